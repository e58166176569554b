def cO (g : Gx) (b : Nat → Nat) (v : Vs) : va_W := [(b 1, .inl (g.2.2.1, 1, .inr (.inl (v.2.2 0))))]
def f_L_load (vO : Vs) (vF : Vs) (vC : Vs) (vT : Vs) (vD : Vs) (vE : Vs) (vU : Vs) (vH : Hv) (x1 : Int32) : Option (Int32 × Vs × Vs × Vs × Vs × Vs × Vs × Vs × Hv) :=
  o9 (f_X7_load vF vC vT vD vE vU vH x1) (fun (c1 : Nat) (r2 : Int32) (vF_3 : Vs) (vC_4 : Vs) (vT_5 : Vs) (vD_6 : Vs) (vE_7 : Vs) (vU_8 : Vs) (vH_9 : Hv) => if c1 = 0 then (gd (inb (0 : Int32) 1) (bn (sJ vO 0 ((0 : Int32)).toNatClampNeg ((r2).toInt64)) (fun (vO_22 : Vs) => some ((0 : Int32), vO_22, vF_3, vC_4, vT_5, vD_6, vE_7, vU_8, vH_9)))) else if c1 = 1 then (some ((1 : Int32), vO, vF_3, vC_4, vT_5, vD_6, vE_7, vU_8, vH_9)) else none)
abbrev wsL_load : List Cond := .codeWith yL_load cL_load 4 (some .int) [(0, 9, 12, 13)] :: UW
abbrev rhL_load : Room := { frames := 11, cells := 1, slots := 6, locals := 256 }
set_option maxHeartbeats 4000000 in
set_option maxRecDepth 100000 in
theorem h_L_load (l : Launch) (hst : l.stackTraces = false) (g : Gx) (bO : Nat → Nat) (vO : Vs) (bF : Nat → Nat) (qF3 : Nat) (qF4 : Nat) (vF : Vs) (bS : Nat → Nat) (bC : Nat → Nat) (vC : Vs) (bT : Nat → Nat) (vT : Vs) (bD : Nat → Nat) (vD : Vs) (bS2 : Nat → Nat) (bE : Nat → Nat) (vE : Vs) (bU : Nat → Nat) (vU : Vs) (bH : Nat → Nat → Nat) (vH : Hv) (x1 : Int32) (r : Int32) (vO1 : Vs) (vF1 : Vs) (vC1 : Vs) (vT1 : Vs) (vD1 : Vs) (vE1 : Vs) (vU1 : Vs) (vH1 : Hv) (hf : f_L_load vO vF vC vT vD vE vU vH x1 = some (r, vO1, vF1, vC1, vT1, vD1, vE1, vU1, vH1)) : CtH l yL_load wsL_load rhL_load g [.ref (bF 0), .int x1, .ref (bO 1)] (cO g bO vO ++ (cF g bF (bD 0) (bS 0) (bH 0 0) qF3 qF4 vF ++ (cS g bS (bC 0) (bT 0) ++ (cC g bC vC ++ (cT g bT vT ++ (cD g bD (bS2 0) vD ++ (cS g bS2 (bE 0) (bU 0) ++ (cC g bE vE ++ (cT g bU vU ++ (cH g bH vH)))))))))) (cO g bO vO1 ++ (cF g bF (bD 0) (bS 0) (bH 0 0) qF3 qF4 vF1 ++ (cS g bS (bC 0) (bT 0) ++ (cC g bC vC1 ++ (cT g bT vT1 ++ (cD g bD (bS2 0) vD1 ++ (cS g bS2 (bE 0) (bU 0) ++ (cC g bE vE1 ++ (cT g bU vU1 ++ (cH g bH vH1)))))))))) r 1 6 := by
  unfold CtH
  intro sz
  refine vx_ofWH (cc := cL_load) (maxL := 4) (ret := (some .int)) (hh := [(0, 9, 12, 13)]) (by decide) rfl ?_
  intro p e s m args below meth c s₁ B hml hv
  obtain ⟨rfl, hsz, hP, hK, hD0, hG⟩ := hv
  have hx := B.exec
  have hb := B.bytes
  have hr := B.returns
  have hts := atoms_spec (ws := wsL_load) B.pre
  have hT := vx_table (x := yL_load) B (hts _ List.mem_cons_self)
  have hown : s.vm.findClass RL = some m.cls := findClass_of_methodNamed B.named
  have hlocks := B.notSynchronized
  subst hsz
  have hD := hD0.self (sz := s.heap.size)
  generalize hAe : va_A (cO g bO vO ++ (cF g bF (bD 0) (bS 0) (bH 0 0) qF3 qF4 vF ++ (cS g bS (bC 0) (bT 0) ++ (cC g bC vC ++ (cT g bT vT ++ (cD g bD (bS2 0) vD ++ (cS g bS2 (bE 0) (bU 0) ++ (cC g bE vE ++ (cT g bU vU ++ (cH g bH vH)))))))))) s.heap.size = A at hD hG ⊢
  have hA : ∀ q : Nat, s.heap.size ≤ q → A q := fun q h => by rw [← hAe]; exact Or.inr h
  clear hAe hD0
  have hS : va_S A s.heap s.heap [] := va_S.rf
  have hl := lv_entry ([.ref (bF 0), .int x1, .ref (bO 1)]) (n := 4) (Nat.le_of_ble_eq_true rfl)
  rw [lg_entry_eq]
  generalize (lg_sl ([.ref (bF 0), .int x1, .ref (bO 1)]) ++ List.replicate (4 - (lg_sl ([.ref (bF 0), .int x1, .ref (bO 1)])).length) Slot.unset).toArray = ls at hl ⊢
  have hl : lv_has ls 4 [(0, .ref (bF 0)), (1, .int x1), (2, .ref (bO 1))] := hl
  have htu : ∀ w ∈ UW, w.before _ s = true := fun w h => hts w (List.mem_cons_of_mem _ h)
  have k_3_170 := htu _ mw_3_170
  unfold f_L_load at hf
  obtain ⟨H, hH⟩ : ∃ z, z = s.heap := ⟨_, rfl⟩
  obtain ⟨locs, hlo⟩ : ∃ z : List Loc, z = [] := ⟨_, rfl⟩
  have hS : va_S A s.heap H locs := by rw [hH, hlo]; exact hS
  rw [← hH] at hP
  have hW : W p l e (headSpec wsL_load rhL_load).room s m ([.ref (bF 0), .int x1, .ref (bO 1)] : List Value).toArray below meth c H locs 0 0 (vx_MQ below (qI g A (cO g bO vO1 ++ (cF g bF (bD 0) (bS 0) (bH 0 0) qF3 qF4 vF1 ++ (cS g bS (bC 0) (bT 0) ++ (cC g bC vC1 ++ (cT g bT vT1 ++ (cD g bD (bS2 0) vD1 ++ (cS g bS2 (bE 0) (bU 0) ++ (cC g bE vE1 ++ (cT g bU vU1 ++ (cH g bH vH1)))))))))) r) (xF A) ([.ref (bF 0), .int x1, .ref (bO 1)] : List Value).toArray s 1 6 A) (F0 m 0 ls []) := by
    refine lv_aload_n hx hb dL_load_0 rfl (lv_at hl 2 rfl) ?_
    refine lv_iconst (v := (0 : Int32)) hx hb dL_load_1 (by decide) ?_
    refine lv_aload_n hx hb dL_load_2 rfl (lv_at hl 0 rfl) ?_
    refine lv_iload_n hx hb dL_load_3 rfl (lv_at hl 1 rfl) ?_
    obtain ⟨c1, r2, vF_3, vC_4, vT_5, vD_6, vE_7, vU_8, vH_9, hg10, hf⟩ := o9_at hf
    rcases Classical.em (¬ c1 = 0) with hc1 | hc1
    · have hf := it_f hf hc1
      rcases Classical.em (c1 = 1) with h11 | h11
      · have hf := it_t hf h11
        rw [h11] at hg10
        refine kh_viQ ⟨hx, hb, hml, hown, htu⟩ hK hP hD hS hA hG (t_X7_load l hst g bF qF3 qF4 vF bS bC vC bT vT bD vD bS2 bE vE bU vU bH vH x1 r2 vF_3 vC_4 vT_5 vD_6 vE_7 vU_8 vH_9 1 hg10 (by decide)) (cwV 1 htu (gU_V mw_3_171 hcX7_load) rfl rfl rfl hdX7_load ⟨Nat.le_of_ble_eq_true rfl, Nat.le_of_ble_eq_true rfl⟩) (q0 := 1) (ci := 7) (fs := fcF bF (bD 0) (bS 0) (bH 0 0) qF3 qF4 vF) (q := (RX7, TX7, 12)) rfl rfl rfl (wr := (cO g bO vO)) (w2 := cO g bO vO ++ (cF g bF (bD 0) (bS 0) (bH 0 0) qF3 qF4 vF_3 ++ (cS g bS (bC 0) (bT 0) ++ (cC g bC vC_4 ++ (cT g bT vT_5 ++ (cD g bD (bS2 0) vD_6 ++ (cS g bS2 (bE 0) (bU 0) ++ (cC g bE vE_7 ++ (cT g bU vU_8 ++ (cH g bH vH_9)))))))))) (kpc (fun P => by simp only [List.countP_append] <;> omega)) (kpc (fun P => by simp only [List.countP_append] <;> omega)) (As := [.int x1]) (rest := [.int (0 : Int32), .ref (bO 1)]) rfl rfl hl.1 (Nat.le_of_ble_eq_true rfl) dL_load_4 ⟨Nat.le_refl _, Nat.le_refl _⟩ (fun q9 ce H locs hP hD hS g1 g2 g3 => ?_)
        refine vx_catch (E := "java/lang/IllegalArgumentException") (name := "java/lang/IllegalArgumentException") hown [] (⟨0, 9, 12, 13⟩ : ExceptionTableEntry) [] hT (fun z hz => nomatch hz) (by decide) (by decide) k_3_170 (va_Nw.use rfl (hG.1.2.2.2.2.2.1 "java/lang/IllegalArgumentException" (List.mem_of_getElem? (i := 0) rfl))) g1 g2 g3 ?_
        refine W.eq (g2 := F0 m 12 ls [.ref q9]) rfl ?_
        refine lv_astore_n (lv' := [(3, .ref q9), (0, .ref (bF 0)), (1, .int x1), (2, .ref (bO 1))]) hx hb dL_load_12 rfl hl (by decide) rfl (fun ls hl => ?_)
        refine lv_iconst (v := (1 : Int32)) hx hb dL_load_13 (by decide) ?_
        obtain ⟨e12, e13, e14, e15, e16, e17, e18, e19, e20⟩ := kp_9 hf
        rw [e13] at hP hD
        rw [e14] at hP hD
        rw [e15] at hP hD
        rw [e16] at hP hD
        rw [e17] at hP hD
        rw [e18] at hP hD
        rw [e19] at hP hD
        rw [e20] at hP hD
        exact vx_ret (W.widen (k := 1) (n := 6) (by omega) (by omega) (k_iret hx hb hr hlocks hK hP hD hS e12 dL_load_14))
      have hf := it_f hf h11
      cases hf
    have hc1 := Classical.not_not.mp hc1
    have hf := it_t hf hc1
    rw [hc1] at hg10
    refine k_viQ ⟨hx, hb, hml, hown, htu⟩ hK hP hD hS hA hG (c_X7_load l g bF qF3 qF4 vF bS bC vC bT vT bD vD bS2 bE vE bU vU bH vH x1 r2 vF_3 vC_4 vT_5 vD_6 vE_7 vU_8 vH_9 hg10) (cwV 1 htu (gU_V mw_3_171 hcX7_load) rfl rfl rfl hdX7_load ⟨Nat.le_of_ble_eq_true rfl, Nat.le_of_ble_eq_true rfl⟩) (q0 := 1) (ci := 7) (fs := fcF bF (bD 0) (bS 0) (bH 0 0) qF3 qF4 vF) (q := (RX7, TX7, 12)) rfl rfl rfl (wr := (cO g bO vO)) (w2 := cO g bO vO ++ (cF g bF (bD 0) (bS 0) (bH 0 0) qF3 qF4 vF_3 ++ (cS g bS (bC 0) (bT 0) ++ (cC g bC vC_4 ++ (cT g bT vT_5 ++ (cD g bD (bS2 0) vD_6 ++ (cS g bS2 (bE 0) (bU 0) ++ (cC g bE vE_7 ++ (cT g bU vU_8 ++ (cH g bH vH_9)))))))))) (kpc (fun P => by simp only [List.countP_append] <;> omega)) (kpc (fun P => by simp only [List.countP_append] <;> omega)) (As := [.int x1]) (rest := [.int (0 : Int32), .ref (bO 1)]) rfl rfl hl.1 (Nat.le_of_ble_eq_true rfl) dL_load_4 (k1 := 0) (n1 := 0) rfl rfl ⟨Nat.zero_le _, Nat.zero_le _⟩ (fun H locs hP hD hS => ?_)
    refine lv_i2l (v := (r2).toInt64) hx hb dL_load_7 rfl ?_
    obtain ⟨h21, hf⟩ := gd_in hf
    refine va_last (D := g.1) (f := (vO.2.2 0)) hx hb hK hP hD hS 0 1 rfl rfl h21 dL_load_8 (fun H locs hP hD hS => ?_)
    obtain ⟨vO_22, evO_22⟩ : ∃ z, z = sJ vO 0 ((0 : Int32)).toNatClampNeg ((r2).toInt64) := ⟨_, rfl⟩
    have hf := bn_at hf evO_22
    have hP : va_P g.1 vwCl (cO g bO vO_22 ++ (cF g bF (bD 0) (bS 0) (bH 0 0) qF3 qF4 vF_3 ++ (cS g bS (bC 0) (bT 0) ++ (cC g bC vC_4 ++ (cT g bT vT_5 ++ (cD g bD (bS2 0) vD_6 ++ (cS g bS2 (bE 0) (bU 0) ++ (cC g bE vE_7 ++ (cT g bU vU_8 ++ (cH g bH vH_9)))))))))) H := by rw [evO_22]; exact hP
    have hD : va_D A (cO g bO vO_22 ++ (cF g bF (bD 0) (bS 0) (bH 0 0) qF3 qF4 vF_3 ++ (cS g bS (bC 0) (bT 0) ++ (cC g bC vC_4 ++ (cT g bT vT_5 ++ (cD g bD (bS2 0) vD_6 ++ (cS g bS2 (bE 0) (bU 0) ++ (cC g bE vE_7 ++ (cT g bU vU_8 ++ (cH g bH vH_9)))))))))) := by rw [evO_22]; exact hD
    refine lv_goto (tgt := 15) hx hb dL_load_9 (by decide) ?_
    refine lv_iconst (v := (0 : Int32)) hx hb dL_load_15 (by decide) ?_
    obtain ⟨e23, e24, e25, e26, e27, e28, e29, e30, e31⟩ := kp_9 hf
    rw [e24] at hP hD
    rw [e25] at hP hD
    rw [e26] at hP hD
    rw [e27] at hP hD
    rw [e28] at hP hD
    rw [e29] at hP hD
    rw [e30] at hP hD
    rw [e31] at hP hD
    exact vx_ret (W.widen (k := 1) (n := 6) (by omega) (by omega) (k_iret hx hb hr hlocks hK hP hD hS e23 dL_load_16))
  rw [hH, hlo] at hW
  exact hW
def f_L_state (vO : Vs) (vF : Vs) (vC : Vs) (vT : Vs) (nRT : Nat) (vRT : Vs) (vG : Vs) (vB : Vs) (x1 : Int32) : Option (Int32 × Vs × Vs × Vs × Vs × Vs) :=
  o6 (f_X7_state vF vC vT nRT vRT vG vB x1) (fun (c1 : Nat) (r2 : Int32) (vF_3 : Vs) (vRT_4 : Vs) (vG_5 : Vs) (vB_6 : Vs) => if c1 = 0 then (gd (inb (0 : Int32) 1) (bn (sJ vO 0 ((0 : Int32)).toNatClampNeg ((r2).toInt64)) (fun (vO_16 : Vs) => some ((0 : Int32), vO_16, vF_3, vRT_4, vG_5, vB_6)))) else if c1 = 1 then (some ((1 : Int32), vO, vF_3, vRT_4, vG_5, vB_6)) else none)
abbrev wsL_state : List Cond := .codeWith yL_state cL_state 4 (some .int) [(0, 9, 12, 13)] :: UW
abbrev rhL_state : Room := { frames := 10, cells := 1, slots := 6, locals := 185 }
set_option maxHeartbeats 4000000 in
set_option maxRecDepth 100000 in
theorem h_L_state (l : Launch) (hst : l.stackTraces = false) (g : Gx) (bO : Nat → Nat) (vO : Vs) (bF : Nat → Nat) (qF0 : Nat) (qF2 : Nat) (qF3 : Nat) (vF : Vs) (bS : Nat → Nat) (bC : Nat → Nat) (vC : Vs) (bT : Nat → Nat) (vT : Vs) (bRT : Nat → Nat) (nRT : Nat) (vRT : Vs) (bG : Nat → Nat) (vG : Vs) (bB : Nat → Nat) (vB : Vs) (x1 : Int32) (r : Int32) (vO1 : Vs) (vF1 : Vs) (vRT1 : Vs) (vG1 : Vs) (vB1 : Vs) (hf : f_L_state vO vF vC vT nRT vRT vG vB x1 = some (r, vO1, vF1, vRT1, vG1, vB1)) : CtH l yL_state wsL_state rhL_state g [.ref (bF 0), .int x1, .ref (bO 1)] (cO g bO vO ++ (cF g bF qF0 (bS 0) qF2 qF3 (bRT 0) vF ++ (cS g bS (bC 0) (bT 0) ++ (cC g bC vC ++ (cT g bT vT ++ (cR g bRT nRT (bG 0) (bB 0) vRT ++ (cL g bG vG ++ (cL g bB vB)))))))) (cO g bO vO1 ++ (cF g bF qF0 (bS 0) qF2 qF3 (bRT 0) vF1 ++ (cS g bS (bC 0) (bT 0) ++ (cC g bC vC ++ (cT g bT vT ++ (cR g bRT nRT (bG 0) (bB 0) vRT1 ++ (cL g bG vG1 ++ (cL g bB vB1)))))))) r 1 6 := by
  unfold CtH
  intro sz
  refine vx_ofWH (cc := cL_state) (maxL := 4) (ret := (some .int)) (hh := [(0, 9, 12, 13)]) (by decide) rfl ?_
  intro p e s m args below meth c s₁ B hml hv
  obtain ⟨rfl, hsz, hP, hK, hD0, hG⟩ := hv
  have hx := B.exec
  have hb := B.bytes
  have hr := B.returns
  have hts := atoms_spec (ws := wsL_state) B.pre
  have hT := vx_table (x := yL_state) B (hts _ List.mem_cons_self)
  have hown : s.vm.findClass RL = some m.cls := findClass_of_methodNamed B.named
  have hlocks := B.notSynchronized
  subst hsz
  have hD := hD0.self (sz := s.heap.size)
  generalize hAe : va_A (cO g bO vO ++ (cF g bF qF0 (bS 0) qF2 qF3 (bRT 0) vF ++ (cS g bS (bC 0) (bT 0) ++ (cC g bC vC ++ (cT g bT vT ++ (cR g bRT nRT (bG 0) (bB 0) vRT ++ (cL g bG vG ++ (cL g bB vB)))))))) s.heap.size = A at hD hG ⊢
  have hA : ∀ q : Nat, s.heap.size ≤ q → A q := fun q h => by rw [← hAe]; exact Or.inr h
  clear hAe hD0
  have hS : va_S A s.heap s.heap [] := va_S.rf
  have hl := lv_entry ([.ref (bF 0), .int x1, .ref (bO 1)]) (n := 4) (Nat.le_of_ble_eq_true rfl)
  rw [lg_entry_eq]
  generalize (lg_sl ([.ref (bF 0), .int x1, .ref (bO 1)]) ++ List.replicate (4 - (lg_sl ([.ref (bF 0), .int x1, .ref (bO 1)])).length) Slot.unset).toArray = ls at hl ⊢
  have hl : lv_has ls 4 [(0, .ref (bF 0)), (1, .int x1), (2, .ref (bO 1))] := hl
  have htu : ∀ w ∈ UW, w.before _ s = true := fun w h => hts w (List.mem_cons_of_mem _ h)
  have k_3_170 := htu _ mw_3_170
  unfold f_L_state at hf
  obtain ⟨H, hH⟩ : ∃ z, z = s.heap := ⟨_, rfl⟩
  obtain ⟨locs, hlo⟩ : ∃ z : List Loc, z = [] := ⟨_, rfl⟩
  have hS : va_S A s.heap H locs := by rw [hH, hlo]; exact hS
  rw [← hH] at hP
  have hW : W p l e (headSpec wsL_state rhL_state).room s m ([.ref (bF 0), .int x1, .ref (bO 1)] : List Value).toArray below meth c H locs 0 0 (vx_MQ below (qI g A (cO g bO vO1 ++ (cF g bF qF0 (bS 0) qF2 qF3 (bRT 0) vF1 ++ (cS g bS (bC 0) (bT 0) ++ (cC g bC vC ++ (cT g bT vT ++ (cR g bRT nRT (bG 0) (bB 0) vRT1 ++ (cL g bG vG1 ++ (cL g bB vB1)))))))) r) (xF A) ([.ref (bF 0), .int x1, .ref (bO 1)] : List Value).toArray s 1 6 A) (F0 m 0 ls []) := by
    refine lv_aload_n hx hb dL_state_0 rfl (lv_at hl 2 rfl) ?_
    refine lv_iconst (v := (0 : Int32)) hx hb dL_state_1 (by decide) ?_
    refine lv_aload_n hx hb dL_state_2 rfl (lv_at hl 0 rfl) ?_
    refine lv_iload_n hx hb dL_state_3 rfl (lv_at hl 1 rfl) ?_
    obtain ⟨c1, r2, vF_3, vRT_4, vG_5, vB_6, hg7, hf⟩ := o6_at hf
    rcases Classical.em (¬ c1 = 0) with hc1 | hc1
    · have hf := it_f hf hc1
      rcases Classical.em (c1 = 1) with h8 | h8
      · have hf := it_t hf h8
        rw [h8] at hg7
        refine kh_viP ⟨hx, hb, hml, hown, htu⟩ hK hP hD hS hA hG (t_X7_state l hst g bF qF0 qF2 qF3 vF bS bC vC bT vT bRT nRT vRT bG vG bB vB x1 r2 vF_3 vRT_4 vG_5 vB_6 1 hg7 (by decide)) (cwV 1 htu (gU_V mw_4_120 hcX7_state) rfl rfl rfl hdX7_state ⟨Nat.le_of_ble_eq_true rfl, Nat.le_of_ble_eq_true rfl⟩) (q0 := 1) (ci := 7) (fs := fcF bF qF0 (bS 0) qF2 qF3 (bRT 0) vF) (q := (RX7, TX7, 12)) rfl rfl rfl (wr := (cO g bO vO)) (w2 := cO g bO vO ++ (cF g bF qF0 (bS 0) qF2 qF3 (bRT 0) vF_3 ++ (cS g bS (bC 0) (bT 0) ++ (cC g bC vC ++ (cT g bT vT ++ (cR g bRT nRT (bG 0) (bB 0) vRT_4 ++ (cL g bG vG_5 ++ (cL g bB vB_6)))))))) [1, 2, 3, 4, 5, 6, 7, 8, 9, 10, 11, 12, 13, 14, 15, 16, 17, 18, 19, 20, 21, 22, 23, 24, 25, 26, 27, 28, 29, 30, 31, 32] [0] [0, 1, 2, 3, 4, 5, 6, 7, 8, 9, 10, 11, 12, 13, 14, 15, 16, 17, 18, 19, 20, 21, 22, 23, 24, 25, 26, 27, 28, 29, 30, 31, 32] rfl rfl (by decide) (by decide) (by decide) rfl rfl (by decide) (As := [.int x1]) (rest := [.int (0 : Int32), .ref (bO 1)]) rfl rfl hl.1 (Nat.le_of_ble_eq_true rfl) dL_state_4 ⟨Nat.le_refl _, Nat.le_refl _⟩ (fun q9 ce H locs hP hD hS g1 g2 g3 => ?_)
        refine vx_catch (E := "java/lang/IllegalArgumentException") (name := "java/lang/IllegalArgumentException") hown [] (⟨0, 9, 12, 13⟩ : ExceptionTableEntry) [] hT (fun z hz => nomatch hz) (by decide) (by decide) k_3_170 (va_Nw.use rfl (hG.1.2.2.2.2.2.1 "java/lang/IllegalArgumentException" (List.mem_of_getElem? (i := 0) rfl))) g1 g2 g3 ?_
        refine W.eq (g2 := F0 m 12 ls [.ref q9]) rfl ?_
        refine lv_astore_n (lv' := [(3, .ref q9), (0, .ref (bF 0)), (1, .int x1), (2, .ref (bO 1))]) hx hb dL_state_12 rfl hl (by decide) rfl (fun ls hl => ?_)
        refine lv_iconst (v := (1 : Int32)) hx hb dL_state_13 (by decide) ?_
        obtain ⟨e9, e10, e11, e12, e13, e14⟩ := kp_6 hf
        rw [e10] at hP hD
        rw [e11] at hP hD
        rw [e12] at hP hD
        rw [e13] at hP hD
        rw [e14] at hP hD
        exact vx_ret (W.widen (k := 1) (n := 6) (by omega) (by omega) (k_iret hx hb hr hlocks hK hP hD hS e9 dL_state_14))
      have hf := it_f hf h8
      cases hf
    have hc1 := Classical.not_not.mp hc1
    have hf := it_t hf hc1
    rw [hc1] at hg7
    refine k_viP ⟨hx, hb, hml, hown, htu⟩ hK hP hD hS hA hG (c_X7_state l g bF qF0 qF2 qF3 vF bS bC vC bT vT bRT nRT vRT bG vG bB vB x1 r2 vF_3 vRT_4 vG_5 vB_6 hg7) (cwV 1 htu (gU_V mw_4_120 hcX7_state) rfl rfl rfl hdX7_state ⟨Nat.le_of_ble_eq_true rfl, Nat.le_of_ble_eq_true rfl⟩) (q0 := 1) (ci := 7) (fs := fcF bF qF0 (bS 0) qF2 qF3 (bRT 0) vF) (q := (RX7, TX7, 12)) rfl rfl rfl (wr := (cO g bO vO)) (w2 := cO g bO vO ++ (cF g bF qF0 (bS 0) qF2 qF3 (bRT 0) vF_3 ++ (cS g bS (bC 0) (bT 0) ++ (cC g bC vC ++ (cT g bT vT ++ (cR g bRT nRT (bG 0) (bB 0) vRT_4 ++ (cL g bG vG_5 ++ (cL g bB vB_6)))))))) [1, 2, 3, 4, 5, 6, 7, 8, 9, 10, 11, 12, 13, 14, 15, 16, 17, 18, 19, 20, 21, 22, 23, 24, 25, 26, 27, 28, 29, 30, 31, 32] [0] [0, 1, 2, 3, 4, 5, 6, 7, 8, 9, 10, 11, 12, 13, 14, 15, 16, 17, 18, 19, 20, 21, 22, 23, 24, 25, 26, 27, 28, 29, 30, 31, 32] rfl rfl (by decide) (by decide) (by decide) rfl rfl (by decide) (As := [.int x1]) (rest := [.int (0 : Int32), .ref (bO 1)]) rfl rfl hl.1 (Nat.le_of_ble_eq_true rfl) dL_state_4 (k1 := 0) (n1 := 0) rfl rfl ⟨Nat.zero_le _, Nat.zero_le _⟩ (fun H locs hP hD hS => ?_)
    refine lv_i2l (v := (r2).toInt64) hx hb dL_state_7 rfl ?_
    obtain ⟨h15, hf⟩ := gd_in hf
    refine va_last (D := g.1) (f := (vO.2.2 0)) hx hb hK hP hD hS 0 1 rfl rfl h15 dL_state_8 (fun H locs hP hD hS => ?_)
    obtain ⟨vO_16, evO_16⟩ : ∃ z, z = sJ vO 0 ((0 : Int32)).toNatClampNeg ((r2).toInt64) := ⟨_, rfl⟩
    have hf := bn_at hf evO_16
    have hP : va_P g.1 vwCl (cO g bO vO_16 ++ (cF g bF qF0 (bS 0) qF2 qF3 (bRT 0) vF_3 ++ (cS g bS (bC 0) (bT 0) ++ (cC g bC vC ++ (cT g bT vT ++ (cR g bRT nRT (bG 0) (bB 0) vRT_4 ++ (cL g bG vG_5 ++ (cL g bB vB_6)))))))) H := by rw [evO_16]; exact hP
    have hD : va_D A (cO g bO vO_16 ++ (cF g bF qF0 (bS 0) qF2 qF3 (bRT 0) vF_3 ++ (cS g bS (bC 0) (bT 0) ++ (cC g bC vC ++ (cT g bT vT ++ (cR g bRT nRT (bG 0) (bB 0) vRT_4 ++ (cL g bG vG_5 ++ (cL g bB vB_6)))))))) := by rw [evO_16]; exact hD
    refine lv_goto (tgt := 15) hx hb dL_state_9 (by decide) ?_
    refine lv_iconst (v := (0 : Int32)) hx hb dL_state_15 (by decide) ?_
    obtain ⟨e17, e18, e19, e20, e21, e22⟩ := kp_6 hf
    rw [e18] at hP hD
    rw [e19] at hP hD
    rw [e20] at hP hD
    rw [e21] at hP hD
    rw [e22] at hP hD
    exact vx_ret (W.widen (k := 1) (n := 6) (by omega) (by omega) (k_iret hx hb hr hlocks hK hP hD hS e17 dL_state_16))
  rw [hH, hlo] at hW
  exact hW
def f_L_wire (vO : Vs) (vF : Vs) (vC : Vs) (x1 : Int32) (x2 : Int32) : Option (Int32 × Vs) :=
  o2 (f_X7_wire vF vC x1 x2) (fun (c1 : Nat) (r2 : Int32) => if c1 = 0 then (gd (inb (0 : Int32) 1) (bn (sJ vO 0 ((0 : Int32)).toNatClampNeg ((r2).toInt64)) (fun (vO_11 : Vs) => some ((0 : Int32), vO_11)))) else if c1 = 2 then (some ((1 : Int32), vO)) else if c1 = 1 then (some ((2 : Int32), vO)) else none)
abbrev wsL_wire : List Cond := .codeWith yL_wire cL_wire 5 (some .int) [(0, 10, 13, 22), (0, 10, 17, 13)] :: UW
abbrev rhL_wire : Room := { frames := 11, cells := 1, slots := 6, locals := 203 }
set_option maxHeartbeats 4000000 in
set_option maxRecDepth 100000 in
theorem h_L_wire (l : Launch) (hst : l.stackTraces = false) (g : Gx) (bO : Nat → Nat) (vO : Vs) (bF : Nat → Nat) (qF0 : Nat) (qF2 : Nat) (qF3 : Nat) (qF4 : Nat) (vF : Vs) (bS : Nat → Nat) (qS1 : Nat) (bC : Nat → Nat) (vC : Vs) (x1 : Int32) (x2 : Int32) (r : Int32) (vO1 : Vs) (hf : f_L_wire vO vF vC x1 x2 = some (r, vO1)) : CtH l yL_wire wsL_wire rhL_wire g [.ref (bF 0), .int x1, .int x2, .ref (bO 1)] (cO g bO vO ++ (cF g bF qF0 (bS 0) qF2 qF3 qF4 vF ++ (cS g bS (bC 0) qS1 ++ (cC g bC vC)))) (cO g bO vO1 ++ (cF g bF qF0 (bS 0) qF2 qF3 qF4 vF ++ (cS g bS (bC 0) qS1 ++ (cC g bC vC)))) r 1 6 := by
  unfold CtH
  intro sz
  refine vx_ofWH (cc := cL_wire) (maxL := 5) (ret := (some .int)) (hh := [(0, 10, 13, 22), (0, 10, 17, 13)]) (by decide) rfl ?_
  intro p e s m args below meth c s₁ B hml hv
  obtain ⟨rfl, hsz, hP, hK, hD0, hG⟩ := hv
  have hx := B.exec
  have hb := B.bytes
  have hr := B.returns
  have hts := atoms_spec (ws := wsL_wire) B.pre
  have hT := vx_table (x := yL_wire) B (hts _ List.mem_cons_self)
  have hown : s.vm.findClass RL = some m.cls := findClass_of_methodNamed B.named
  have hlocks := B.notSynchronized
  subst hsz
  have hD := hD0.self (sz := s.heap.size)
  generalize hAe : va_A (cO g bO vO ++ (cF g bF qF0 (bS 0) qF2 qF3 qF4 vF ++ (cS g bS (bC 0) qS1 ++ (cC g bC vC)))) s.heap.size = A at hD hG ⊢
  have hA : ∀ q : Nat, s.heap.size ≤ q → A q := fun q h => by rw [← hAe]; exact Or.inr h
  clear hAe hD0
  have hS : va_S A s.heap s.heap [] := va_S.rf
  have hl := lv_entry ([.ref (bF 0), .int x1, .int x2, .ref (bO 1)]) (n := 5) (Nat.le_of_ble_eq_true rfl)
  rw [lg_entry_eq]
  generalize (lg_sl ([.ref (bF 0), .int x1, .int x2, .ref (bO 1)]) ++ List.replicate (5 - (lg_sl ([.ref (bF 0), .int x1, .int x2, .ref (bO 1)])).length) Slot.unset).toArray = ls at hl ⊢
  have hl : lv_has ls 5 [(0, .ref (bF 0)), (1, .int x1), (2, .int x2), (3, .ref (bO 1))] := hl
  have htu : ∀ w ∈ UW, w.before _ s = true := fun w h => hts w (List.mem_cons_of_mem _ h)
  have k_4_124 := htu _ mw_4_124
  have k_3_170 := htu _ mw_3_170
  unfold f_L_wire at hf
  obtain ⟨H, hH⟩ : ∃ z, z = s.heap := ⟨_, rfl⟩
  obtain ⟨locs, hlo⟩ : ∃ z : List Loc, z = [] := ⟨_, rfl⟩
  have hS : va_S A s.heap H locs := by rw [hH, hlo]; exact hS
  rw [← hH] at hP
  have hW : W p l e (headSpec wsL_wire rhL_wire).room s m ([.ref (bF 0), .int x1, .int x2, .ref (bO 1)] : List Value).toArray below meth c H locs 0 0 (vx_MQ below (qI g A (cO g bO vO1 ++ (cF g bF qF0 (bS 0) qF2 qF3 qF4 vF ++ (cS g bS (bC 0) qS1 ++ (cC g bC vC)))) r) (xF A) ([.ref (bF 0), .int x1, .int x2, .ref (bO 1)] : List Value).toArray s 1 6 A) (F0 m 0 ls []) := by
    refine lv_aload_n hx hb dL_wire_0 rfl (lv_at hl 3 rfl) ?_
    refine lv_iconst (v := (0 : Int32)) hx hb dL_wire_1 (by decide) ?_
    refine lv_aload_n hx hb dL_wire_2 rfl (lv_at hl 0 rfl) ?_
    refine lv_iload_n hx hb dL_wire_3 rfl (lv_at hl 1 rfl) ?_
    refine lv_iload_n hx hb dL_wire_4 rfl (lv_at hl 2 rfl) ?_
    obtain ⟨c1, r2, hg3, hf⟩ := o2_at hf
    rcases Classical.em (¬ c1 = 0) with hc1 | hc1
    · have hf := it_f hf hc1
      rcases Classical.em (c1 = 2) with h4 | h4
      · have hf := it_t hf h4
        rw [h4] at hg3
        refine kh_viP ⟨hx, hb, hml, hown, htu⟩ hK hP hD hS hA hG (t_X7_wire l hst g bF qF0 qF2 qF3 qF4 vF bS qS1 bC vC x1 x2 r2 2 hg3 (by decide)) (cwV 2 htu (gU_V mw_4_125 hcX7_wire) rfl rfl rfl hdX7_wire ⟨Nat.le_of_ble_eq_true rfl, Nat.le_of_ble_eq_true rfl⟩) (q0 := 1) (ci := 7) (fs := fcF bF qF0 (bS 0) qF2 qF3 qF4 vF) (q := (RX7, TX7, 12)) rfl rfl rfl (wr := (cO g bO vO)) (w2 := cO g bO vO ++ (cF g bF qF0 (bS 0) qF2 qF3 qF4 vF ++ (cS g bS (bC 0) qS1 ++ (cC g bC vC)))) [1, 2, 3, 4, 5, 6, 7, 8, 9, 10, 11, 12, 13, 14, 15, 16, 17, 18] [0] [0, 1, 2, 3, 4, 5, 6, 7, 8, 9, 10, 11, 12, 13, 14, 15, 16, 17, 18] rfl rfl (by decide) (by decide) (by decide) rfl rfl (by decide) (As := [.int x1, .int x2]) (rest := [.int (0 : Int32), .ref (bO 1)]) rfl rfl hl.1 (Nat.le_of_ble_eq_true rfl) dL_wire_5 ⟨Nat.le_refl _, Nat.le_refl _⟩ (fun q9 ce H locs hP hD hS g1 g2 g3 => ?_)
        refine vx_catch (E := "java/lang/IndexOutOfBoundsException") (name := "java/lang/IndexOutOfBoundsException") hown [] (⟨0, 10, 13, 22⟩ : ExceptionTableEntry) [(⟨0, 10, 17, 13⟩ : ExceptionTableEntry)] hT (fun z hz => nomatch hz) (by decide) (by decide) k_4_124 (va_Nw.use rfl (hG.1.2.2.2.2.2.1 "java/lang/IndexOutOfBoundsException" (List.mem_of_getElem? (i := 1) rfl))) g1 g2 g3 ?_
        refine W.eq (g2 := F0 m 13 ls [.ref q9]) rfl ?_
        refine lv_astore (lv' := [(4, .ref q9), (0, .ref (bF 0)), (1, .int x1), (2, .int x2), (3, .ref (bO 1))]) hx hb dL_wire_13 hl (by decide) rfl (fun ls hl => ?_)
        refine lv_iconst (v := (1 : Int32)) hx hb dL_wire_15 (by decide) ?_
        obtain ⟨e5, e6⟩ := kp_2 hf
        rw [e6] at hP hD
        exact vx_ret (W.widen (k := 1) (n := 6) (by omega) (by omega) (k_iret hx hb hr hlocks hK hP hD hS e5 dL_wire_16))
      have hf := it_f hf h4
      rcases Classical.em (c1 = 1) with h7 | h7
      · have hf := it_t hf h7
        rw [h7] at hg3
        refine kh_viP ⟨hx, hb, hml, hown, htu⟩ hK hP hD hS hA hG (t_X7_wire l hst g bF qF0 qF2 qF3 qF4 vF bS qS1 bC vC x1 x2 r2 1 hg3 (by decide)) (cwV 2 htu (gU_V mw_4_125 hcX7_wire) rfl rfl rfl hdX7_wire ⟨Nat.le_of_ble_eq_true rfl, Nat.le_of_ble_eq_true rfl⟩) (q0 := 1) (ci := 7) (fs := fcF bF qF0 (bS 0) qF2 qF3 qF4 vF) (q := (RX7, TX7, 12)) rfl rfl rfl (wr := (cO g bO vO)) (w2 := cO g bO vO ++ (cF g bF qF0 (bS 0) qF2 qF3 qF4 vF ++ (cS g bS (bC 0) qS1 ++ (cC g bC vC)))) [1, 2, 3, 4, 5, 6, 7, 8, 9, 10, 11, 12, 13, 14, 15, 16, 17, 18] [0] [0, 1, 2, 3, 4, 5, 6, 7, 8, 9, 10, 11, 12, 13, 14, 15, 16, 17, 18] rfl rfl (by decide) (by decide) (by decide) rfl rfl (by decide) (As := [.int x1, .int x2]) (rest := [.int (0 : Int32), .ref (bO 1)]) rfl rfl hl.1 (Nat.le_of_ble_eq_true rfl) dL_wire_5 ⟨Nat.le_refl _, Nat.le_refl _⟩ (fun q9 ce H locs hP hD hS g1 g2 g3 => ?_)
        refine vx_catch (E := "java/lang/IllegalArgumentException") (name := "java/lang/IllegalArgumentException") hown [(⟨0, 10, 13, 22⟩ : ExceptionTableEntry)] (⟨0, 10, 17, 13⟩ : ExceptionTableEntry) [] hT (fun z hz => by cases List.mem_singleton.mp hz; exact Or.inr ⟨by decide, "java/lang/IndexOutOfBoundsException", k_4_124, hG.1.2.2.2.2.2.2 ("java/lang/IllegalArgumentException", "java/lang/IndexOutOfBoundsException") (List.mem_of_getElem? (i := 0) rfl)⟩) (by decide) (by decide) k_3_170 (va_Nw.use rfl (hG.1.2.2.2.2.2.1 "java/lang/IllegalArgumentException" (List.mem_of_getElem? (i := 0) rfl))) g1 g2 g3 ?_
        refine W.eq (g2 := F0 m 17 ls [.ref q9]) rfl ?_
        refine lv_astore (lv' := [(4, .ref q9), (0, .ref (bF 0)), (1, .int x1), (2, .int x2), (3, .ref (bO 1))]) hx hb dL_wire_17 hl (by decide) rfl (fun ls hl => ?_)
        refine lv_iconst (v := (2 : Int32)) hx hb dL_wire_19 (by decide) ?_
        obtain ⟨e8, e9⟩ := kp_2 hf
        rw [e9] at hP hD
        exact vx_ret (W.widen (k := 1) (n := 6) (by omega) (by omega) (k_iret hx hb hr hlocks hK hP hD hS e8 dL_wire_20))
      have hf := it_f hf h7
      cases hf
    have hc1 := Classical.not_not.mp hc1
    have hf := it_t hf hc1
    rw [hc1] at hg3
    refine k_viP ⟨hx, hb, hml, hown, htu⟩ hK hP hD hS hA hG (c_X7_wire l g bF qF0 qF2 qF3 qF4 vF bS qS1 bC vC x1 x2 r2 hg3) (cwV 2 htu (gU_V mw_4_125 hcX7_wire) rfl rfl rfl hdX7_wire ⟨Nat.le_of_ble_eq_true rfl, Nat.le_of_ble_eq_true rfl⟩) (q0 := 1) (ci := 7) (fs := fcF bF qF0 (bS 0) qF2 qF3 qF4 vF) (q := (RX7, TX7, 12)) rfl rfl rfl (wr := (cO g bO vO)) (w2 := cO g bO vO ++ (cF g bF qF0 (bS 0) qF2 qF3 qF4 vF ++ (cS g bS (bC 0) qS1 ++ (cC g bC vC)))) [1, 2, 3, 4, 5, 6, 7, 8, 9, 10, 11, 12, 13, 14, 15, 16, 17, 18] [0] [0, 1, 2, 3, 4, 5, 6, 7, 8, 9, 10, 11, 12, 13, 14, 15, 16, 17, 18] rfl rfl (by decide) (by decide) (by decide) rfl rfl (by decide) (As := [.int x1, .int x2]) (rest := [.int (0 : Int32), .ref (bO 1)]) rfl rfl hl.1 (Nat.le_of_ble_eq_true rfl) dL_wire_5 (k1 := 0) (n1 := 0) rfl rfl ⟨Nat.zero_le _, Nat.zero_le _⟩ (fun H locs hP hD hS => ?_)
    refine lv_i2l (v := (r2).toInt64) hx hb dL_wire_8 rfl ?_
    obtain ⟨h10, hf⟩ := gd_in hf
    refine va_last (D := g.1) (f := (vO.2.2 0)) hx hb hK hP hD hS 0 1 rfl rfl h10 dL_wire_9 (fun H locs hP hD hS => ?_)
    obtain ⟨vO_11, evO_11⟩ : ∃ z, z = sJ vO 0 ((0 : Int32)).toNatClampNeg ((r2).toInt64) := ⟨_, rfl⟩
    have hf := bn_at hf evO_11
    have hP : va_P g.1 vwCl (cO g bO vO_11 ++ (cF g bF qF0 (bS 0) qF2 qF3 qF4 vF ++ (cS g bS (bC 0) qS1 ++ (cC g bC vC)))) H := by rw [evO_11]; exact hP
    have hD : va_D A (cO g bO vO_11 ++ (cF g bF qF0 (bS 0) qF2 qF3 qF4 vF ++ (cS g bS (bC 0) qS1 ++ (cC g bC vC)))) := by rw [evO_11]; exact hD
    refine lv_goto (tgt := 21) hx hb dL_wire_10 (by decide) ?_
    refine lv_iconst (v := (0 : Int32)) hx hb dL_wire_21 (by decide) ?_
    obtain ⟨e12, e13⟩ := kp_2 hf
    rw [e13] at hP hD
    exact vx_ret (W.widen (k := 1) (n := 6) (by omega) (by omega) (k_iret hx hb hr hlocks hK hP hD hS e12 dL_wire_22))
  rw [hH, hlo] at hW
  exact hW
def f_L_operand (vO : Vs) (vF : Vs) (vC : Vs) (x1 : Int32) (x2 : Int32) : Option (Int32 × Vs) :=
  o2 (f_X7_operand vF vC x1 x2) (fun (c1 : Nat) (r2 : Int32) => if c1 = 0 then (gd (inb (0 : Int32) 1) (bn (sJ vO 0 ((0 : Int32)).toNatClampNeg ((r2).toInt64)) (fun (vO_11 : Vs) => some ((0 : Int32), vO_11)))) else if c1 = 2 then (some ((1 : Int32), vO)) else if c1 = 3 then (some ((2 : Int32), vO)) else none)
abbrev wsL_operand : List Cond := .codeWith yL_operand cL_operand 5 (some .int) [(0, 10, 13, 22), (0, 10, 17, 27)] :: UW
abbrev rhL_operand : Room := { frames := 11, cells := 1, slots := 6, locals := 203 }
set_option maxHeartbeats 4000000 in
set_option maxRecDepth 100000 in
theorem h_L_operand (l : Launch) (hst : l.stackTraces = false) (g : Gx) (bO : Nat → Nat) (vO : Vs) (bF : Nat → Nat) (qF0 : Nat) (qF2 : Nat) (qF3 : Nat) (qF4 : Nat) (vF : Vs) (bS : Nat → Nat) (qS1 : Nat) (bC : Nat → Nat) (vC : Vs) (x1 : Int32) (x2 : Int32) (r : Int32) (vO1 : Vs) (hf : f_L_operand vO vF vC x1 x2 = some (r, vO1)) : CtH l yL_operand wsL_operand rhL_operand g [.ref (bF 0), .int x1, .int x2, .ref (bO 1)] (cO g bO vO ++ (cF g bF qF0 (bS 0) qF2 qF3 qF4 vF ++ (cS g bS (bC 0) qS1 ++ (cC g bC vC)))) (cO g bO vO1 ++ (cF g bF qF0 (bS 0) qF2 qF3 qF4 vF ++ (cS g bS (bC 0) qS1 ++ (cC g bC vC)))) r 1 6 := by
  unfold CtH
  intro sz
  refine vx_ofWH (cc := cL_operand) (maxL := 5) (ret := (some .int)) (hh := [(0, 10, 13, 22), (0, 10, 17, 27)]) (by decide) rfl ?_
  intro p e s m args below meth c s₁ B hml hv
  obtain ⟨rfl, hsz, hP, hK, hD0, hG⟩ := hv
  have hx := B.exec
  have hb := B.bytes
  have hr := B.returns
  have hts := atoms_spec (ws := wsL_operand) B.pre
  have hT := vx_table (x := yL_operand) B (hts _ List.mem_cons_self)
  have hown : s.vm.findClass RL = some m.cls := findClass_of_methodNamed B.named
  have hlocks := B.notSynchronized
  subst hsz
  have hD := hD0.self (sz := s.heap.size)
  generalize hAe : va_A (cO g bO vO ++ (cF g bF qF0 (bS 0) qF2 qF3 qF4 vF ++ (cS g bS (bC 0) qS1 ++ (cC g bC vC)))) s.heap.size = A at hD hG ⊢
  have hA : ∀ q : Nat, s.heap.size ≤ q → A q := fun q h => by rw [← hAe]; exact Or.inr h
  clear hAe hD0
  have hS : va_S A s.heap s.heap [] := va_S.rf
  have hl := lv_entry ([.ref (bF 0), .int x1, .int x2, .ref (bO 1)]) (n := 5) (Nat.le_of_ble_eq_true rfl)
  rw [lg_entry_eq]
  generalize (lg_sl ([.ref (bF 0), .int x1, .int x2, .ref (bO 1)]) ++ List.replicate (5 - (lg_sl ([.ref (bF 0), .int x1, .int x2, .ref (bO 1)])).length) Slot.unset).toArray = ls at hl ⊢
  have hl : lv_has ls 5 [(0, .ref (bF 0)), (1, .int x1), (2, .int x2), (3, .ref (bO 1))] := hl
  have htu : ∀ w ∈ UW, w.before _ s = true := fun w h => hts w (List.mem_cons_of_mem _ h)
  have k_4_124 := htu _ mw_4_124
  have k_4_129 := htu _ mw_4_129
  unfold f_L_operand at hf
  obtain ⟨H, hH⟩ : ∃ z, z = s.heap := ⟨_, rfl⟩
  obtain ⟨locs, hlo⟩ : ∃ z : List Loc, z = [] := ⟨_, rfl⟩
  have hS : va_S A s.heap H locs := by rw [hH, hlo]; exact hS
  rw [← hH] at hP
  have hW : W p l e (headSpec wsL_operand rhL_operand).room s m ([.ref (bF 0), .int x1, .int x2, .ref (bO 1)] : List Value).toArray below meth c H locs 0 0 (vx_MQ below (qI g A (cO g bO vO1 ++ (cF g bF qF0 (bS 0) qF2 qF3 qF4 vF ++ (cS g bS (bC 0) qS1 ++ (cC g bC vC)))) r) (xF A) ([.ref (bF 0), .int x1, .int x2, .ref (bO 1)] : List Value).toArray s 1 6 A) (F0 m 0 ls []) := by
    refine lv_aload_n hx hb dL_operand_0 rfl (lv_at hl 3 rfl) ?_
    refine lv_iconst (v := (0 : Int32)) hx hb dL_operand_1 (by decide) ?_
    refine lv_aload_n hx hb dL_operand_2 rfl (lv_at hl 0 rfl) ?_
    refine lv_iload_n hx hb dL_operand_3 rfl (lv_at hl 1 rfl) ?_
    refine lv_iload_n hx hb dL_operand_4 rfl (lv_at hl 2 rfl) ?_
    obtain ⟨c1, r2, hg3, hf⟩ := o2_at hf
    rcases Classical.em (¬ c1 = 0) with hc1 | hc1
    · have hf := it_f hf hc1
      rcases Classical.em (c1 = 2) with h4 | h4
      · have hf := it_t hf h4
        rw [h4] at hg3
        refine kh_viP ⟨hx, hb, hml, hown, htu⟩ hK hP hD hS hA hG (t_X7_operand l hst g bF qF0 qF2 qF3 qF4 vF bS qS1 bC vC x1 x2 r2 2 hg3 (by decide)) (cwV 2 htu (gU_V mw_4_130 hcX7_operand) rfl rfl rfl hdX7_operand ⟨Nat.le_of_ble_eq_true rfl, Nat.le_of_ble_eq_true rfl⟩) (q0 := 1) (ci := 7) (fs := fcF bF qF0 (bS 0) qF2 qF3 qF4 vF) (q := (RX7, TX7, 12)) rfl rfl rfl (wr := (cO g bO vO)) (w2 := cO g bO vO ++ (cF g bF qF0 (bS 0) qF2 qF3 qF4 vF ++ (cS g bS (bC 0) qS1 ++ (cC g bC vC)))) [1, 2, 3, 4, 5, 6, 7, 8, 9, 10, 11, 12, 13, 14, 15, 16, 17, 18] [0] [0, 1, 2, 3, 4, 5, 6, 7, 8, 9, 10, 11, 12, 13, 14, 15, 16, 17, 18] rfl rfl (by decide) (by decide) (by decide) rfl rfl (by decide) (As := [.int x1, .int x2]) (rest := [.int (0 : Int32), .ref (bO 1)]) rfl rfl hl.1 (Nat.le_of_ble_eq_true rfl) dL_operand_5 ⟨Nat.le_refl _, Nat.le_refl _⟩ (fun q9 ce H locs hP hD hS g1 g2 g3 => ?_)
        refine vx_catch (E := "java/lang/IndexOutOfBoundsException") (name := "java/lang/IndexOutOfBoundsException") hown [] (⟨0, 10, 13, 22⟩ : ExceptionTableEntry) [(⟨0, 10, 17, 27⟩ : ExceptionTableEntry)] hT (fun z hz => nomatch hz) (by decide) (by decide) k_4_124 (va_Nw.use rfl (hG.1.2.2.2.2.2.1 "java/lang/IndexOutOfBoundsException" (List.mem_of_getElem? (i := 1) rfl))) g1 g2 g3 ?_
        refine W.eq (g2 := F0 m 13 ls [.ref q9]) rfl ?_
        refine lv_astore (lv' := [(4, .ref q9), (0, .ref (bF 0)), (1, .int x1), (2, .int x2), (3, .ref (bO 1))]) hx hb dL_operand_13 hl (by decide) rfl (fun ls hl => ?_)
        refine lv_iconst (v := (1 : Int32)) hx hb dL_operand_15 (by decide) ?_
        obtain ⟨e5, e6⟩ := kp_2 hf
        rw [e6] at hP hD
        exact vx_ret (W.widen (k := 1) (n := 6) (by omega) (by omega) (k_iret hx hb hr hlocks hK hP hD hS e5 dL_operand_16))
      have hf := it_f hf h4
      rcases Classical.em (c1 = 3) with h7 | h7
      · have hf := it_t hf h7
        rw [h7] at hg3
        refine kh_viP ⟨hx, hb, hml, hown, htu⟩ hK hP hD hS hA hG (t_X7_operand l hst g bF qF0 qF2 qF3 qF4 vF bS qS1 bC vC x1 x2 r2 3 hg3 (by decide)) (cwV 2 htu (gU_V mw_4_130 hcX7_operand) rfl rfl rfl hdX7_operand ⟨Nat.le_of_ble_eq_true rfl, Nat.le_of_ble_eq_true rfl⟩) (q0 := 1) (ci := 7) (fs := fcF bF qF0 (bS 0) qF2 qF3 qF4 vF) (q := (RX7, TX7, 12)) rfl rfl rfl (wr := (cO g bO vO)) (w2 := cO g bO vO ++ (cF g bF qF0 (bS 0) qF2 qF3 qF4 vF ++ (cS g bS (bC 0) qS1 ++ (cC g bC vC)))) [1, 2, 3, 4, 5, 6, 7, 8, 9, 10, 11, 12, 13, 14, 15, 16, 17, 18] [0] [0, 1, 2, 3, 4, 5, 6, 7, 8, 9, 10, 11, 12, 13, 14, 15, 16, 17, 18] rfl rfl (by decide) (by decide) (by decide) rfl rfl (by decide) (As := [.int x1, .int x2]) (rest := [.int (0 : Int32), .ref (bO 1)]) rfl rfl hl.1 (Nat.le_of_ble_eq_true rfl) dL_operand_5 ⟨Nat.le_refl _, Nat.le_refl _⟩ (fun q9 ce H locs hP hD hS g1 g2 g3 => ?_)
        refine vx_catch (E := "java/util/NoSuchElementException") (name := "java/util/NoSuchElementException") hown [(⟨0, 10, 13, 22⟩ : ExceptionTableEntry)] (⟨0, 10, 17, 27⟩ : ExceptionTableEntry) [] hT (fun z hz => by cases List.mem_singleton.mp hz; exact Or.inr ⟨by decide, "java/lang/IndexOutOfBoundsException", k_4_124, hG.1.2.2.2.2.2.2 ("java/util/NoSuchElementException", "java/lang/IndexOutOfBoundsException") (List.mem_of_getElem? (i := 1) rfl)⟩) (by decide) (by decide) k_4_129 (va_Nw.use rfl (hG.1.2.2.2.2.2.1 "java/util/NoSuchElementException" (List.mem_of_getElem? (i := 2) rfl))) g1 g2 g3 ?_
        refine W.eq (g2 := F0 m 17 ls [.ref q9]) rfl ?_
        refine lv_astore (lv' := [(4, .ref q9), (0, .ref (bF 0)), (1, .int x1), (2, .int x2), (3, .ref (bO 1))]) hx hb dL_operand_17 hl (by decide) rfl (fun ls hl => ?_)
        refine lv_iconst (v := (2 : Int32)) hx hb dL_operand_19 (by decide) ?_
        obtain ⟨e8, e9⟩ := kp_2 hf
        rw [e9] at hP hD
        exact vx_ret (W.widen (k := 1) (n := 6) (by omega) (by omega) (k_iret hx hb hr hlocks hK hP hD hS e8 dL_operand_20))
      have hf := it_f hf h7
      cases hf
    have hc1 := Classical.not_not.mp hc1
    have hf := it_t hf hc1
    rw [hc1] at hg3
    refine k_viP ⟨hx, hb, hml, hown, htu⟩ hK hP hD hS hA hG (c_X7_operand l g bF qF0 qF2 qF3 qF4 vF bS qS1 bC vC x1 x2 r2 hg3) (cwV 2 htu (gU_V mw_4_130 hcX7_operand) rfl rfl rfl hdX7_operand ⟨Nat.le_of_ble_eq_true rfl, Nat.le_of_ble_eq_true rfl⟩) (q0 := 1) (ci := 7) (fs := fcF bF qF0 (bS 0) qF2 qF3 qF4 vF) (q := (RX7, TX7, 12)) rfl rfl rfl (wr := (cO g bO vO)) (w2 := cO g bO vO ++ (cF g bF qF0 (bS 0) qF2 qF3 qF4 vF ++ (cS g bS (bC 0) qS1 ++ (cC g bC vC)))) [1, 2, 3, 4, 5, 6, 7, 8, 9, 10, 11, 12, 13, 14, 15, 16, 17, 18] [0] [0, 1, 2, 3, 4, 5, 6, 7, 8, 9, 10, 11, 12, 13, 14, 15, 16, 17, 18] rfl rfl (by decide) (by decide) (by decide) rfl rfl (by decide) (As := [.int x1, .int x2]) (rest := [.int (0 : Int32), .ref (bO 1)]) rfl rfl hl.1 (Nat.le_of_ble_eq_true rfl) dL_operand_5 (k1 := 0) (n1 := 0) rfl rfl ⟨Nat.zero_le _, Nat.zero_le _⟩ (fun H locs hP hD hS => ?_)
    refine lv_i2l (v := (r2).toInt64) hx hb dL_operand_8 rfl ?_
    obtain ⟨h10, hf⟩ := gd_in hf
    refine va_last (D := g.1) (f := (vO.2.2 0)) hx hb hK hP hD hS 0 1 rfl rfl h10 dL_operand_9 (fun H locs hP hD hS => ?_)
    obtain ⟨vO_11, evO_11⟩ : ∃ z, z = sJ vO 0 ((0 : Int32)).toNatClampNeg ((r2).toInt64) := ⟨_, rfl⟩
    have hf := bn_at hf evO_11
    have hP : va_P g.1 vwCl (cO g bO vO_11 ++ (cF g bF qF0 (bS 0) qF2 qF3 qF4 vF ++ (cS g bS (bC 0) qS1 ++ (cC g bC vC)))) H := by rw [evO_11]; exact hP
    have hD : va_D A (cO g bO vO_11 ++ (cF g bF qF0 (bS 0) qF2 qF3 qF4 vF ++ (cS g bS (bC 0) qS1 ++ (cC g bC vC)))) := by rw [evO_11]; exact hD
    refine lv_goto (tgt := 21) hx hb dL_operand_10 (by decide) ?_
    refine lv_iconst (v := (0 : Int32)) hx hb dL_operand_21 (by decide) ?_
    obtain ⟨e12, e13⟩ := kp_2 hf
    rw [e13] at hP hD
    exact vx_ret (W.widen (k := 1) (n := 6) (by omega) (by omega) (k_iret hx hb hr hlocks hK hP hD hS e12 dL_operand_22))
  rw [hH, hlo] at hW
  exact hW
def f_L_value (vO : Vs) (vF : Vs) (vC : Vs) (vT : Vs) (nRT : Nat) (vRT : Vs) (vG : Vs) (vB : Vs) (x1 : Int32) (x2 : Int32) : Option (Int32 × Vs × Vs × Vs × Vs × Vs) :=
  o6 (f_X7_value vF vC vT nRT vRT vG vB x1 x2) (fun (c1 : Nat) (r2 : Int32) (vF_3 : Vs) (vRT_4 : Vs) (vG_5 : Vs) (vB_6 : Vs) => if c1 = 0 then (gd (inb (0 : Int32) 1) (bn (sJ vO 0 ((0 : Int32)).toNatClampNeg ((r2).toInt64)) (fun (vO_16 : Vs) => some ((0 : Int32), vO_16, vF_3, vRT_4, vG_5, vB_6)))) else if c1 = 2 then (some ((1 : Int32), vO, vF_3, vRT_4, vG_5, vB_6)) else none)
abbrev wsL_value : List Cond := .codeWith yL_value cL_value 5 (some .int) [(0, 10, 13, 22)] :: UW
abbrev rhL_value : Room := { frames := 11, cells := 1, slots := 6, locals := 203 }
set_option maxHeartbeats 4000000 in
set_option maxRecDepth 100000 in
theorem h_L_value (l : Launch) (hst : l.stackTraces = false) (g : Gx) (bO : Nat → Nat) (vO : Vs) (bF : Nat → Nat) (qF0 : Nat) (qF2 : Nat) (qF3 : Nat) (vF : Vs) (bS : Nat → Nat) (bC : Nat → Nat) (vC : Vs) (bT : Nat → Nat) (vT : Vs) (bRT : Nat → Nat) (nRT : Nat) (vRT : Vs) (bG : Nat → Nat) (vG : Vs) (bB : Nat → Nat) (vB : Vs) (x1 : Int32) (x2 : Int32) (r : Int32) (vO1 : Vs) (vF1 : Vs) (vRT1 : Vs) (vG1 : Vs) (vB1 : Vs) (hf : f_L_value vO vF vC vT nRT vRT vG vB x1 x2 = some (r, vO1, vF1, vRT1, vG1, vB1)) : CtH l yL_value wsL_value rhL_value g [.ref (bF 0), .int x1, .int x2, .ref (bO 1)] (cO g bO vO ++ (cF g bF qF0 (bS 0) qF2 qF3 (bRT 0) vF ++ (cS g bS (bC 0) (bT 0) ++ (cC g bC vC ++ (cT g bT vT ++ (cR g bRT nRT (bG 0) (bB 0) vRT ++ (cL g bG vG ++ (cL g bB vB)))))))) (cO g bO vO1 ++ (cF g bF qF0 (bS 0) qF2 qF3 (bRT 0) vF1 ++ (cS g bS (bC 0) (bT 0) ++ (cC g bC vC ++ (cT g bT vT ++ (cR g bRT nRT (bG 0) (bB 0) vRT1 ++ (cL g bG vG1 ++ (cL g bB vB1)))))))) r 1 6 := by
  unfold CtH
  intro sz
  refine vx_ofWH (cc := cL_value) (maxL := 5) (ret := (some .int)) (hh := [(0, 10, 13, 22)]) (by decide) rfl ?_
  intro p e s m args below meth c s₁ B hml hv
  obtain ⟨rfl, hsz, hP, hK, hD0, hG⟩ := hv
  have hx := B.exec
  have hb := B.bytes
  have hr := B.returns
  have hts := atoms_spec (ws := wsL_value) B.pre
  have hT := vx_table (x := yL_value) B (hts _ List.mem_cons_self)
  have hown : s.vm.findClass RL = some m.cls := findClass_of_methodNamed B.named
  have hlocks := B.notSynchronized
  subst hsz
  have hD := hD0.self (sz := s.heap.size)
  generalize hAe : va_A (cO g bO vO ++ (cF g bF qF0 (bS 0) qF2 qF3 (bRT 0) vF ++ (cS g bS (bC 0) (bT 0) ++ (cC g bC vC ++ (cT g bT vT ++ (cR g bRT nRT (bG 0) (bB 0) vRT ++ (cL g bG vG ++ (cL g bB vB)))))))) s.heap.size = A at hD hG ⊢
  have hA : ∀ q : Nat, s.heap.size ≤ q → A q := fun q h => by rw [← hAe]; exact Or.inr h
  clear hAe hD0
  have hS : va_S A s.heap s.heap [] := va_S.rf
  have hl := lv_entry ([.ref (bF 0), .int x1, .int x2, .ref (bO 1)]) (n := 5) (Nat.le_of_ble_eq_true rfl)
  rw [lg_entry_eq]
  generalize (lg_sl ([.ref (bF 0), .int x1, .int x2, .ref (bO 1)]) ++ List.replicate (5 - (lg_sl ([.ref (bF 0), .int x1, .int x2, .ref (bO 1)])).length) Slot.unset).toArray = ls at hl ⊢
  have hl : lv_has ls 5 [(0, .ref (bF 0)), (1, .int x1), (2, .int x2), (3, .ref (bO 1))] := hl
  have htu : ∀ w ∈ UW, w.before _ s = true := fun w h => hts w (List.mem_cons_of_mem _ h)
  have k_4_124 := htu _ mw_4_124
  unfold f_L_value at hf
  obtain ⟨H, hH⟩ : ∃ z, z = s.heap := ⟨_, rfl⟩
  obtain ⟨locs, hlo⟩ : ∃ z : List Loc, z = [] := ⟨_, rfl⟩
  have hS : va_S A s.heap H locs := by rw [hH, hlo]; exact hS
  rw [← hH] at hP
  have hW : W p l e (headSpec wsL_value rhL_value).room s m ([.ref (bF 0), .int x1, .int x2, .ref (bO 1)] : List Value).toArray below meth c H locs 0 0 (vx_MQ below (qI g A (cO g bO vO1 ++ (cF g bF qF0 (bS 0) qF2 qF3 (bRT 0) vF1 ++ (cS g bS (bC 0) (bT 0) ++ (cC g bC vC ++ (cT g bT vT ++ (cR g bRT nRT (bG 0) (bB 0) vRT1 ++ (cL g bG vG1 ++ (cL g bB vB1)))))))) r) (xF A) ([.ref (bF 0), .int x1, .int x2, .ref (bO 1)] : List Value).toArray s 1 6 A) (F0 m 0 ls []) := by
    refine lv_aload_n hx hb dL_value_0 rfl (lv_at hl 3 rfl) ?_
    refine lv_iconst (v := (0 : Int32)) hx hb dL_value_1 (by decide) ?_
    refine lv_aload_n hx hb dL_value_2 rfl (lv_at hl 0 rfl) ?_
    refine lv_iload_n hx hb dL_value_3 rfl (lv_at hl 1 rfl) ?_
    refine lv_iload_n hx hb dL_value_4 rfl (lv_at hl 2 rfl) ?_
    obtain ⟨c1, r2, vF_3, vRT_4, vG_5, vB_6, hg7, hf⟩ := o6_at hf
    rcases Classical.em (¬ c1 = 0) with hc1 | hc1
    · have hf := it_f hf hc1
      rcases Classical.em (c1 = 2) with h8 | h8
      · have hf := it_t hf h8
        rw [h8] at hg7
        refine kh_viP ⟨hx, hb, hml, hown, htu⟩ hK hP hD hS hA hG (t_X7_value l hst g bF qF0 qF2 qF3 vF bS bC vC bT vT bRT nRT vRT bG vG bB vB x1 x2 r2 vF_3 vRT_4 vG_5 vB_6 2 hg7 (by decide)) (cwV 2 htu (gU_V mw_4_153 hcX7_value) rfl rfl rfl hdX7_value ⟨Nat.le_of_ble_eq_true rfl, Nat.le_of_ble_eq_true rfl⟩) (q0 := 1) (ci := 7) (fs := fcF bF qF0 (bS 0) qF2 qF3 (bRT 0) vF) (q := (RX7, TX7, 12)) rfl rfl rfl (wr := (cO g bO vO)) (w2 := cO g bO vO ++ (cF g bF qF0 (bS 0) qF2 qF3 (bRT 0) vF_3 ++ (cS g bS (bC 0) (bT 0) ++ (cC g bC vC ++ (cT g bT vT ++ (cR g bRT nRT (bG 0) (bB 0) vRT_4 ++ (cL g bG vG_5 ++ (cL g bB vB_6)))))))) [1, 2, 3, 4, 5, 6, 7, 8, 9, 10, 11, 12, 13, 14, 15, 16, 17, 18, 19, 20, 21, 22, 23, 24, 25, 26, 27, 28, 29, 30, 31, 32] [0] [0, 1, 2, 3, 4, 5, 6, 7, 8, 9, 10, 11, 12, 13, 14, 15, 16, 17, 18, 19, 20, 21, 22, 23, 24, 25, 26, 27, 28, 29, 30, 31, 32] rfl rfl (by decide) (by decide) (by decide) rfl rfl (by decide) (As := [.int x1, .int x2]) (rest := [.int (0 : Int32), .ref (bO 1)]) rfl rfl hl.1 (Nat.le_of_ble_eq_true rfl) dL_value_5 ⟨Nat.le_refl _, Nat.le_refl _⟩ (fun q9 ce H locs hP hD hS g1 g2 g3 => ?_)
        refine vx_catch (E := "java/lang/IndexOutOfBoundsException") (name := "java/lang/IndexOutOfBoundsException") hown [] (⟨0, 10, 13, 22⟩ : ExceptionTableEntry) [] hT (fun z hz => nomatch hz) (by decide) (by decide) k_4_124 (va_Nw.use rfl (hG.1.2.2.2.2.2.1 "java/lang/IndexOutOfBoundsException" (List.mem_of_getElem? (i := 1) rfl))) g1 g2 g3 ?_
        refine W.eq (g2 := F0 m 13 ls [.ref q9]) rfl ?_
        refine lv_astore (lv' := [(4, .ref q9), (0, .ref (bF 0)), (1, .int x1), (2, .int x2), (3, .ref (bO 1))]) hx hb dL_value_13 hl (by decide) rfl (fun ls hl => ?_)
        refine lv_iconst (v := (1 : Int32)) hx hb dL_value_15 (by decide) ?_
        obtain ⟨e9, e10, e11, e12, e13, e14⟩ := kp_6 hf
        rw [e10] at hP hD
        rw [e11] at hP hD
        rw [e12] at hP hD
        rw [e13] at hP hD
        rw [e14] at hP hD
        exact vx_ret (W.widen (k := 1) (n := 6) (by omega) (by omega) (k_iret hx hb hr hlocks hK hP hD hS e9 dL_value_16))
      have hf := it_f hf h8
      cases hf
    have hc1 := Classical.not_not.mp hc1
    have hf := it_t hf hc1
    rw [hc1] at hg7
    refine k_viP ⟨hx, hb, hml, hown, htu⟩ hK hP hD hS hA hG (c_X7_value l g bF qF0 qF2 qF3 vF bS bC vC bT vT bRT nRT vRT bG vG bB vB x1 x2 r2 vF_3 vRT_4 vG_5 vB_6 hg7) (cwV 2 htu (gU_V mw_4_153 hcX7_value) rfl rfl rfl hdX7_value ⟨Nat.le_of_ble_eq_true rfl, Nat.le_of_ble_eq_true rfl⟩) (q0 := 1) (ci := 7) (fs := fcF bF qF0 (bS 0) qF2 qF3 (bRT 0) vF) (q := (RX7, TX7, 12)) rfl rfl rfl (wr := (cO g bO vO)) (w2 := cO g bO vO ++ (cF g bF qF0 (bS 0) qF2 qF3 (bRT 0) vF_3 ++ (cS g bS (bC 0) (bT 0) ++ (cC g bC vC ++ (cT g bT vT ++ (cR g bRT nRT (bG 0) (bB 0) vRT_4 ++ (cL g bG vG_5 ++ (cL g bB vB_6)))))))) [1, 2, 3, 4, 5, 6, 7, 8, 9, 10, 11, 12, 13, 14, 15, 16, 17, 18, 19, 20, 21, 22, 23, 24, 25, 26, 27, 28, 29, 30, 31, 32] [0] [0, 1, 2, 3, 4, 5, 6, 7, 8, 9, 10, 11, 12, 13, 14, 15, 16, 17, 18, 19, 20, 21, 22, 23, 24, 25, 26, 27, 28, 29, 30, 31, 32] rfl rfl (by decide) (by decide) (by decide) rfl rfl (by decide) (As := [.int x1, .int x2]) (rest := [.int (0 : Int32), .ref (bO 1)]) rfl rfl hl.1 (Nat.le_of_ble_eq_true rfl) dL_value_5 (k1 := 0) (n1 := 0) rfl rfl ⟨Nat.zero_le _, Nat.zero_le _⟩ (fun H locs hP hD hS => ?_)
    refine lv_i2l (v := (r2).toInt64) hx hb dL_value_8 rfl ?_
    obtain ⟨h15, hf⟩ := gd_in hf
    refine va_last (D := g.1) (f := (vO.2.2 0)) hx hb hK hP hD hS 0 1 rfl rfl h15 dL_value_9 (fun H locs hP hD hS => ?_)
    obtain ⟨vO_16, evO_16⟩ : ∃ z, z = sJ vO 0 ((0 : Int32)).toNatClampNeg ((r2).toInt64) := ⟨_, rfl⟩
    have hf := bn_at hf evO_16
    have hP : va_P g.1 vwCl (cO g bO vO_16 ++ (cF g bF qF0 (bS 0) qF2 qF3 (bRT 0) vF_3 ++ (cS g bS (bC 0) (bT 0) ++ (cC g bC vC ++ (cT g bT vT ++ (cR g bRT nRT (bG 0) (bB 0) vRT_4 ++ (cL g bG vG_5 ++ (cL g bB vB_6)))))))) H := by rw [evO_16]; exact hP
    have hD : va_D A (cO g bO vO_16 ++ (cF g bF qF0 (bS 0) qF2 qF3 (bRT 0) vF_3 ++ (cS g bS (bC 0) (bT 0) ++ (cC g bC vC ++ (cT g bT vT ++ (cR g bRT nRT (bG 0) (bB 0) vRT_4 ++ (cL g bG vG_5 ++ (cL g bB vB_6)))))))) := by rw [evO_16]; exact hD
    refine lv_goto (tgt := 17) hx hb dL_value_10 (by decide) ?_
    refine lv_iconst (v := (0 : Int32)) hx hb dL_value_17 (by decide) ?_
    obtain ⟨e17, e18, e19, e20, e21, e22⟩ := kp_6 hf
    rw [e18] at hP hD
    rw [e19] at hP hD
    rw [e20] at hP hD
    rw [e21] at hP hD
    rw [e22] at hP hD
    exact vx_ret (W.widen (k := 1) (n := 6) (by omega) (by omega) (k_iret hx hb hr hlocks hK hP hD hS e17 dL_value_18))
  rw [hH, hlo] at hW
  exact hW
def f_L_faulty (vO : Vs) (vF : Vs) (vC : Vs) (vT : Vs) (nRT : Nat) (vRT : Vs) (vG : Vs) (vB : Vs) (x1 : Int32) (x2 : Int32) (x3 : Int32) : Option (Int32 × Vs × Vs × Vs × Vs × Vs) :=
  o6 (f_X7_faulty vF vC vT nRT vRT vG vB x1 x2 x3) (fun (c1 : Nat) (r2 : Int32) (vF_3 : Vs) (vRT_4 : Vs) (vG_5 : Vs) (vB_6 : Vs) => if c1 = 0 then (gd (inb (0 : Int32) 1) (bn (sJ vO 0 ((0 : Int32)).toNatClampNeg ((r2).toInt64)) (fun (vO_16 : Vs) => some ((0 : Int32), vO_16, vF_3, vRT_4, vG_5, vB_6)))) else if c1 = 2 then (some ((1 : Int32), vO, vF_3, vRT_4, vG_5, vB_6)) else none)
abbrev wsL_faulty : List Cond := .codeWith yL_faulty cL_faulty 6 (some .int) [(0, 12, 15, 22)] :: UW
abbrev rhL_faulty : Room := { frames := 11, cells := 1, slots := 6, locals := 204 }
set_option maxHeartbeats 4000000 in
set_option maxRecDepth 100000 in
theorem h_L_faulty (l : Launch) (hst : l.stackTraces = false) (g : Gx) (bO : Nat → Nat) (vO : Vs) (bF : Nat → Nat) (qF0 : Nat) (qF2 : Nat) (qF3 : Nat) (vF : Vs) (bS : Nat → Nat) (bC : Nat → Nat) (vC : Vs) (bT : Nat → Nat) (vT : Vs) (bRT : Nat → Nat) (nRT : Nat) (vRT : Vs) (bG : Nat → Nat) (vG : Vs) (bB : Nat → Nat) (vB : Vs) (x1 : Int32) (x2 : Int32) (x3 : Int32) (r : Int32) (vO1 : Vs) (vF1 : Vs) (vRT1 : Vs) (vG1 : Vs) (vB1 : Vs) (hf : f_L_faulty vO vF vC vT nRT vRT vG vB x1 x2 x3 = some (r, vO1, vF1, vRT1, vG1, vB1)) : CtH l yL_faulty wsL_faulty rhL_faulty g [.ref (bF 0), .int x1, .int x2, .int x3, .ref (bO 1)] (cO g bO vO ++ (cF g bF qF0 (bS 0) qF2 qF3 (bRT 0) vF ++ (cS g bS (bC 0) (bT 0) ++ (cC g bC vC ++ (cT g bT vT ++ (cR g bRT nRT (bG 0) (bB 0) vRT ++ (cL g bG vG ++ (cL g bB vB)))))))) (cO g bO vO1 ++ (cF g bF qF0 (bS 0) qF2 qF3 (bRT 0) vF1 ++ (cS g bS (bC 0) (bT 0) ++ (cC g bC vC ++ (cT g bT vT ++ (cR g bRT nRT (bG 0) (bB 0) vRT1 ++ (cL g bG vG1 ++ (cL g bB vB1)))))))) r 1 6 := by
  unfold CtH
  intro sz
  refine vx_ofWH (cc := cL_faulty) (maxL := 6) (ret := (some .int)) (hh := [(0, 12, 15, 22)]) (by decide) rfl ?_
  intro p e s m args below meth c s₁ B hml hv
  obtain ⟨rfl, hsz, hP, hK, hD0, hG⟩ := hv
  have hx := B.exec
  have hb := B.bytes
  have hr := B.returns
  have hts := atoms_spec (ws := wsL_faulty) B.pre
  have hT := vx_table (x := yL_faulty) B (hts _ List.mem_cons_self)
  have hown : s.vm.findClass RL = some m.cls := findClass_of_methodNamed B.named
  have hlocks := B.notSynchronized
  subst hsz
  have hD := hD0.self (sz := s.heap.size)
  generalize hAe : va_A (cO g bO vO ++ (cF g bF qF0 (bS 0) qF2 qF3 (bRT 0) vF ++ (cS g bS (bC 0) (bT 0) ++ (cC g bC vC ++ (cT g bT vT ++ (cR g bRT nRT (bG 0) (bB 0) vRT ++ (cL g bG vG ++ (cL g bB vB)))))))) s.heap.size = A at hD hG ⊢
  have hA : ∀ q : Nat, s.heap.size ≤ q → A q := fun q h => by rw [← hAe]; exact Or.inr h
  clear hAe hD0
  have hS : va_S A s.heap s.heap [] := va_S.rf
  have hl := lv_entry ([.ref (bF 0), .int x1, .int x2, .int x3, .ref (bO 1)]) (n := 6) (Nat.le_of_ble_eq_true rfl)
  rw [lg_entry_eq]
  generalize (lg_sl ([.ref (bF 0), .int x1, .int x2, .int x3, .ref (bO 1)]) ++ List.replicate (6 - (lg_sl ([.ref (bF 0), .int x1, .int x2, .int x3, .ref (bO 1)])).length) Slot.unset).toArray = ls at hl ⊢
  have hl : lv_has ls 6 [(0, .ref (bF 0)), (1, .int x1), (2, .int x2), (3, .int x3), (4, .ref (bO 1))] := hl
  have htu : ∀ w ∈ UW, w.before _ s = true := fun w h => hts w (List.mem_cons_of_mem _ h)
  have k_4_124 := htu _ mw_4_124
  unfold f_L_faulty at hf
  obtain ⟨H, hH⟩ : ∃ z, z = s.heap := ⟨_, rfl⟩
  obtain ⟨locs, hlo⟩ : ∃ z : List Loc, z = [] := ⟨_, rfl⟩
  have hS : va_S A s.heap H locs := by rw [hH, hlo]; exact hS
  rw [← hH] at hP
  have hW : W p l e (headSpec wsL_faulty rhL_faulty).room s m ([.ref (bF 0), .int x1, .int x2, .int x3, .ref (bO 1)] : List Value).toArray below meth c H locs 0 0 (vx_MQ below (qI g A (cO g bO vO1 ++ (cF g bF qF0 (bS 0) qF2 qF3 (bRT 0) vF1 ++ (cS g bS (bC 0) (bT 0) ++ (cC g bC vC ++ (cT g bT vT ++ (cR g bRT nRT (bG 0) (bB 0) vRT1 ++ (cL g bG vG1 ++ (cL g bB vB1)))))))) r) (xF A) ([.ref (bF 0), .int x1, .int x2, .int x3, .ref (bO 1)] : List Value).toArray s 1 6 A) (F0 m 0 ls []) := by
    refine lv_aload hx hb dL_faulty_0 (lv_at hl 4 rfl) ?_
    refine lv_iconst (v := (0 : Int32)) hx hb dL_faulty_2 (by decide) ?_
    refine lv_aload_n hx hb dL_faulty_3 rfl (lv_at hl 0 rfl) ?_
    refine lv_iload_n hx hb dL_faulty_4 rfl (lv_at hl 1 rfl) ?_
    refine lv_iload_n hx hb dL_faulty_5 rfl (lv_at hl 2 rfl) ?_
    refine lv_iload_n hx hb dL_faulty_6 rfl (lv_at hl 3 rfl) ?_
    obtain ⟨c1, r2, vF_3, vRT_4, vG_5, vB_6, hg7, hf⟩ := o6_at hf
    rcases Classical.em (¬ c1 = 0) with hc1 | hc1
    · have hf := it_f hf hc1
      rcases Classical.em (c1 = 2) with h8 | h8
      · have hf := it_t hf h8
        rw [h8] at hg7
        refine kh_viP ⟨hx, hb, hml, hown, htu⟩ hK hP hD hS hA hG (t_X7_faulty l hst g bF qF0 qF2 qF3 vF bS bC vC bT vT bRT nRT vRT bG vG bB vB x1 x2 x3 r2 vF_3 vRT_4 vG_5 vB_6 2 hg7 (by decide)) (cwV 3 htu (gU_V mw_4_165 hcX7_faulty) rfl rfl rfl hdX7_faulty ⟨Nat.le_of_ble_eq_true rfl, Nat.le_of_ble_eq_true rfl⟩) (q0 := 1) (ci := 7) (fs := fcF bF qF0 (bS 0) qF2 qF3 (bRT 0) vF) (q := (RX7, TX7, 12)) rfl rfl rfl (wr := (cO g bO vO)) (w2 := cO g bO vO ++ (cF g bF qF0 (bS 0) qF2 qF3 (bRT 0) vF_3 ++ (cS g bS (bC 0) (bT 0) ++ (cC g bC vC ++ (cT g bT vT ++ (cR g bRT nRT (bG 0) (bB 0) vRT_4 ++ (cL g bG vG_5 ++ (cL g bB vB_6)))))))) [1, 2, 3, 4, 5, 6, 7, 8, 9, 10, 11, 12, 13, 14, 15, 16, 17, 18, 19, 20, 21, 22, 23, 24, 25, 26, 27, 28, 29, 30, 31, 32] [0] [0, 1, 2, 3, 4, 5, 6, 7, 8, 9, 10, 11, 12, 13, 14, 15, 16, 17, 18, 19, 20, 21, 22, 23, 24, 25, 26, 27, 28, 29, 30, 31, 32] rfl rfl (by decide) (by decide) (by decide) rfl rfl (by decide) (As := [.int x1, .int x2, .int x3]) (rest := [.int (0 : Int32), .ref (bO 1)]) rfl rfl hl.1 (Nat.le_of_ble_eq_true rfl) dL_faulty_7 ⟨Nat.le_refl _, Nat.le_refl _⟩ (fun q9 ce H locs hP hD hS g1 g2 g3 => ?_)
        refine vx_catch (E := "java/lang/IndexOutOfBoundsException") (name := "java/lang/IndexOutOfBoundsException") hown [] (⟨0, 12, 15, 22⟩ : ExceptionTableEntry) [] hT (fun z hz => nomatch hz) (by decide) (by decide) k_4_124 (va_Nw.use rfl (hG.1.2.2.2.2.2.1 "java/lang/IndexOutOfBoundsException" (List.mem_of_getElem? (i := 1) rfl))) g1 g2 g3 ?_
        refine W.eq (g2 := F0 m 15 ls [.ref q9]) rfl ?_
        refine lv_astore (lv' := [(5, .ref q9), (0, .ref (bF 0)), (1, .int x1), (2, .int x2), (3, .int x3), (4, .ref (bO 1))]) hx hb dL_faulty_15 hl (by decide) rfl (fun ls hl => ?_)
        refine lv_iconst (v := (1 : Int32)) hx hb dL_faulty_17 (by decide) ?_
        obtain ⟨e9, e10, e11, e12, e13, e14⟩ := kp_6 hf
        rw [e10] at hP hD
        rw [e11] at hP hD
        rw [e12] at hP hD
        rw [e13] at hP hD
        rw [e14] at hP hD
        exact vx_ret (W.widen (k := 1) (n := 6) (by omega) (by omega) (k_iret hx hb hr hlocks hK hP hD hS e9 dL_faulty_18))
      have hf := it_f hf h8
      cases hf
    have hc1 := Classical.not_not.mp hc1
    have hf := it_t hf hc1
    rw [hc1] at hg7
    refine k_viP ⟨hx, hb, hml, hown, htu⟩ hK hP hD hS hA hG (c_X7_faulty l g bF qF0 qF2 qF3 vF bS bC vC bT vT bRT nRT vRT bG vG bB vB x1 x2 x3 r2 vF_3 vRT_4 vG_5 vB_6 hg7) (cwV 3 htu (gU_V mw_4_165 hcX7_faulty) rfl rfl rfl hdX7_faulty ⟨Nat.le_of_ble_eq_true rfl, Nat.le_of_ble_eq_true rfl⟩) (q0 := 1) (ci := 7) (fs := fcF bF qF0 (bS 0) qF2 qF3 (bRT 0) vF) (q := (RX7, TX7, 12)) rfl rfl rfl (wr := (cO g bO vO)) (w2 := cO g bO vO ++ (cF g bF qF0 (bS 0) qF2 qF3 (bRT 0) vF_3 ++ (cS g bS (bC 0) (bT 0) ++ (cC g bC vC ++ (cT g bT vT ++ (cR g bRT nRT (bG 0) (bB 0) vRT_4 ++ (cL g bG vG_5 ++ (cL g bB vB_6)))))))) [1, 2, 3, 4, 5, 6, 7, 8, 9, 10, 11, 12, 13, 14, 15, 16, 17, 18, 19, 20, 21, 22, 23, 24, 25, 26, 27, 28, 29, 30, 31, 32] [0] [0, 1, 2, 3, 4, 5, 6, 7, 8, 9, 10, 11, 12, 13, 14, 15, 16, 17, 18, 19, 20, 21, 22, 23, 24, 25, 26, 27, 28, 29, 30, 31, 32] rfl rfl (by decide) (by decide) (by decide) rfl rfl (by decide) (As := [.int x1, .int x2, .int x3]) (rest := [.int (0 : Int32), .ref (bO 1)]) rfl rfl hl.1 (Nat.le_of_ble_eq_true rfl) dL_faulty_7 (k1 := 0) (n1 := 0) rfl rfl ⟨Nat.zero_le _, Nat.zero_le _⟩ (fun H locs hP hD hS => ?_)
    refine lv_i2l (v := (r2).toInt64) hx hb dL_faulty_10 rfl ?_
    obtain ⟨h15, hf⟩ := gd_in hf
    refine va_last (D := g.1) (f := (vO.2.2 0)) hx hb hK hP hD hS 0 1 rfl rfl h15 dL_faulty_11 (fun H locs hP hD hS => ?_)
    obtain ⟨vO_16, evO_16⟩ : ∃ z, z = sJ vO 0 ((0 : Int32)).toNatClampNeg ((r2).toInt64) := ⟨_, rfl⟩
    have hf := bn_at hf evO_16
    have hP : va_P g.1 vwCl (cO g bO vO_16 ++ (cF g bF qF0 (bS 0) qF2 qF3 (bRT 0) vF_3 ++ (cS g bS (bC 0) (bT 0) ++ (cC g bC vC ++ (cT g bT vT ++ (cR g bRT nRT (bG 0) (bB 0) vRT_4 ++ (cL g bG vG_5 ++ (cL g bB vB_6)))))))) H := by rw [evO_16]; exact hP
    have hD : va_D A (cO g bO vO_16 ++ (cF g bF qF0 (bS 0) qF2 qF3 (bRT 0) vF_3 ++ (cS g bS (bC 0) (bT 0) ++ (cC g bC vC ++ (cT g bT vT ++ (cR g bRT nRT (bG 0) (bB 0) vRT_4 ++ (cL g bG vG_5 ++ (cL g bB vB_6)))))))) := by rw [evO_16]; exact hD
    refine lv_goto (tgt := 19) hx hb dL_faulty_12 (by decide) ?_
    refine lv_iconst (v := (0 : Int32)) hx hb dL_faulty_19 (by decide) ?_
    obtain ⟨e17, e18, e19, e20, e21, e22⟩ := kp_6 hf
    rw [e18] at hP hD
    rw [e19] at hP hD
    rw [e20] at hP hD
    rw [e21] at hP hD
    rw [e22] at hP hD
    exact vx_ret (W.widen (k := 1) (n := 6) (by omega) (by omega) (k_iret hx hb hr hlocks hK hP hD hS e17 dL_faulty_20))
  rw [hH, hlo] at hW
  exact hW
def f_L_finds (vO : Vs) (vF : Vs) (vC : Vs) (vT : Vs) (nRT : Nat) (vRT : Vs) (vG : Vs) (vB : Vs) (x1 : Int32) (x2 : Int32) : Option (Int32 × Vs × Vs × Vs × Vs × Vs) :=
  o6 (f_X7_finds vF vC vT nRT vRT vG vB x1 x2) (fun (c1 : Nat) (r2 : Int32) (vF_3 : Vs) (vRT_4 : Vs) (vG_5 : Vs) (vB_6 : Vs) => if c1 = 0 then (gd (inb (0 : Int32) 1) (bn (sJ vO 0 ((0 : Int32)).toNatClampNeg ((r2).toInt64)) (fun (vO_16 : Vs) => some ((0 : Int32), vO_16, vF_3, vRT_4, vG_5, vB_6)))) else if c1 = 2 then (some ((1 : Int32), vO, vF_3, vRT_4, vG_5, vB_6)) else none)
abbrev wsL_finds : List Cond := .codeWith yL_finds cL_finds 5 (some .int) [(0, 10, 13, 22)] :: UW
abbrev rhL_finds : Room := { frames := 11, cells := 1, slots := 6, locals := 203 }
set_option maxHeartbeats 4000000 in
set_option maxRecDepth 100000 in
theorem h_L_finds (l : Launch) (hst : l.stackTraces = false) (g : Gx) (bO : Nat → Nat) (vO : Vs) (bF : Nat → Nat) (qF0 : Nat) (qF2 : Nat) (qF3 : Nat) (vF : Vs) (bS : Nat → Nat) (bC : Nat → Nat) (vC : Vs) (bT : Nat → Nat) (vT : Vs) (bRT : Nat → Nat) (nRT : Nat) (vRT : Vs) (bG : Nat → Nat) (vG : Vs) (bB : Nat → Nat) (vB : Vs) (x1 : Int32) (x2 : Int32) (r : Int32) (vO1 : Vs) (vF1 : Vs) (vRT1 : Vs) (vG1 : Vs) (vB1 : Vs) (hf : f_L_finds vO vF vC vT nRT vRT vG vB x1 x2 = some (r, vO1, vF1, vRT1, vG1, vB1)) : CtH l yL_finds wsL_finds rhL_finds g [.ref (bF 0), .int x1, .int x2, .ref (bO 1)] (cO g bO vO ++ (cF g bF qF0 (bS 0) qF2 qF3 (bRT 0) vF ++ (cS g bS (bC 0) (bT 0) ++ (cC g bC vC ++ (cT g bT vT ++ (cR g bRT nRT (bG 0) (bB 0) vRT ++ (cL g bG vG ++ (cL g bB vB)))))))) (cO g bO vO1 ++ (cF g bF qF0 (bS 0) qF2 qF3 (bRT 0) vF1 ++ (cS g bS (bC 0) (bT 0) ++ (cC g bC vC ++ (cT g bT vT ++ (cR g bRT nRT (bG 0) (bB 0) vRT1 ++ (cL g bG vG1 ++ (cL g bB vB1)))))))) r 1 6 := by
  unfold CtH
  intro sz
  refine vx_ofWH (cc := cL_finds) (maxL := 5) (ret := (some .int)) (hh := [(0, 10, 13, 22)]) (by decide) rfl ?_
  intro p e s m args below meth c s₁ B hml hv
  obtain ⟨rfl, hsz, hP, hK, hD0, hG⟩ := hv
  have hx := B.exec
  have hb := B.bytes
  have hr := B.returns
  have hts := atoms_spec (ws := wsL_finds) B.pre
  have hT := vx_table (x := yL_finds) B (hts _ List.mem_cons_self)
  have hown : s.vm.findClass RL = some m.cls := findClass_of_methodNamed B.named
  have hlocks := B.notSynchronized
  subst hsz
  have hD := hD0.self (sz := s.heap.size)
  generalize hAe : va_A (cO g bO vO ++ (cF g bF qF0 (bS 0) qF2 qF3 (bRT 0) vF ++ (cS g bS (bC 0) (bT 0) ++ (cC g bC vC ++ (cT g bT vT ++ (cR g bRT nRT (bG 0) (bB 0) vRT ++ (cL g bG vG ++ (cL g bB vB)))))))) s.heap.size = A at hD hG ⊢
  have hA : ∀ q : Nat, s.heap.size ≤ q → A q := fun q h => by rw [← hAe]; exact Or.inr h
  clear hAe hD0
  have hS : va_S A s.heap s.heap [] := va_S.rf
  have hl := lv_entry ([.ref (bF 0), .int x1, .int x2, .ref (bO 1)]) (n := 5) (Nat.le_of_ble_eq_true rfl)
  rw [lg_entry_eq]
  generalize (lg_sl ([.ref (bF 0), .int x1, .int x2, .ref (bO 1)]) ++ List.replicate (5 - (lg_sl ([.ref (bF 0), .int x1, .int x2, .ref (bO 1)])).length) Slot.unset).toArray = ls at hl ⊢
  have hl : lv_has ls 5 [(0, .ref (bF 0)), (1, .int x1), (2, .int x2), (3, .ref (bO 1))] := hl
  have htu : ∀ w ∈ UW, w.before _ s = true := fun w h => hts w (List.mem_cons_of_mem _ h)
  have k_4_124 := htu _ mw_4_124
  unfold f_L_finds at hf
  obtain ⟨H, hH⟩ : ∃ z, z = s.heap := ⟨_, rfl⟩
  obtain ⟨locs, hlo⟩ : ∃ z : List Loc, z = [] := ⟨_, rfl⟩
  have hS : va_S A s.heap H locs := by rw [hH, hlo]; exact hS
  rw [← hH] at hP
  have hW : W p l e (headSpec wsL_finds rhL_finds).room s m ([.ref (bF 0), .int x1, .int x2, .ref (bO 1)] : List Value).toArray below meth c H locs 0 0 (vx_MQ below (qI g A (cO g bO vO1 ++ (cF g bF qF0 (bS 0) qF2 qF3 (bRT 0) vF1 ++ (cS g bS (bC 0) (bT 0) ++ (cC g bC vC ++ (cT g bT vT ++ (cR g bRT nRT (bG 0) (bB 0) vRT1 ++ (cL g bG vG1 ++ (cL g bB vB1)))))))) r) (xF A) ([.ref (bF 0), .int x1, .int x2, .ref (bO 1)] : List Value).toArray s 1 6 A) (F0 m 0 ls []) := by
    refine lv_aload_n hx hb dL_finds_0 rfl (lv_at hl 3 rfl) ?_
    refine lv_iconst (v := (0 : Int32)) hx hb dL_finds_1 (by decide) ?_
    refine lv_aload_n hx hb dL_finds_2 rfl (lv_at hl 0 rfl) ?_
    refine lv_iload_n hx hb dL_finds_3 rfl (lv_at hl 1 rfl) ?_
    refine lv_iload_n hx hb dL_finds_4 rfl (lv_at hl 2 rfl) ?_
    obtain ⟨c1, r2, vF_3, vRT_4, vG_5, vB_6, hg7, hf⟩ := o6_at hf
    rcases Classical.em (¬ c1 = 0) with hc1 | hc1
    · have hf := it_f hf hc1
      rcases Classical.em (c1 = 2) with h8 | h8
      · have hf := it_t hf h8
        rw [h8] at hg7
        refine kh_viP ⟨hx, hb, hml, hown, htu⟩ hK hP hD hS hA hG (t_X7_finds l hst g bF qF0 qF2 qF3 vF bS bC vC bT vT bRT nRT vRT bG vG bB vB x1 x2 r2 vF_3 vRT_4 vG_5 vB_6 2 hg7 (by decide)) (cwV 2 htu (gU_V mw_4_178 hcX7_finds) rfl rfl rfl hdX7_finds ⟨Nat.le_of_ble_eq_true rfl, Nat.le_of_ble_eq_true rfl⟩) (q0 := 1) (ci := 7) (fs := fcF bF qF0 (bS 0) qF2 qF3 (bRT 0) vF) (q := (RX7, TX7, 12)) rfl rfl rfl (wr := (cO g bO vO)) (w2 := cO g bO vO ++ (cF g bF qF0 (bS 0) qF2 qF3 (bRT 0) vF_3 ++ (cS g bS (bC 0) (bT 0) ++ (cC g bC vC ++ (cT g bT vT ++ (cR g bRT nRT (bG 0) (bB 0) vRT_4 ++ (cL g bG vG_5 ++ (cL g bB vB_6)))))))) [1, 2, 3, 4, 5, 6, 7, 8, 9, 10, 11, 12, 13, 14, 15, 16, 17, 18, 19, 20, 21, 22, 23, 24, 25, 26, 27, 28, 29, 30, 31, 32] [0] [0, 1, 2, 3, 4, 5, 6, 7, 8, 9, 10, 11, 12, 13, 14, 15, 16, 17, 18, 19, 20, 21, 22, 23, 24, 25, 26, 27, 28, 29, 30, 31, 32] rfl rfl (by decide) (by decide) (by decide) rfl rfl (by decide) (As := [.int x1, .int x2]) (rest := [.int (0 : Int32), .ref (bO 1)]) rfl rfl hl.1 (Nat.le_of_ble_eq_true rfl) dL_finds_5 ⟨Nat.le_refl _, Nat.le_refl _⟩ (fun q9 ce H locs hP hD hS g1 g2 g3 => ?_)
        refine vx_catch (E := "java/lang/IndexOutOfBoundsException") (name := "java/lang/IndexOutOfBoundsException") hown [] (⟨0, 10, 13, 22⟩ : ExceptionTableEntry) [] hT (fun z hz => nomatch hz) (by decide) (by decide) k_4_124 (va_Nw.use rfl (hG.1.2.2.2.2.2.1 "java/lang/IndexOutOfBoundsException" (List.mem_of_getElem? (i := 1) rfl))) g1 g2 g3 ?_
        refine W.eq (g2 := F0 m 13 ls [.ref q9]) rfl ?_
        refine lv_astore (lv' := [(4, .ref q9), (0, .ref (bF 0)), (1, .int x1), (2, .int x2), (3, .ref (bO 1))]) hx hb dL_finds_13 hl (by decide) rfl (fun ls hl => ?_)
        refine lv_iconst (v := (1 : Int32)) hx hb dL_finds_15 (by decide) ?_
        obtain ⟨e9, e10, e11, e12, e13, e14⟩ := kp_6 hf
        rw [e10] at hP hD
        rw [e11] at hP hD
        rw [e12] at hP hD
        rw [e13] at hP hD
        rw [e14] at hP hD
        exact vx_ret (W.widen (k := 1) (n := 6) (by omega) (by omega) (k_iret hx hb hr hlocks hK hP hD hS e9 dL_finds_16))
      have hf := it_f hf h8
      cases hf
    have hc1 := Classical.not_not.mp hc1
    have hf := it_t hf hc1
    rw [hc1] at hg7
    refine k_viP ⟨hx, hb, hml, hown, htu⟩ hK hP hD hS hA hG (c_X7_finds l g bF qF0 qF2 qF3 vF bS bC vC bT vT bRT nRT vRT bG vG bB vB x1 x2 r2 vF_3 vRT_4 vG_5 vB_6 hg7) (cwV 2 htu (gU_V mw_4_178 hcX7_finds) rfl rfl rfl hdX7_finds ⟨Nat.le_of_ble_eq_true rfl, Nat.le_of_ble_eq_true rfl⟩) (q0 := 1) (ci := 7) (fs := fcF bF qF0 (bS 0) qF2 qF3 (bRT 0) vF) (q := (RX7, TX7, 12)) rfl rfl rfl (wr := (cO g bO vO)) (w2 := cO g bO vO ++ (cF g bF qF0 (bS 0) qF2 qF3 (bRT 0) vF_3 ++ (cS g bS (bC 0) (bT 0) ++ (cC g bC vC ++ (cT g bT vT ++ (cR g bRT nRT (bG 0) (bB 0) vRT_4 ++ (cL g bG vG_5 ++ (cL g bB vB_6)))))))) [1, 2, 3, 4, 5, 6, 7, 8, 9, 10, 11, 12, 13, 14, 15, 16, 17, 18, 19, 20, 21, 22, 23, 24, 25, 26, 27, 28, 29, 30, 31, 32] [0] [0, 1, 2, 3, 4, 5, 6, 7, 8, 9, 10, 11, 12, 13, 14, 15, 16, 17, 18, 19, 20, 21, 22, 23, 24, 25, 26, 27, 28, 29, 30, 31, 32] rfl rfl (by decide) (by decide) (by decide) rfl rfl (by decide) (As := [.int x1, .int x2]) (rest := [.int (0 : Int32), .ref (bO 1)]) rfl rfl hl.1 (Nat.le_of_ble_eq_true rfl) dL_finds_5 (k1 := 0) (n1 := 0) rfl rfl ⟨Nat.zero_le _, Nat.zero_le _⟩ (fun H locs hP hD hS => ?_)
    refine lv_i2l (v := (r2).toInt64) hx hb dL_finds_8 rfl ?_
    obtain ⟨h15, hf⟩ := gd_in hf
    refine va_last (D := g.1) (f := (vO.2.2 0)) hx hb hK hP hD hS 0 1 rfl rfl h15 dL_finds_9 (fun H locs hP hD hS => ?_)
    obtain ⟨vO_16, evO_16⟩ : ∃ z, z = sJ vO 0 ((0 : Int32)).toNatClampNeg ((r2).toInt64) := ⟨_, rfl⟩
    have hf := bn_at hf evO_16
    have hP : va_P g.1 vwCl (cO g bO vO_16 ++ (cF g bF qF0 (bS 0) qF2 qF3 (bRT 0) vF_3 ++ (cS g bS (bC 0) (bT 0) ++ (cC g bC vC ++ (cT g bT vT ++ (cR g bRT nRT (bG 0) (bB 0) vRT_4 ++ (cL g bG vG_5 ++ (cL g bB vB_6)))))))) H := by rw [evO_16]; exact hP
    have hD : va_D A (cO g bO vO_16 ++ (cF g bF qF0 (bS 0) qF2 qF3 (bRT 0) vF_3 ++ (cS g bS (bC 0) (bT 0) ++ (cC g bC vC ++ (cT g bT vT ++ (cR g bRT nRT (bG 0) (bB 0) vRT_4 ++ (cL g bG vG_5 ++ (cL g bB vB_6)))))))) := by rw [evO_16]; exact hD
    refine lv_goto (tgt := 17) hx hb dL_finds_10 (by decide) ?_
    refine lv_iconst (v := (0 : Int32)) hx hb dL_finds_17 (by decide) ?_
    obtain ⟨e17, e18, e19, e20, e21, e22⟩ := kp_6 hf
    rw [e18] at hP hD
    rw [e19] at hP hD
    rw [e20] at hP hD
    rw [e21] at hP hD
    rw [e22] at hP hD
    exact vx_ret (W.widen (k := 1) (n := 6) (by omega) (by omega) (k_iret hx hb hr hlocks hK hP hD hS e17 dL_finds_18))
  rw [hH, hlo] at hW
  exact hW
def f_L_tellsApart (vO : Vs) (vF : Vs) (vC : Vs) (vT : Vs) (nRT : Nat) (vRT : Vs) (vG : Vs) (vB : Vs) (x1 : Int32) (x2 : Int32) (x3 : Int32) : Option (Int32 × Vs × Vs × Vs × Vs × Vs) :=
  o6 (f_X7_tellsApart vF vC vT nRT vRT vG vB x1 x2 x3) (fun (c1 : Nat) (r2 : Int32) (vF_3 : Vs) (vRT_4 : Vs) (vG_5 : Vs) (vB_6 : Vs) => if c1 = 0 then (jn (fun (t15 : Int64) => gd (inb (0 : Int32) 1) (bn (sJ vO 0 ((0 : Int32)).toNatClampNeg t15) (fun (vO_19 : Vs) => some ((0 : Int32), vO_19, vF_3, vRT_4, vG_5, vB_6)))) (fun k16 => if r2 = 0 then k16 (0 : Int64) else k16 (1 : Int64))) else if c1 = 2 then (some ((1 : Int32), vO, vF_3, vRT_4, vG_5, vB_6)) else none)
abbrev wsL_tellsApart : List Cond := .codeWith yL_tellsApart cL_tellsApart 6 (some .int) [(0, 19, 22, 22)] :: UW
abbrev rhL_tellsApart : Room := { frames := 11, cells := 1, slots := 6, locals := 204 }
set_option maxHeartbeats 4000000 in
set_option maxRecDepth 100000 in
theorem h_L_tellsApart (l : Launch) (hst : l.stackTraces = false) (g : Gx) (bO : Nat → Nat) (vO : Vs) (bF : Nat → Nat) (qF0 : Nat) (qF2 : Nat) (qF3 : Nat) (vF : Vs) (bS : Nat → Nat) (bC : Nat → Nat) (vC : Vs) (bT : Nat → Nat) (vT : Vs) (bRT : Nat → Nat) (nRT : Nat) (vRT : Vs) (bG : Nat → Nat) (vG : Vs) (bB : Nat → Nat) (vB : Vs) (x1 : Int32) (x2 : Int32) (x3 : Int32) (r : Int32) (vO1 : Vs) (vF1 : Vs) (vRT1 : Vs) (vG1 : Vs) (vB1 : Vs) (hf : f_L_tellsApart vO vF vC vT nRT vRT vG vB x1 x2 x3 = some (r, vO1, vF1, vRT1, vG1, vB1)) : CtH l yL_tellsApart wsL_tellsApart rhL_tellsApart g [.ref (bF 0), .int x1, .int x2, .int x3, .ref (bO 1)] (cO g bO vO ++ (cF g bF qF0 (bS 0) qF2 qF3 (bRT 0) vF ++ (cS g bS (bC 0) (bT 0) ++ (cC g bC vC ++ (cT g bT vT ++ (cR g bRT nRT (bG 0) (bB 0) vRT ++ (cL g bG vG ++ (cL g bB vB)))))))) (cO g bO vO1 ++ (cF g bF qF0 (bS 0) qF2 qF3 (bRT 0) vF1 ++ (cS g bS (bC 0) (bT 0) ++ (cC g bC vC ++ (cT g bT vT ++ (cR g bRT nRT (bG 0) (bB 0) vRT1 ++ (cL g bG vG1 ++ (cL g bB vB1)))))))) r 1 6 := by
  unfold CtH
  intro sz
  refine vx_ofWH (cc := cL_tellsApart) (maxL := 6) (ret := (some .int)) (hh := [(0, 19, 22, 22)]) (by decide) rfl ?_
  intro p e s m args below meth c s₁ B hml hv
  obtain ⟨rfl, hsz, hP, hK, hD0, hG⟩ := hv
  have hx := B.exec
  have hb := B.bytes
  have hr := B.returns
  have hts := atoms_spec (ws := wsL_tellsApart) B.pre
  have hT := vx_table (x := yL_tellsApart) B (hts _ List.mem_cons_self)
  have hown : s.vm.findClass RL = some m.cls := findClass_of_methodNamed B.named
  have hlocks := B.notSynchronized
  subst hsz
  have hD := hD0.self (sz := s.heap.size)
  generalize hAe : va_A (cO g bO vO ++ (cF g bF qF0 (bS 0) qF2 qF3 (bRT 0) vF ++ (cS g bS (bC 0) (bT 0) ++ (cC g bC vC ++ (cT g bT vT ++ (cR g bRT nRT (bG 0) (bB 0) vRT ++ (cL g bG vG ++ (cL g bB vB)))))))) s.heap.size = A at hD hG ⊢
  have hA : ∀ q : Nat, s.heap.size ≤ q → A q := fun q h => by rw [← hAe]; exact Or.inr h
  clear hAe hD0
  have hS : va_S A s.heap s.heap [] := va_S.rf
  have hl := lv_entry ([.ref (bF 0), .int x1, .int x2, .int x3, .ref (bO 1)]) (n := 6) (Nat.le_of_ble_eq_true rfl)
  rw [lg_entry_eq]
  generalize (lg_sl ([.ref (bF 0), .int x1, .int x2, .int x3, .ref (bO 1)]) ++ List.replicate (6 - (lg_sl ([.ref (bF 0), .int x1, .int x2, .int x3, .ref (bO 1)])).length) Slot.unset).toArray = ls at hl ⊢
  have hl : lv_has ls 6 [(0, .ref (bF 0)), (1, .int x1), (2, .int x2), (3, .int x3), (4, .ref (bO 1))] := hl
  have htu : ∀ w ∈ UW, w.before _ s = true := fun w h => hts w (List.mem_cons_of_mem _ h)
  have k_4_124 := htu _ mw_4_124
  unfold f_L_tellsApart at hf
  obtain ⟨H, hH⟩ : ∃ z, z = s.heap := ⟨_, rfl⟩
  obtain ⟨locs, hlo⟩ : ∃ z : List Loc, z = [] := ⟨_, rfl⟩
  have hS : va_S A s.heap H locs := by rw [hH, hlo]; exact hS
  rw [← hH] at hP
  have hW : W p l e (headSpec wsL_tellsApart rhL_tellsApart).room s m ([.ref (bF 0), .int x1, .int x2, .int x3, .ref (bO 1)] : List Value).toArray below meth c H locs 0 0 (vx_MQ below (qI g A (cO g bO vO1 ++ (cF g bF qF0 (bS 0) qF2 qF3 (bRT 0) vF1 ++ (cS g bS (bC 0) (bT 0) ++ (cC g bC vC ++ (cT g bT vT ++ (cR g bRT nRT (bG 0) (bB 0) vRT1 ++ (cL g bG vG1 ++ (cL g bB vB1)))))))) r) (xF A) ([.ref (bF 0), .int x1, .int x2, .int x3, .ref (bO 1)] : List Value).toArray s 1 6 A) (F0 m 0 ls []) := by
    refine lv_aload hx hb dL_tellsApart_0 (lv_at hl 4 rfl) ?_
    refine lv_iconst (v := (0 : Int32)) hx hb dL_tellsApart_2 (by decide) ?_
    refine lv_aload_n hx hb dL_tellsApart_3 rfl (lv_at hl 0 rfl) ?_
    refine lv_iload_n hx hb dL_tellsApart_4 rfl (lv_at hl 1 rfl) ?_
    refine lv_iload_n hx hb dL_tellsApart_5 rfl (lv_at hl 2 rfl) ?_
    refine lv_iload_n hx hb dL_tellsApart_6 rfl (lv_at hl 3 rfl) ?_
    obtain ⟨c1, r2, vF_3, vRT_4, vG_5, vB_6, hg7, hf⟩ := o6_at hf
    rcases Classical.em (¬ c1 = 0) with hc1 | hc1
    · have hf := it_f hf hc1
      rcases Classical.em (c1 = 2) with h8 | h8
      · have hf := it_t hf h8
        rw [h8] at hg7
        refine kh_viP ⟨hx, hb, hml, hown, htu⟩ hK hP hD hS hA hG (t_X7_tellsApart l hst g bF qF0 qF2 qF3 vF bS bC vC bT vT bRT nRT vRT bG vG bB vB x1 x2 x3 r2 vF_3 vRT_4 vG_5 vB_6 2 hg7 (by decide)) (cwV 3 htu (gU_V mw_4_191 hcX7_tellsApart) rfl rfl rfl hdX7_tellsApart ⟨Nat.le_of_ble_eq_true rfl, Nat.le_of_ble_eq_true rfl⟩) (q0 := 1) (ci := 7) (fs := fcF bF qF0 (bS 0) qF2 qF3 (bRT 0) vF) (q := (RX7, TX7, 12)) rfl rfl rfl (wr := (cO g bO vO)) (w2 := cO g bO vO ++ (cF g bF qF0 (bS 0) qF2 qF3 (bRT 0) vF_3 ++ (cS g bS (bC 0) (bT 0) ++ (cC g bC vC ++ (cT g bT vT ++ (cR g bRT nRT (bG 0) (bB 0) vRT_4 ++ (cL g bG vG_5 ++ (cL g bB vB_6)))))))) [1, 2, 3, 4, 5, 6, 7, 8, 9, 10, 11, 12, 13, 14, 15, 16, 17, 18, 19, 20, 21, 22, 23, 24, 25, 26, 27, 28, 29, 30, 31, 32] [0] [0, 1, 2, 3, 4, 5, 6, 7, 8, 9, 10, 11, 12, 13, 14, 15, 16, 17, 18, 19, 20, 21, 22, 23, 24, 25, 26, 27, 28, 29, 30, 31, 32] rfl rfl (by decide) (by decide) (by decide) rfl rfl (by decide) (As := [.int x1, .int x2, .int x3]) (rest := [.int (0 : Int32), .ref (bO 1)]) rfl rfl hl.1 (Nat.le_of_ble_eq_true rfl) dL_tellsApart_7 ⟨Nat.le_refl _, Nat.le_refl _⟩ (fun q9 ce H locs hP hD hS g1 g2 g3 => ?_)
        refine vx_catch (E := "java/lang/IndexOutOfBoundsException") (name := "java/lang/IndexOutOfBoundsException") hown [] (⟨0, 19, 22, 22⟩ : ExceptionTableEntry) [] hT (fun z hz => nomatch hz) (by decide) (by decide) k_4_124 (va_Nw.use rfl (hG.1.2.2.2.2.2.1 "java/lang/IndexOutOfBoundsException" (List.mem_of_getElem? (i := 1) rfl))) g1 g2 g3 ?_
        refine W.eq (g2 := F0 m 22 ls [.ref q9]) rfl ?_
        refine lv_astore (lv' := [(5, .ref q9), (0, .ref (bF 0)), (1, .int x1), (2, .int x2), (3, .int x3), (4, .ref (bO 1))]) hx hb dL_tellsApart_22 hl (by decide) rfl (fun ls hl => ?_)
        refine lv_iconst (v := (1 : Int32)) hx hb dL_tellsApart_24 (by decide) ?_
        obtain ⟨e9, e10, e11, e12, e13, e14⟩ := kp_6 hf
        rw [e10] at hP hD
        rw [e11] at hP hD
        rw [e12] at hP hD
        rw [e13] at hP hD
        rw [e14] at hP hD
        exact vx_ret (W.widen (k := 1) (n := 6) (by omega) (by omega) (k_iret hx hb hr hlocks hK hP hD hS e9 dL_tellsApart_25))
      have hf := it_f hf h8
      cases hf
    have hc1 := Classical.not_not.mp hc1
    have hf := it_t hf hc1
    rw [hc1] at hg7
    refine k_viP ⟨hx, hb, hml, hown, htu⟩ hK hP hD hS hA hG (c_X7_tellsApart l g bF qF0 qF2 qF3 vF bS bC vC bT vT bRT nRT vRT bG vG bB vB x1 x2 x3 r2 vF_3 vRT_4 vG_5 vB_6 hg7) (cwV 3 htu (gU_V mw_4_191 hcX7_tellsApart) rfl rfl rfl hdX7_tellsApart ⟨Nat.le_of_ble_eq_true rfl, Nat.le_of_ble_eq_true rfl⟩) (q0 := 1) (ci := 7) (fs := fcF bF qF0 (bS 0) qF2 qF3 (bRT 0) vF) (q := (RX7, TX7, 12)) rfl rfl rfl (wr := (cO g bO vO)) (w2 := cO g bO vO ++ (cF g bF qF0 (bS 0) qF2 qF3 (bRT 0) vF_3 ++ (cS g bS (bC 0) (bT 0) ++ (cC g bC vC ++ (cT g bT vT ++ (cR g bRT nRT (bG 0) (bB 0) vRT_4 ++ (cL g bG vG_5 ++ (cL g bB vB_6)))))))) [1, 2, 3, 4, 5, 6, 7, 8, 9, 10, 11, 12, 13, 14, 15, 16, 17, 18, 19, 20, 21, 22, 23, 24, 25, 26, 27, 28, 29, 30, 31, 32] [0] [0, 1, 2, 3, 4, 5, 6, 7, 8, 9, 10, 11, 12, 13, 14, 15, 16, 17, 18, 19, 20, 21, 22, 23, 24, 25, 26, 27, 28, 29, 30, 31, 32] rfl rfl (by decide) (by decide) (by decide) rfl rfl (by decide) (As := [.int x1, .int x2, .int x3]) (rest := [.int (0 : Int32), .ref (bO 1)]) rfl rfl hl.1 (Nat.le_of_ble_eq_true rfl) dL_tellsApart_7 (k1 := 0) (n1 := 0) rfl rfl ⟨Nat.zero_le _, Nat.zero_le _⟩ (fun H locs hP hD hS => ?_)
    obtain ⟨k16, hk26, hf⟩ := jn_at hf
    have hJ17 : ∀ (t15 : Int64), k16 t15 = some (r, vO1, vF1, vRT1, vG1, vB1) → ∀ (H : Heap) (locs : List Loc), va_P g.1 vwCl (cO g bO vO ++ (cF g bF qF0 (bS 0) qF2 qF3 (bRT 0) vF_3 ++ (cS g bS (bC 0) (bT 0) ++ (cC g bC vC ++ (cT g bT vT ++ (cR g bRT nRT (bG 0) (bB 0) vRT_4 ++ (cL g bG vG_5 ++ (cL g bB vB_6)))))))) H → va_D A (cO g bO vO ++ (cF g bF qF0 (bS 0) qF2 qF3 (bRT 0) vF_3 ++ (cS g bS (bC 0) (bT 0) ++ (cC g bC vC ++ (cT g bT vT ++ (cR g bRT nRT (bG 0) (bB 0) vRT_4 ++ (cL g bG vG_5 ++ (cL g bB vB_6)))))))) → va_S A s.heap H locs → ∀ ls : Array Slot, lv_has ls 6 [] → W p l e (headSpec wsL_tellsApart rhL_tellsApart).room s m ([.ref (bF 0), .int x1, .int x2, .int x3, .ref (bO 1)] : List Value).toArray below meth c H locs 0 0 (vx_MQ below (qI g A (cO g bO vO1 ++ (cF g bF qF0 (bS 0) qF2 qF3 (bRT 0) vF1 ++ (cS g bS (bC 0) (bT 0) ++ (cC g bC vC ++ (cT g bT vT ++ (cR g bRT nRT (bG 0) (bB 0) vRT1 ++ (cL g bG vG1 ++ (cL g bB vB1)))))))) r) (xF A) ([.ref (bF 0), .int x1, .int x2, .int x3, .ref (bO 1)] : List Value).toArray s 1 6 A) (F0 m 18 ls [.long t15, .int (0 : Int32), .ref (bO 1)]) := by
      intro t15 hf H locs hP hD hS ls hl
      rw [hk26] at hf
      dsimp only at hf
      clear hk26
      obtain ⟨h18, hf⟩ := gd_in hf
      refine va_last (D := g.1) (f := (vO.2.2 0)) hx hb hK hP hD hS 0 1 rfl rfl h18 dL_tellsApart_18 (fun H locs hP hD hS => ?_)
      obtain ⟨vO_19, evO_19⟩ : ∃ z, z = sJ vO 0 ((0 : Int32)).toNatClampNeg t15 := ⟨_, rfl⟩
      have hf := bn_at hf evO_19
      have hP : va_P g.1 vwCl (cO g bO vO_19 ++ (cF g bF qF0 (bS 0) qF2 qF3 (bRT 0) vF_3 ++ (cS g bS (bC 0) (bT 0) ++ (cC g bC vC ++ (cT g bT vT ++ (cR g bRT nRT (bG 0) (bB 0) vRT_4 ++ (cL g bG vG_5 ++ (cL g bB vB_6)))))))) H := by rw [evO_19]; exact hP
      have hD : va_D A (cO g bO vO_19 ++ (cF g bF qF0 (bS 0) qF2 qF3 (bRT 0) vF_3 ++ (cS g bS (bC 0) (bT 0) ++ (cC g bC vC ++ (cT g bT vT ++ (cR g bRT nRT (bG 0) (bB 0) vRT_4 ++ (cL g bG vG_5 ++ (cL g bB vB_6)))))))) := by rw [evO_19]; exact hD
      refine lv_goto (tgt := 26) hx hb dL_tellsApart_19 (by decide) ?_
      refine lv_iconst (v := (0 : Int32)) hx hb dL_tellsApart_26 (by decide) ?_
      obtain ⟨e20, e21, e22, e23, e24, e25⟩ := kp_6 hf
      rw [e21] at hP hD
      rw [e22] at hP hD
      rw [e23] at hP hD
      rw [e24] at hP hD
      rw [e25] at hP hD
      exact vx_ret (W.widen (k := 1) (n := 6) (by omega) (by omega) (k_iret hx hb hr hlocks hK hP hD hS e20 dL_tellsApart_27))
    refine lv_if_eq (tgt := 17) hx hb dL_tellsApart_10 (by decide) (fun c27 => ?_) (fun c27 => ?_)
    · have hf := it_t hf c27
      refine lv_lconst (v := (0 : Int64)) hx hb dL_tellsApart_17 (by decide) ?_
      exact hJ17 (0 : Int64) hf H locs hP hD hS _ (lv_sub hl [] rfl)
    · have hf := it_f hf c27
      refine lv_lconst (v := (1 : Int64)) hx hb dL_tellsApart_13 (by decide) ?_
      refine lv_goto (tgt := 18) hx hb dL_tellsApart_14 (by decide) ?_
      exact hJ17 (1 : Int64) hf H locs hP hD hS _ (lv_sub hl [] rfl)
  rw [hH, hlo] at hW
  exact hW
def f_L_worth (vO : Vs) (vF : Vs) (vC : Vs) (vT : Vs) (nRT : Nat) (vRT : Vs) (vG : Vs) (vB : Vs) (x1 : Int32) : Option (Int32 × Vs × Vs × Vs × Vs × Vs) :=
  o6 (f_X7_worth vF vC vT nRT vRT vG vB x1) (fun (c1 : Nat) (r2 : Int32) (vF_3 : Vs) (vRT_4 : Vs) (vG_5 : Vs) (vB_6 : Vs) => if c1 = 0 then (gd (inb (0 : Int32) 1) (bn (sJ vO 0 ((0 : Int32)).toNatClampNeg ((r2).toInt64)) (fun (vO_16 : Vs) => some ((0 : Int32), vO_16, vF_3, vRT_4, vG_5, vB_6)))) else if c1 = 2 then (some ((1 : Int32), vO, vF_3, vRT_4, vG_5, vB_6)) else none)
abbrev wsL_worth : List Cond := .codeWith yL_worth cL_worth 4 (some .int) [(0, 9, 12, 22)] :: UW
abbrev rhL_worth : Room := { frames := 11, cells := 1, slots := 6, locals := 202 }
set_option maxHeartbeats 4000000 in
set_option maxRecDepth 100000 in
theorem h_L_worth (l : Launch) (hst : l.stackTraces = false) (g : Gx) (bO : Nat → Nat) (vO : Vs) (bF : Nat → Nat) (qF0 : Nat) (qF2 : Nat) (qF3 : Nat) (vF : Vs) (bS : Nat → Nat) (bC : Nat → Nat) (vC : Vs) (bT : Nat → Nat) (vT : Vs) (bRT : Nat → Nat) (nRT : Nat) (vRT : Vs) (bG : Nat → Nat) (vG : Vs) (bB : Nat → Nat) (vB : Vs) (x1 : Int32) (r : Int32) (vO1 : Vs) (vF1 : Vs) (vRT1 : Vs) (vG1 : Vs) (vB1 : Vs) (hf : f_L_worth vO vF vC vT nRT vRT vG vB x1 = some (r, vO1, vF1, vRT1, vG1, vB1)) : CtH l yL_worth wsL_worth rhL_worth g [.ref (bF 0), .int x1, .ref (bO 1)] (cO g bO vO ++ (cF g bF qF0 (bS 0) qF2 qF3 (bRT 0) vF ++ (cS g bS (bC 0) (bT 0) ++ (cC g bC vC ++ (cT g bT vT ++ (cR g bRT nRT (bG 0) (bB 0) vRT ++ (cL g bG vG ++ (cL g bB vB)))))))) (cO g bO vO1 ++ (cF g bF qF0 (bS 0) qF2 qF3 (bRT 0) vF1 ++ (cS g bS (bC 0) (bT 0) ++ (cC g bC vC ++ (cT g bT vT ++ (cR g bRT nRT (bG 0) (bB 0) vRT1 ++ (cL g bG vG1 ++ (cL g bB vB1)))))))) r 1 6 := by
  unfold CtH
  intro sz
  refine vx_ofWH (cc := cL_worth) (maxL := 4) (ret := (some .int)) (hh := [(0, 9, 12, 22)]) (by decide) rfl ?_
  intro p e s m args below meth c s₁ B hml hv
  obtain ⟨rfl, hsz, hP, hK, hD0, hG⟩ := hv
  have hx := B.exec
  have hb := B.bytes
  have hr := B.returns
  have hts := atoms_spec (ws := wsL_worth) B.pre
  have hT := vx_table (x := yL_worth) B (hts _ List.mem_cons_self)
  have hown : s.vm.findClass RL = some m.cls := findClass_of_methodNamed B.named
  have hlocks := B.notSynchronized
  subst hsz
  have hD := hD0.self (sz := s.heap.size)
  generalize hAe : va_A (cO g bO vO ++ (cF g bF qF0 (bS 0) qF2 qF3 (bRT 0) vF ++ (cS g bS (bC 0) (bT 0) ++ (cC g bC vC ++ (cT g bT vT ++ (cR g bRT nRT (bG 0) (bB 0) vRT ++ (cL g bG vG ++ (cL g bB vB)))))))) s.heap.size = A at hD hG ⊢
  have hA : ∀ q : Nat, s.heap.size ≤ q → A q := fun q h => by rw [← hAe]; exact Or.inr h
  clear hAe hD0
  have hS : va_S A s.heap s.heap [] := va_S.rf
  have hl := lv_entry ([.ref (bF 0), .int x1, .ref (bO 1)]) (n := 4) (Nat.le_of_ble_eq_true rfl)
  rw [lg_entry_eq]
  generalize (lg_sl ([.ref (bF 0), .int x1, .ref (bO 1)]) ++ List.replicate (4 - (lg_sl ([.ref (bF 0), .int x1, .ref (bO 1)])).length) Slot.unset).toArray = ls at hl ⊢
  have hl : lv_has ls 4 [(0, .ref (bF 0)), (1, .int x1), (2, .ref (bO 1))] := hl
  have htu : ∀ w ∈ UW, w.before _ s = true := fun w h => hts w (List.mem_cons_of_mem _ h)
  have k_4_124 := htu _ mw_4_124
  unfold f_L_worth at hf
  obtain ⟨H, hH⟩ : ∃ z, z = s.heap := ⟨_, rfl⟩
  obtain ⟨locs, hlo⟩ : ∃ z : List Loc, z = [] := ⟨_, rfl⟩
  have hS : va_S A s.heap H locs := by rw [hH, hlo]; exact hS
  rw [← hH] at hP
  have hW : W p l e (headSpec wsL_worth rhL_worth).room s m ([.ref (bF 0), .int x1, .ref (bO 1)] : List Value).toArray below meth c H locs 0 0 (vx_MQ below (qI g A (cO g bO vO1 ++ (cF g bF qF0 (bS 0) qF2 qF3 (bRT 0) vF1 ++ (cS g bS (bC 0) (bT 0) ++ (cC g bC vC ++ (cT g bT vT ++ (cR g bRT nRT (bG 0) (bB 0) vRT1 ++ (cL g bG vG1 ++ (cL g bB vB1)))))))) r) (xF A) ([.ref (bF 0), .int x1, .ref (bO 1)] : List Value).toArray s 1 6 A) (F0 m 0 ls []) := by
    refine lv_aload_n hx hb dL_worth_0 rfl (lv_at hl 2 rfl) ?_
    refine lv_iconst (v := (0 : Int32)) hx hb dL_worth_1 (by decide) ?_
    refine lv_aload_n hx hb dL_worth_2 rfl (lv_at hl 0 rfl) ?_
    refine lv_iload_n hx hb dL_worth_3 rfl (lv_at hl 1 rfl) ?_
    obtain ⟨c1, r2, vF_3, vRT_4, vG_5, vB_6, hg7, hf⟩ := o6_at hf
    rcases Classical.em (¬ c1 = 0) with hc1 | hc1
    · have hf := it_f hf hc1
      rcases Classical.em (c1 = 2) with h8 | h8
      · have hf := it_t hf h8
        rw [h8] at hg7
        refine kh_viP ⟨hx, hb, hml, hown, htu⟩ hK hP hD hS hA hG (t_X7_worth l hst g bF qF0 qF2 qF3 vF bS bC vC bT vT bRT nRT vRT bG vG bB vB x1 r2 vF_3 vRT_4 vG_5 vB_6 2 hg7 (by decide)) (cwV 1 htu (gU_V mw_4_198 hcX7_worth) rfl rfl rfl hdX7_worth ⟨Nat.le_of_ble_eq_true rfl, Nat.le_of_ble_eq_true rfl⟩) (q0 := 1) (ci := 7) (fs := fcF bF qF0 (bS 0) qF2 qF3 (bRT 0) vF) (q := (RX7, TX7, 12)) rfl rfl rfl (wr := (cO g bO vO)) (w2 := cO g bO vO ++ (cF g bF qF0 (bS 0) qF2 qF3 (bRT 0) vF_3 ++ (cS g bS (bC 0) (bT 0) ++ (cC g bC vC ++ (cT g bT vT ++ (cR g bRT nRT (bG 0) (bB 0) vRT_4 ++ (cL g bG vG_5 ++ (cL g bB vB_6)))))))) [1, 2, 3, 4, 5, 6, 7, 8, 9, 10, 11, 12, 13, 14, 15, 16, 17, 18, 19, 20, 21, 22, 23, 24, 25, 26, 27, 28, 29, 30, 31, 32] [0] [0, 1, 2, 3, 4, 5, 6, 7, 8, 9, 10, 11, 12, 13, 14, 15, 16, 17, 18, 19, 20, 21, 22, 23, 24, 25, 26, 27, 28, 29, 30, 31, 32] rfl rfl (by decide) (by decide) (by decide) rfl rfl (by decide) (As := [.int x1]) (rest := [.int (0 : Int32), .ref (bO 1)]) rfl rfl hl.1 (Nat.le_of_ble_eq_true rfl) dL_worth_4 ⟨Nat.le_refl _, Nat.le_refl _⟩ (fun q9 ce H locs hP hD hS g1 g2 g3 => ?_)
        refine vx_catch (E := "java/lang/IndexOutOfBoundsException") (name := "java/lang/IndexOutOfBoundsException") hown [] (⟨0, 9, 12, 22⟩ : ExceptionTableEntry) [] hT (fun z hz => nomatch hz) (by decide) (by decide) k_4_124 (va_Nw.use rfl (hG.1.2.2.2.2.2.1 "java/lang/IndexOutOfBoundsException" (List.mem_of_getElem? (i := 1) rfl))) g1 g2 g3 ?_
        refine W.eq (g2 := F0 m 12 ls [.ref q9]) rfl ?_
        refine lv_astore_n (lv' := [(3, .ref q9), (0, .ref (bF 0)), (1, .int x1), (2, .ref (bO 1))]) hx hb dL_worth_12 rfl hl (by decide) rfl (fun ls hl => ?_)
        refine lv_iconst (v := (1 : Int32)) hx hb dL_worth_13 (by decide) ?_
        obtain ⟨e9, e10, e11, e12, e13, e14⟩ := kp_6 hf
        rw [e10] at hP hD
        rw [e11] at hP hD
        rw [e12] at hP hD
        rw [e13] at hP hD
        rw [e14] at hP hD
        exact vx_ret (W.widen (k := 1) (n := 6) (by omega) (by omega) (k_iret hx hb hr hlocks hK hP hD hS e9 dL_worth_14))
      have hf := it_f hf h8
      cases hf
    have hc1 := Classical.not_not.mp hc1
    have hf := it_t hf hc1
    rw [hc1] at hg7
    refine k_viP ⟨hx, hb, hml, hown, htu⟩ hK hP hD hS hA hG (c_X7_worth l g bF qF0 qF2 qF3 vF bS bC vC bT vT bRT nRT vRT bG vG bB vB x1 r2 vF_3 vRT_4 vG_5 vB_6 hg7) (cwV 1 htu (gU_V mw_4_198 hcX7_worth) rfl rfl rfl hdX7_worth ⟨Nat.le_of_ble_eq_true rfl, Nat.le_of_ble_eq_true rfl⟩) (q0 := 1) (ci := 7) (fs := fcF bF qF0 (bS 0) qF2 qF3 (bRT 0) vF) (q := (RX7, TX7, 12)) rfl rfl rfl (wr := (cO g bO vO)) (w2 := cO g bO vO ++ (cF g bF qF0 (bS 0) qF2 qF3 (bRT 0) vF_3 ++ (cS g bS (bC 0) (bT 0) ++ (cC g bC vC ++ (cT g bT vT ++ (cR g bRT nRT (bG 0) (bB 0) vRT_4 ++ (cL g bG vG_5 ++ (cL g bB vB_6)))))))) [1, 2, 3, 4, 5, 6, 7, 8, 9, 10, 11, 12, 13, 14, 15, 16, 17, 18, 19, 20, 21, 22, 23, 24, 25, 26, 27, 28, 29, 30, 31, 32] [0] [0, 1, 2, 3, 4, 5, 6, 7, 8, 9, 10, 11, 12, 13, 14, 15, 16, 17, 18, 19, 20, 21, 22, 23, 24, 25, 26, 27, 28, 29, 30, 31, 32] rfl rfl (by decide) (by decide) (by decide) rfl rfl (by decide) (As := [.int x1]) (rest := [.int (0 : Int32), .ref (bO 1)]) rfl rfl hl.1 (Nat.le_of_ble_eq_true rfl) dL_worth_4 (k1 := 0) (n1 := 0) rfl rfl ⟨Nat.zero_le _, Nat.zero_le _⟩ (fun H locs hP hD hS => ?_)
    refine lv_i2l (v := (r2).toInt64) hx hb dL_worth_7 rfl ?_
    obtain ⟨h15, hf⟩ := gd_in hf
    refine va_last (D := g.1) (f := (vO.2.2 0)) hx hb hK hP hD hS 0 1 rfl rfl h15 dL_worth_8 (fun H locs hP hD hS => ?_)
    obtain ⟨vO_16, evO_16⟩ : ∃ z, z = sJ vO 0 ((0 : Int32)).toNatClampNeg ((r2).toInt64) := ⟨_, rfl⟩
    have hf := bn_at hf evO_16
    have hP : va_P g.1 vwCl (cO g bO vO_16 ++ (cF g bF qF0 (bS 0) qF2 qF3 (bRT 0) vF_3 ++ (cS g bS (bC 0) (bT 0) ++ (cC g bC vC ++ (cT g bT vT ++ (cR g bRT nRT (bG 0) (bB 0) vRT_4 ++ (cL g bG vG_5 ++ (cL g bB vB_6)))))))) H := by rw [evO_16]; exact hP
    have hD : va_D A (cO g bO vO_16 ++ (cF g bF qF0 (bS 0) qF2 qF3 (bRT 0) vF_3 ++ (cS g bS (bC 0) (bT 0) ++ (cC g bC vC ++ (cT g bT vT ++ (cR g bRT nRT (bG 0) (bB 0) vRT_4 ++ (cL g bG vG_5 ++ (cL g bB vB_6)))))))) := by rw [evO_16]; exact hD
    refine lv_goto (tgt := 15) hx hb dL_worth_9 (by decide) ?_
    refine lv_iconst (v := (0 : Int32)) hx hb dL_worth_15 (by decide) ?_
    obtain ⟨e17, e18, e19, e20, e21, e22⟩ := kp_6 hf
    rw [e18] at hP hD
    rw [e19] at hP hD
    rw [e20] at hP hD
    rw [e21] at hP hD
    rw [e22] at hP hD
    exact vx_ret (W.widen (k := 1) (n := 6) (by omega) (by omega) (k_iret hx hb hr hlocks hK hP hD hS e17 dL_worth_16))
  rw [hH, hlo] at hW
  exact hW
def f_L_testFor (vO : Vs) (vF : Vs) (vC : Vs) (nRF : Nat) (vRF : Vs) (vGF : Vs) (vBF : Vs) (x1 : Int32) : Option (Int32 × Vs × Vs × Vs × Vs × Vs) :=
  o6 (f_X7_testFor vF vC nRF vRF vGF vBF x1) (fun (c1 : Nat) (r2 : Int32) (vF_3 : Vs) (vRF_4 : Vs) (vGF_5 : Vs) (vBF_6 : Vs) => if c1 = 0 then (gd (inb (0 : Int32) 1) (bn (sJ vO 0 ((0 : Int32)).toNatClampNeg ((r2).toInt64)) (fun (vO_16 : Vs) => some ((0 : Int32), vO_16, vF_3, vRF_4, vGF_5, vBF_6)))) else if c1 = 2 then (some ((1 : Int32), vO, vF_3, vRF_4, vGF_5, vBF_6)) else none)
abbrev wsL_testFor : List Cond := .codeWith yL_testFor cL_testFor 4 (some .int) [(0, 9, 12, 22)] :: UW
abbrev rhL_testFor : Room := { frames := 11, cells := 1, slots := 6, locals := 202 }
set_option maxHeartbeats 4000000 in
set_option maxRecDepth 100000 in
theorem h_L_testFor (l : Launch) (hst : l.stackTraces = false) (g : Gx) (bO : Nat → Nat) (vO : Vs) (bF : Nat → Nat) (qF0 : Nat) (qF2 : Nat) (qF4 : Nat) (vF : Vs) (bS : Nat → Nat) (qS1 : Nat) (bC : Nat → Nat) (vC : Vs) (bRF : Nat → Nat) (nRF : Nat) (vRF : Vs) (bGF : Nat → Nat) (vGF : Vs) (bBF : Nat → Nat) (vBF : Vs) (x1 : Int32) (r : Int32) (vO1 : Vs) (vF1 : Vs) (vRF1 : Vs) (vGF1 : Vs) (vBF1 : Vs) (hf : f_L_testFor vO vF vC nRF vRF vGF vBF x1 = some (r, vO1, vF1, vRF1, vGF1, vBF1)) : CtH l yL_testFor wsL_testFor rhL_testFor g [.ref (bF 0), .int x1, .ref (bO 1)] (cO g bO vO ++ (cF g bF qF0 (bS 0) qF2 (bRF 0) qF4 vF ++ (cS g bS (bC 0) qS1 ++ (cC g bC vC ++ (cR g bRF nRF (bGF 0) (bBF 0) vRF ++ (cL g bGF vGF ++ (cL g bBF vBF))))))) (cO g bO vO1 ++ (cF g bF qF0 (bS 0) qF2 (bRF 0) qF4 vF1 ++ (cS g bS (bC 0) qS1 ++ (cC g bC vC ++ (cR g bRF nRF (bGF 0) (bBF 0) vRF1 ++ (cL g bGF vGF1 ++ (cL g bBF vBF1))))))) r 1 6 := by
  unfold CtH
  intro sz
  refine vx_ofWH (cc := cL_testFor) (maxL := 4) (ret := (some .int)) (hh := [(0, 9, 12, 22)]) (by decide) rfl ?_
  intro p e s m args below meth c s₁ B hml hv
  obtain ⟨rfl, hsz, hP, hK, hD0, hG⟩ := hv
  have hx := B.exec
  have hb := B.bytes
  have hr := B.returns
  have hts := atoms_spec (ws := wsL_testFor) B.pre
  have hT := vx_table (x := yL_testFor) B (hts _ List.mem_cons_self)
  have hown : s.vm.findClass RL = some m.cls := findClass_of_methodNamed B.named
  have hlocks := B.notSynchronized
  subst hsz
  have hD := hD0.self (sz := s.heap.size)
  generalize hAe : va_A (cO g bO vO ++ (cF g bF qF0 (bS 0) qF2 (bRF 0) qF4 vF ++ (cS g bS (bC 0) qS1 ++ (cC g bC vC ++ (cR g bRF nRF (bGF 0) (bBF 0) vRF ++ (cL g bGF vGF ++ (cL g bBF vBF))))))) s.heap.size = A at hD hG ⊢
  have hA : ∀ q : Nat, s.heap.size ≤ q → A q := fun q h => by rw [← hAe]; exact Or.inr h
  clear hAe hD0
  have hS : va_S A s.heap s.heap [] := va_S.rf
  have hl := lv_entry ([.ref (bF 0), .int x1, .ref (bO 1)]) (n := 4) (Nat.le_of_ble_eq_true rfl)
  rw [lg_entry_eq]
  generalize (lg_sl ([.ref (bF 0), .int x1, .ref (bO 1)]) ++ List.replicate (4 - (lg_sl ([.ref (bF 0), .int x1, .ref (bO 1)])).length) Slot.unset).toArray = ls at hl ⊢
  have hl : lv_has ls 4 [(0, .ref (bF 0)), (1, .int x1), (2, .ref (bO 1))] := hl
  have htu : ∀ w ∈ UW, w.before _ s = true := fun w h => hts w (List.mem_cons_of_mem _ h)
  have k_4_124 := htu _ mw_4_124
  unfold f_L_testFor at hf
  obtain ⟨H, hH⟩ : ∃ z, z = s.heap := ⟨_, rfl⟩
  obtain ⟨locs, hlo⟩ : ∃ z : List Loc, z = [] := ⟨_, rfl⟩
  have hS : va_S A s.heap H locs := by rw [hH, hlo]; exact hS
  rw [← hH] at hP
  have hW : W p l e (headSpec wsL_testFor rhL_testFor).room s m ([.ref (bF 0), .int x1, .ref (bO 1)] : List Value).toArray below meth c H locs 0 0 (vx_MQ below (qI g A (cO g bO vO1 ++ (cF g bF qF0 (bS 0) qF2 (bRF 0) qF4 vF1 ++ (cS g bS (bC 0) qS1 ++ (cC g bC vC ++ (cR g bRF nRF (bGF 0) (bBF 0) vRF1 ++ (cL g bGF vGF1 ++ (cL g bBF vBF1))))))) r) (xF A) ([.ref (bF 0), .int x1, .ref (bO 1)] : List Value).toArray s 1 6 A) (F0 m 0 ls []) := by
    refine lv_aload_n hx hb dL_testFor_0 rfl (lv_at hl 2 rfl) ?_
    refine lv_iconst (v := (0 : Int32)) hx hb dL_testFor_1 (by decide) ?_
    refine lv_aload_n hx hb dL_testFor_2 rfl (lv_at hl 0 rfl) ?_
    refine lv_iload_n hx hb dL_testFor_3 rfl (lv_at hl 1 rfl) ?_
    obtain ⟨c1, r2, vF_3, vRF_4, vGF_5, vBF_6, hg7, hf⟩ := o6_at hf
    rcases Classical.em (¬ c1 = 0) with hc1 | hc1
    · have hf := it_f hf hc1
      rcases Classical.em (c1 = 2) with h8 | h8
      · have hf := it_t hf h8
        rw [h8] at hg7
        refine kh_viP ⟨hx, hb, hml, hown, htu⟩ hK hP hD hS hA hG (t_X7_testFor l hst g bF qF0 qF2 qF4 vF bS qS1 bC vC bRF nRF vRF bGF vGF bBF vBF x1 r2 vF_3 vRF_4 vGF_5 vBF_6 2 hg7 (by decide)) (cwV 1 htu (gU_V mw_4_205 hcX7_testFor) rfl rfl rfl hdX7_testFor ⟨Nat.le_of_ble_eq_true rfl, Nat.le_of_ble_eq_true rfl⟩) (q0 := 1) (ci := 7) (fs := fcF bF qF0 (bS 0) qF2 (bRF 0) qF4 vF) (q := (RX7, TX7, 12)) rfl rfl rfl (wr := (cO g bO vO)) (w2 := cO g bO vO ++ (cF g bF qF0 (bS 0) qF2 (bRF 0) qF4 vF_3 ++ (cS g bS (bC 0) qS1 ++ (cC g bC vC ++ (cR g bRF nRF (bGF 0) (bBF 0) vRF_4 ++ (cL g bGF vGF_5 ++ (cL g bBF vBF_6))))))) [1, 2, 3, 4, 5, 6, 7, 8, 9, 10, 11, 12, 13, 14, 15, 16, 17, 18, 19, 20, 21, 22, 23, 24, 25, 26, 27] [0] [0, 1, 2, 3, 4, 5, 6, 7, 8, 9, 10, 11, 12, 13, 14, 15, 16, 17, 18, 19, 20, 21, 22, 23, 24, 25, 26, 27] rfl rfl (by decide) (by decide) (by decide) rfl rfl (by decide) (As := [.int x1]) (rest := [.int (0 : Int32), .ref (bO 1)]) rfl rfl hl.1 (Nat.le_of_ble_eq_true rfl) dL_testFor_4 ⟨Nat.le_refl _, Nat.le_refl _⟩ (fun q9 ce H locs hP hD hS g1 g2 g3 => ?_)
        refine vx_catch (E := "java/lang/IndexOutOfBoundsException") (name := "java/lang/IndexOutOfBoundsException") hown [] (⟨0, 9, 12, 22⟩ : ExceptionTableEntry) [] hT (fun z hz => nomatch hz) (by decide) (by decide) k_4_124 (va_Nw.use rfl (hG.1.2.2.2.2.2.1 "java/lang/IndexOutOfBoundsException" (List.mem_of_getElem? (i := 1) rfl))) g1 g2 g3 ?_
        refine W.eq (g2 := F0 m 12 ls [.ref q9]) rfl ?_
        refine lv_astore_n (lv' := [(3, .ref q9), (0, .ref (bF 0)), (1, .int x1), (2, .ref (bO 1))]) hx hb dL_testFor_12 rfl hl (by decide) rfl (fun ls hl => ?_)
        refine lv_iconst (v := (1 : Int32)) hx hb dL_testFor_13 (by decide) ?_
        obtain ⟨e9, e10, e11, e12, e13, e14⟩ := kp_6 hf
        rw [e10] at hP hD
        rw [e11] at hP hD
        rw [e12] at hP hD
        rw [e13] at hP hD
        rw [e14] at hP hD
        exact vx_ret (W.widen (k := 1) (n := 6) (by omega) (by omega) (k_iret hx hb hr hlocks hK hP hD hS e9 dL_testFor_14))
      have hf := it_f hf h8
      cases hf
    have hc1 := Classical.not_not.mp hc1
    have hf := it_t hf hc1
    rw [hc1] at hg7
    refine k_viP ⟨hx, hb, hml, hown, htu⟩ hK hP hD hS hA hG (c_X7_testFor l g bF qF0 qF2 qF4 vF bS qS1 bC vC bRF nRF vRF bGF vGF bBF vBF x1 r2 vF_3 vRF_4 vGF_5 vBF_6 hg7) (cwV 1 htu (gU_V mw_4_205 hcX7_testFor) rfl rfl rfl hdX7_testFor ⟨Nat.le_of_ble_eq_true rfl, Nat.le_of_ble_eq_true rfl⟩) (q0 := 1) (ci := 7) (fs := fcF bF qF0 (bS 0) qF2 (bRF 0) qF4 vF) (q := (RX7, TX7, 12)) rfl rfl rfl (wr := (cO g bO vO)) (w2 := cO g bO vO ++ (cF g bF qF0 (bS 0) qF2 (bRF 0) qF4 vF_3 ++ (cS g bS (bC 0) qS1 ++ (cC g bC vC ++ (cR g bRF nRF (bGF 0) (bBF 0) vRF_4 ++ (cL g bGF vGF_5 ++ (cL g bBF vBF_6))))))) [1, 2, 3, 4, 5, 6, 7, 8, 9, 10, 11, 12, 13, 14, 15, 16, 17, 18, 19, 20, 21, 22, 23, 24, 25, 26, 27] [0] [0, 1, 2, 3, 4, 5, 6, 7, 8, 9, 10, 11, 12, 13, 14, 15, 16, 17, 18, 19, 20, 21, 22, 23, 24, 25, 26, 27] rfl rfl (by decide) (by decide) (by decide) rfl rfl (by decide) (As := [.int x1]) (rest := [.int (0 : Int32), .ref (bO 1)]) rfl rfl hl.1 (Nat.le_of_ble_eq_true rfl) dL_testFor_4 (k1 := 0) (n1 := 0) rfl rfl ⟨Nat.zero_le _, Nat.zero_le _⟩ (fun H locs hP hD hS => ?_)
    refine lv_i2l (v := (r2).toInt64) hx hb dL_testFor_7 rfl ?_
    obtain ⟨h15, hf⟩ := gd_in hf
    refine va_last (D := g.1) (f := (vO.2.2 0)) hx hb hK hP hD hS 0 1 rfl rfl h15 dL_testFor_8 (fun H locs hP hD hS => ?_)
    obtain ⟨vO_16, evO_16⟩ : ∃ z, z = sJ vO 0 ((0 : Int32)).toNatClampNeg ((r2).toInt64) := ⟨_, rfl⟩
    have hf := bn_at hf evO_16
    have hP : va_P g.1 vwCl (cO g bO vO_16 ++ (cF g bF qF0 (bS 0) qF2 (bRF 0) qF4 vF_3 ++ (cS g bS (bC 0) qS1 ++ (cC g bC vC ++ (cR g bRF nRF (bGF 0) (bBF 0) vRF_4 ++ (cL g bGF vGF_5 ++ (cL g bBF vBF_6))))))) H := by rw [evO_16]; exact hP
    have hD : va_D A (cO g bO vO_16 ++ (cF g bF qF0 (bS 0) qF2 (bRF 0) qF4 vF_3 ++ (cS g bS (bC 0) qS1 ++ (cC g bC vC ++ (cR g bRF nRF (bGF 0) (bBF 0) vRF_4 ++ (cL g bGF vGF_5 ++ (cL g bBF vBF_6))))))) := by rw [evO_16]; exact hD
    refine lv_goto (tgt := 15) hx hb dL_testFor_9 (by decide) ?_
    refine lv_iconst (v := (0 : Int32)) hx hb dL_testFor_15 (by decide) ?_
    obtain ⟨e17, e18, e19, e20, e21, e22⟩ := kp_6 hf
    rw [e18] at hP hD
    rw [e19] at hP hD
    rw [e20] at hP hD
    rw [e21] at hP hD
    rw [e22] at hP hD
    exact vx_ret (W.widen (k := 1) (n := 6) (by omega) (by omega) (k_iret hx hb hr hlocks hK hP hD hS e17 dL_testFor_16))
  rw [hH, hlo] at hW
  exact hW
def f_L_testBetween (vO : Vs) (vF : Vs) (vC : Vs) (nRF : Nat) (vRF : Vs) (vGF : Vs) (vBF : Vs) (x1 : Int32) (x2 : Int32) : Option (Int32 × Vs × Vs × Vs × Vs × Vs) :=
  o6 (f_X7_testBetween vF vC nRF vRF vGF vBF x1 x2) (fun (c1 : Nat) (r2 : Int32) (vF_3 : Vs) (vRF_4 : Vs) (vGF_5 : Vs) (vBF_6 : Vs) => if c1 = 0 then (gd (inb (0 : Int32) 1) (bn (sJ vO 0 ((0 : Int32)).toNatClampNeg ((r2).toInt64)) (fun (vO_16 : Vs) => some ((0 : Int32), vO_16, vF_3, vRF_4, vGF_5, vBF_6)))) else if c1 = 2 then (some ((1 : Int32), vO, vF_3, vRF_4, vGF_5, vBF_6)) else none)
abbrev wsL_testBetween : List Cond := .codeWith yL_testBetween cL_testBetween 5 (some .int) [(0, 10, 13, 22)] :: UW
abbrev rhL_testBetween : Room := { frames := 11, cells := 1, slots := 6, locals := 203 }
set_option maxHeartbeats 4000000 in
set_option maxRecDepth 100000 in
theorem h_L_testBetween (l : Launch) (hst : l.stackTraces = false) (g : Gx) (bO : Nat → Nat) (vO : Vs) (bF : Nat → Nat) (qF0 : Nat) (qF2 : Nat) (qF4 : Nat) (vF : Vs) (bS : Nat → Nat) (qS1 : Nat) (bC : Nat → Nat) (vC : Vs) (bRF : Nat → Nat) (nRF : Nat) (vRF : Vs) (bGF : Nat → Nat) (vGF : Vs) (bBF : Nat → Nat) (vBF : Vs) (x1 : Int32) (x2 : Int32) (r : Int32) (vO1 : Vs) (vF1 : Vs) (vRF1 : Vs) (vGF1 : Vs) (vBF1 : Vs) (hf : f_L_testBetween vO vF vC nRF vRF vGF vBF x1 x2 = some (r, vO1, vF1, vRF1, vGF1, vBF1)) : CtH l yL_testBetween wsL_testBetween rhL_testBetween g [.ref (bF 0), .int x1, .int x2, .ref (bO 1)] (cO g bO vO ++ (cF g bF qF0 (bS 0) qF2 (bRF 0) qF4 vF ++ (cS g bS (bC 0) qS1 ++ (cC g bC vC ++ (cR g bRF nRF (bGF 0) (bBF 0) vRF ++ (cL g bGF vGF ++ (cL g bBF vBF))))))) (cO g bO vO1 ++ (cF g bF qF0 (bS 0) qF2 (bRF 0) qF4 vF1 ++ (cS g bS (bC 0) qS1 ++ (cC g bC vC ++ (cR g bRF nRF (bGF 0) (bBF 0) vRF1 ++ (cL g bGF vGF1 ++ (cL g bBF vBF1))))))) r 1 6 := by
  unfold CtH
  intro sz
  refine vx_ofWH (cc := cL_testBetween) (maxL := 5) (ret := (some .int)) (hh := [(0, 10, 13, 22)]) (by decide) rfl ?_
  intro p e s m args below meth c s₁ B hml hv
  obtain ⟨rfl, hsz, hP, hK, hD0, hG⟩ := hv
  have hx := B.exec
  have hb := B.bytes
  have hr := B.returns
  have hts := atoms_spec (ws := wsL_testBetween) B.pre
  have hT := vx_table (x := yL_testBetween) B (hts _ List.mem_cons_self)
  have hown : s.vm.findClass RL = some m.cls := findClass_of_methodNamed B.named
  have hlocks := B.notSynchronized
  subst hsz
  have hD := hD0.self (sz := s.heap.size)
  generalize hAe : va_A (cO g bO vO ++ (cF g bF qF0 (bS 0) qF2 (bRF 0) qF4 vF ++ (cS g bS (bC 0) qS1 ++ (cC g bC vC ++ (cR g bRF nRF (bGF 0) (bBF 0) vRF ++ (cL g bGF vGF ++ (cL g bBF vBF))))))) s.heap.size = A at hD hG ⊢
  have hA : ∀ q : Nat, s.heap.size ≤ q → A q := fun q h => by rw [← hAe]; exact Or.inr h
  clear hAe hD0
  have hS : va_S A s.heap s.heap [] := va_S.rf
  have hl := lv_entry ([.ref (bF 0), .int x1, .int x2, .ref (bO 1)]) (n := 5) (Nat.le_of_ble_eq_true rfl)
  rw [lg_entry_eq]
  generalize (lg_sl ([.ref (bF 0), .int x1, .int x2, .ref (bO 1)]) ++ List.replicate (5 - (lg_sl ([.ref (bF 0), .int x1, .int x2, .ref (bO 1)])).length) Slot.unset).toArray = ls at hl ⊢
  have hl : lv_has ls 5 [(0, .ref (bF 0)), (1, .int x1), (2, .int x2), (3, .ref (bO 1))] := hl
  have htu : ∀ w ∈ UW, w.before _ s = true := fun w h => hts w (List.mem_cons_of_mem _ h)
  have k_4_124 := htu _ mw_4_124
  unfold f_L_testBetween at hf
  obtain ⟨H, hH⟩ : ∃ z, z = s.heap := ⟨_, rfl⟩
  obtain ⟨locs, hlo⟩ : ∃ z : List Loc, z = [] := ⟨_, rfl⟩
  have hS : va_S A s.heap H locs := by rw [hH, hlo]; exact hS
  rw [← hH] at hP
  have hW : W p l e (headSpec wsL_testBetween rhL_testBetween).room s m ([.ref (bF 0), .int x1, .int x2, .ref (bO 1)] : List Value).toArray below meth c H locs 0 0 (vx_MQ below (qI g A (cO g bO vO1 ++ (cF g bF qF0 (bS 0) qF2 (bRF 0) qF4 vF1 ++ (cS g bS (bC 0) qS1 ++ (cC g bC vC ++ (cR g bRF nRF (bGF 0) (bBF 0) vRF1 ++ (cL g bGF vGF1 ++ (cL g bBF vBF1))))))) r) (xF A) ([.ref (bF 0), .int x1, .int x2, .ref (bO 1)] : List Value).toArray s 1 6 A) (F0 m 0 ls []) := by
    refine lv_aload_n hx hb dL_testBetween_0 rfl (lv_at hl 3 rfl) ?_
    refine lv_iconst (v := (0 : Int32)) hx hb dL_testBetween_1 (by decide) ?_
    refine lv_aload_n hx hb dL_testBetween_2 rfl (lv_at hl 0 rfl) ?_
    refine lv_iload_n hx hb dL_testBetween_3 rfl (lv_at hl 1 rfl) ?_
    refine lv_iload_n hx hb dL_testBetween_4 rfl (lv_at hl 2 rfl) ?_
    obtain ⟨c1, r2, vF_3, vRF_4, vGF_5, vBF_6, hg7, hf⟩ := o6_at hf
    rcases Classical.em (¬ c1 = 0) with hc1 | hc1
    · have hf := it_f hf hc1
      rcases Classical.em (c1 = 2) with h8 | h8
      · have hf := it_t hf h8
        rw [h8] at hg7
        refine kh_viP ⟨hx, hb, hml, hown, htu⟩ hK hP hD hS hA hG (t_X7_testBetween l hst g bF qF0 qF2 qF4 vF bS qS1 bC vC bRF nRF vRF bGF vGF bBF vBF x1 x2 r2 vF_3 vRF_4 vGF_5 vBF_6 2 hg7 (by decide)) (cwV 2 htu (gU_V mw_4_212 hcX7_testBetween) rfl rfl rfl hdX7_testBetween ⟨Nat.le_of_ble_eq_true rfl, Nat.le_of_ble_eq_true rfl⟩) (q0 := 1) (ci := 7) (fs := fcF bF qF0 (bS 0) qF2 (bRF 0) qF4 vF) (q := (RX7, TX7, 12)) rfl rfl rfl (wr := (cO g bO vO)) (w2 := cO g bO vO ++ (cF g bF qF0 (bS 0) qF2 (bRF 0) qF4 vF_3 ++ (cS g bS (bC 0) qS1 ++ (cC g bC vC ++ (cR g bRF nRF (bGF 0) (bBF 0) vRF_4 ++ (cL g bGF vGF_5 ++ (cL g bBF vBF_6))))))) [1, 2, 3, 4, 5, 6, 7, 8, 9, 10, 11, 12, 13, 14, 15, 16, 17, 18, 19, 20, 21, 22, 23, 24, 25, 26, 27] [0] [0, 1, 2, 3, 4, 5, 6, 7, 8, 9, 10, 11, 12, 13, 14, 15, 16, 17, 18, 19, 20, 21, 22, 23, 24, 25, 26, 27] rfl rfl (by decide) (by decide) (by decide) rfl rfl (by decide) (As := [.int x1, .int x2]) (rest := [.int (0 : Int32), .ref (bO 1)]) rfl rfl hl.1 (Nat.le_of_ble_eq_true rfl) dL_testBetween_5 ⟨Nat.le_refl _, Nat.le_refl _⟩ (fun q9 ce H locs hP hD hS g1 g2 g3 => ?_)
        refine vx_catch (E := "java/lang/IndexOutOfBoundsException") (name := "java/lang/IndexOutOfBoundsException") hown [] (⟨0, 10, 13, 22⟩ : ExceptionTableEntry) [] hT (fun z hz => nomatch hz) (by decide) (by decide) k_4_124 (va_Nw.use rfl (hG.1.2.2.2.2.2.1 "java/lang/IndexOutOfBoundsException" (List.mem_of_getElem? (i := 1) rfl))) g1 g2 g3 ?_
        refine W.eq (g2 := F0 m 13 ls [.ref q9]) rfl ?_
        refine lv_astore (lv' := [(4, .ref q9), (0, .ref (bF 0)), (1, .int x1), (2, .int x2), (3, .ref (bO 1))]) hx hb dL_testBetween_13 hl (by decide) rfl (fun ls hl => ?_)
        refine lv_iconst (v := (1 : Int32)) hx hb dL_testBetween_15 (by decide) ?_
        obtain ⟨e9, e10, e11, e12, e13, e14⟩ := kp_6 hf
        rw [e10] at hP hD
        rw [e11] at hP hD
        rw [e12] at hP hD
        rw [e13] at hP hD
        rw [e14] at hP hD
        exact vx_ret (W.widen (k := 1) (n := 6) (by omega) (by omega) (k_iret hx hb hr hlocks hK hP hD hS e9 dL_testBetween_16))
      have hf := it_f hf h8
      cases hf
    have hc1 := Classical.not_not.mp hc1
    have hf := it_t hf hc1
    rw [hc1] at hg7
    refine k_viP ⟨hx, hb, hml, hown, htu⟩ hK hP hD hS hA hG (c_X7_testBetween l g bF qF0 qF2 qF4 vF bS qS1 bC vC bRF nRF vRF bGF vGF bBF vBF x1 x2 r2 vF_3 vRF_4 vGF_5 vBF_6 hg7) (cwV 2 htu (gU_V mw_4_212 hcX7_testBetween) rfl rfl rfl hdX7_testBetween ⟨Nat.le_of_ble_eq_true rfl, Nat.le_of_ble_eq_true rfl⟩) (q0 := 1) (ci := 7) (fs := fcF bF qF0 (bS 0) qF2 (bRF 0) qF4 vF) (q := (RX7, TX7, 12)) rfl rfl rfl (wr := (cO g bO vO)) (w2 := cO g bO vO ++ (cF g bF qF0 (bS 0) qF2 (bRF 0) qF4 vF_3 ++ (cS g bS (bC 0) qS1 ++ (cC g bC vC ++ (cR g bRF nRF (bGF 0) (bBF 0) vRF_4 ++ (cL g bGF vGF_5 ++ (cL g bBF vBF_6))))))) [1, 2, 3, 4, 5, 6, 7, 8, 9, 10, 11, 12, 13, 14, 15, 16, 17, 18, 19, 20, 21, 22, 23, 24, 25, 26, 27] [0] [0, 1, 2, 3, 4, 5, 6, 7, 8, 9, 10, 11, 12, 13, 14, 15, 16, 17, 18, 19, 20, 21, 22, 23, 24, 25, 26, 27] rfl rfl (by decide) (by decide) (by decide) rfl rfl (by decide) (As := [.int x1, .int x2]) (rest := [.int (0 : Int32), .ref (bO 1)]) rfl rfl hl.1 (Nat.le_of_ble_eq_true rfl) dL_testBetween_5 (k1 := 0) (n1 := 0) rfl rfl ⟨Nat.zero_le _, Nat.zero_le _⟩ (fun H locs hP hD hS => ?_)
    refine lv_i2l (v := (r2).toInt64) hx hb dL_testBetween_8 rfl ?_
    obtain ⟨h15, hf⟩ := gd_in hf
    refine va_last (D := g.1) (f := (vO.2.2 0)) hx hb hK hP hD hS 0 1 rfl rfl h15 dL_testBetween_9 (fun H locs hP hD hS => ?_)
    obtain ⟨vO_16, evO_16⟩ : ∃ z, z = sJ vO 0 ((0 : Int32)).toNatClampNeg ((r2).toInt64) := ⟨_, rfl⟩
    have hf := bn_at hf evO_16
    have hP : va_P g.1 vwCl (cO g bO vO_16 ++ (cF g bF qF0 (bS 0) qF2 (bRF 0) qF4 vF_3 ++ (cS g bS (bC 0) qS1 ++ (cC g bC vC ++ (cR g bRF nRF (bGF 0) (bBF 0) vRF_4 ++ (cL g bGF vGF_5 ++ (cL g bBF vBF_6))))))) H := by rw [evO_16]; exact hP
    have hD : va_D A (cO g bO vO_16 ++ (cF g bF qF0 (bS 0) qF2 (bRF 0) qF4 vF_3 ++ (cS g bS (bC 0) qS1 ++ (cC g bC vC ++ (cR g bRF nRF (bGF 0) (bBF 0) vRF_4 ++ (cL g bGF vGF_5 ++ (cL g bBF vBF_6))))))) := by rw [evO_16]; exact hD
    refine lv_goto (tgt := 17) hx hb dL_testBetween_10 (by decide) ?_
    refine lv_iconst (v := (0 : Int32)) hx hb dL_testBetween_17 (by decide) ?_
    obtain ⟨e17, e18, e19, e20, e21, e22⟩ := kp_6 hf
    rw [e18] at hP hD
    rw [e19] at hP hD
    rw [e20] at hP hD
    rw [e21] at hP hD
    rw [e22] at hP hD
    exact vx_ret (W.widen (k := 1) (n := 6) (by omega) (by omega) (k_iret hx hb hr hlocks hK hP hD hS e17 dL_testBetween_18))
  rw [hH, hlo] at hW
  exact hW
def f_L_alike (vO : Vs) (vF : Vs) (vC : Vs) (nRF : Nat) (vRF : Vs) (vGF : Vs) (vBF : Vs) (x1 : Int32) : Option (Int32 × Vs × Vs × Vs × Vs × Vs) :=
  o6 (f_X7_alike vF vC nRF vRF vGF vBF x1) (fun (c1 : Nat) (r2 : Int32) (vF_3 : Vs) (vRF_4 : Vs) (vGF_5 : Vs) (vBF_6 : Vs) => if c1 = 0 then (gd (inb (0 : Int32) 1) (bn (sJ vO 0 ((0 : Int32)).toNatClampNeg ((r2).toInt64)) (fun (vO_16 : Vs) => some ((0 : Int32), vO_16, vF_3, vRF_4, vGF_5, vBF_6)))) else if c1 = 2 then (some ((1 : Int32), vO, vF_3, vRF_4, vGF_5, vBF_6)) else none)
abbrev wsL_alike : List Cond := .codeWith yL_alike cL_alike 4 (some .int) [(0, 9, 12, 22)] :: UW
abbrev rhL_alike : Room := { frames := 11, cells := 1, slots := 6, locals := 202 }
set_option maxHeartbeats 4000000 in
set_option maxRecDepth 100000 in
theorem h_L_alike (l : Launch) (hst : l.stackTraces = false) (g : Gx) (bO : Nat → Nat) (vO : Vs) (bF : Nat → Nat) (qF0 : Nat) (qF2 : Nat) (qF4 : Nat) (vF : Vs) (bS : Nat → Nat) (qS1 : Nat) (bC : Nat → Nat) (vC : Vs) (bRF : Nat → Nat) (nRF : Nat) (vRF : Vs) (bGF : Nat → Nat) (vGF : Vs) (bBF : Nat → Nat) (vBF : Vs) (x1 : Int32) (r : Int32) (vO1 : Vs) (vF1 : Vs) (vRF1 : Vs) (vGF1 : Vs) (vBF1 : Vs) (hf : f_L_alike vO vF vC nRF vRF vGF vBF x1 = some (r, vO1, vF1, vRF1, vGF1, vBF1)) : CtH l yL_alike wsL_alike rhL_alike g [.ref (bF 0), .int x1, .ref (bO 1)] (cO g bO vO ++ (cF g bF qF0 (bS 0) qF2 (bRF 0) qF4 vF ++ (cS g bS (bC 0) qS1 ++ (cC g bC vC ++ (cR g bRF nRF (bGF 0) (bBF 0) vRF ++ (cL g bGF vGF ++ (cL g bBF vBF))))))) (cO g bO vO1 ++ (cF g bF qF0 (bS 0) qF2 (bRF 0) qF4 vF1 ++ (cS g bS (bC 0) qS1 ++ (cC g bC vC ++ (cR g bRF nRF (bGF 0) (bBF 0) vRF1 ++ (cL g bGF vGF1 ++ (cL g bBF vBF1))))))) r 1 6 := by
  unfold CtH
  intro sz
  refine vx_ofWH (cc := cL_alike) (maxL := 4) (ret := (some .int)) (hh := [(0, 9, 12, 22)]) (by decide) rfl ?_
  intro p e s m args below meth c s₁ B hml hv
  obtain ⟨rfl, hsz, hP, hK, hD0, hG⟩ := hv
  have hx := B.exec
  have hb := B.bytes
  have hr := B.returns
  have hts := atoms_spec (ws := wsL_alike) B.pre
  have hT := vx_table (x := yL_alike) B (hts _ List.mem_cons_self)
  have hown : s.vm.findClass RL = some m.cls := findClass_of_methodNamed B.named
  have hlocks := B.notSynchronized
  subst hsz
  have hD := hD0.self (sz := s.heap.size)
  generalize hAe : va_A (cO g bO vO ++ (cF g bF qF0 (bS 0) qF2 (bRF 0) qF4 vF ++ (cS g bS (bC 0) qS1 ++ (cC g bC vC ++ (cR g bRF nRF (bGF 0) (bBF 0) vRF ++ (cL g bGF vGF ++ (cL g bBF vBF))))))) s.heap.size = A at hD hG ⊢
  have hA : ∀ q : Nat, s.heap.size ≤ q → A q := fun q h => by rw [← hAe]; exact Or.inr h
  clear hAe hD0
  have hS : va_S A s.heap s.heap [] := va_S.rf
  have hl := lv_entry ([.ref (bF 0), .int x1, .ref (bO 1)]) (n := 4) (Nat.le_of_ble_eq_true rfl)
  rw [lg_entry_eq]
  generalize (lg_sl ([.ref (bF 0), .int x1, .ref (bO 1)]) ++ List.replicate (4 - (lg_sl ([.ref (bF 0), .int x1, .ref (bO 1)])).length) Slot.unset).toArray = ls at hl ⊢
  have hl : lv_has ls 4 [(0, .ref (bF 0)), (1, .int x1), (2, .ref (bO 1))] := hl
  have htu : ∀ w ∈ UW, w.before _ s = true := fun w h => hts w (List.mem_cons_of_mem _ h)
  have k_4_124 := htu _ mw_4_124
  unfold f_L_alike at hf
  obtain ⟨H, hH⟩ : ∃ z, z = s.heap := ⟨_, rfl⟩
  obtain ⟨locs, hlo⟩ : ∃ z : List Loc, z = [] := ⟨_, rfl⟩
  have hS : va_S A s.heap H locs := by rw [hH, hlo]; exact hS
  rw [← hH] at hP
  have hW : W p l e (headSpec wsL_alike rhL_alike).room s m ([.ref (bF 0), .int x1, .ref (bO 1)] : List Value).toArray below meth c H locs 0 0 (vx_MQ below (qI g A (cO g bO vO1 ++ (cF g bF qF0 (bS 0) qF2 (bRF 0) qF4 vF1 ++ (cS g bS (bC 0) qS1 ++ (cC g bC vC ++ (cR g bRF nRF (bGF 0) (bBF 0) vRF1 ++ (cL g bGF vGF1 ++ (cL g bBF vBF1))))))) r) (xF A) ([.ref (bF 0), .int x1, .ref (bO 1)] : List Value).toArray s 1 6 A) (F0 m 0 ls []) := by
    refine lv_aload_n hx hb dL_alike_0 rfl (lv_at hl 2 rfl) ?_
    refine lv_iconst (v := (0 : Int32)) hx hb dL_alike_1 (by decide) ?_
    refine lv_aload_n hx hb dL_alike_2 rfl (lv_at hl 0 rfl) ?_
    refine lv_iload_n hx hb dL_alike_3 rfl (lv_at hl 1 rfl) ?_
    obtain ⟨c1, r2, vF_3, vRF_4, vGF_5, vBF_6, hg7, hf⟩ := o6_at hf
    rcases Classical.em (¬ c1 = 0) with hc1 | hc1
    · have hf := it_f hf hc1
      rcases Classical.em (c1 = 2) with h8 | h8
      · have hf := it_t hf h8
        rw [h8] at hg7
        refine kh_viP ⟨hx, hb, hml, hown, htu⟩ hK hP hD hS hA hG (t_X7_alike l hst g bF qF0 qF2 qF4 vF bS qS1 bC vC bRF nRF vRF bGF vGF bBF vBF x1 r2 vF_3 vRF_4 vGF_5 vBF_6 2 hg7 (by decide)) (cwV 1 htu (gU_V mw_4_219 hcX7_alike) rfl rfl rfl hdX7_alike ⟨Nat.le_of_ble_eq_true rfl, Nat.le_of_ble_eq_true rfl⟩) (q0 := 1) (ci := 7) (fs := fcF bF qF0 (bS 0) qF2 (bRF 0) qF4 vF) (q := (RX7, TX7, 12)) rfl rfl rfl (wr := (cO g bO vO)) (w2 := cO g bO vO ++ (cF g bF qF0 (bS 0) qF2 (bRF 0) qF4 vF_3 ++ (cS g bS (bC 0) qS1 ++ (cC g bC vC ++ (cR g bRF nRF (bGF 0) (bBF 0) vRF_4 ++ (cL g bGF vGF_5 ++ (cL g bBF vBF_6))))))) [1, 2, 3, 4, 5, 6, 7, 8, 9, 10, 11, 12, 13, 14, 15, 16, 17, 18, 19, 20, 21, 22, 23, 24, 25, 26, 27] [0] [0, 1, 2, 3, 4, 5, 6, 7, 8, 9, 10, 11, 12, 13, 14, 15, 16, 17, 18, 19, 20, 21, 22, 23, 24, 25, 26, 27] rfl rfl (by decide) (by decide) (by decide) rfl rfl (by decide) (As := [.int x1]) (rest := [.int (0 : Int32), .ref (bO 1)]) rfl rfl hl.1 (Nat.le_of_ble_eq_true rfl) dL_alike_4 ⟨Nat.le_refl _, Nat.le_refl _⟩ (fun q9 ce H locs hP hD hS g1 g2 g3 => ?_)
        refine vx_catch (E := "java/lang/IndexOutOfBoundsException") (name := "java/lang/IndexOutOfBoundsException") hown [] (⟨0, 9, 12, 22⟩ : ExceptionTableEntry) [] hT (fun z hz => nomatch hz) (by decide) (by decide) k_4_124 (va_Nw.use rfl (hG.1.2.2.2.2.2.1 "java/lang/IndexOutOfBoundsException" (List.mem_of_getElem? (i := 1) rfl))) g1 g2 g3 ?_
        refine W.eq (g2 := F0 m 12 ls [.ref q9]) rfl ?_
        refine lv_astore_n (lv' := [(3, .ref q9), (0, .ref (bF 0)), (1, .int x1), (2, .ref (bO 1))]) hx hb dL_alike_12 rfl hl (by decide) rfl (fun ls hl => ?_)
        refine lv_iconst (v := (1 : Int32)) hx hb dL_alike_13 (by decide) ?_
        obtain ⟨e9, e10, e11, e12, e13, e14⟩ := kp_6 hf
        rw [e10] at hP hD
        rw [e11] at hP hD
        rw [e12] at hP hD
        rw [e13] at hP hD
        rw [e14] at hP hD
        exact vx_ret (W.widen (k := 1) (n := 6) (by omega) (by omega) (k_iret hx hb hr hlocks hK hP hD hS e9 dL_alike_14))
      have hf := it_f hf h8
      cases hf
    have hc1 := Classical.not_not.mp hc1
    have hf := it_t hf hc1
    rw [hc1] at hg7
    refine k_viP ⟨hx, hb, hml, hown, htu⟩ hK hP hD hS hA hG (c_X7_alike l g bF qF0 qF2 qF4 vF bS qS1 bC vC bRF nRF vRF bGF vGF bBF vBF x1 r2 vF_3 vRF_4 vGF_5 vBF_6 hg7) (cwV 1 htu (gU_V mw_4_219 hcX7_alike) rfl rfl rfl hdX7_alike ⟨Nat.le_of_ble_eq_true rfl, Nat.le_of_ble_eq_true rfl⟩) (q0 := 1) (ci := 7) (fs := fcF bF qF0 (bS 0) qF2 (bRF 0) qF4 vF) (q := (RX7, TX7, 12)) rfl rfl rfl (wr := (cO g bO vO)) (w2 := cO g bO vO ++ (cF g bF qF0 (bS 0) qF2 (bRF 0) qF4 vF_3 ++ (cS g bS (bC 0) qS1 ++ (cC g bC vC ++ (cR g bRF nRF (bGF 0) (bBF 0) vRF_4 ++ (cL g bGF vGF_5 ++ (cL g bBF vBF_6))))))) [1, 2, 3, 4, 5, 6, 7, 8, 9, 10, 11, 12, 13, 14, 15, 16, 17, 18, 19, 20, 21, 22, 23, 24, 25, 26, 27] [0] [0, 1, 2, 3, 4, 5, 6, 7, 8, 9, 10, 11, 12, 13, 14, 15, 16, 17, 18, 19, 20, 21, 22, 23, 24, 25, 26, 27] rfl rfl (by decide) (by decide) (by decide) rfl rfl (by decide) (As := [.int x1]) (rest := [.int (0 : Int32), .ref (bO 1)]) rfl rfl hl.1 (Nat.le_of_ble_eq_true rfl) dL_alike_4 (k1 := 0) (n1 := 0) rfl rfl ⟨Nat.zero_le _, Nat.zero_le _⟩ (fun H locs hP hD hS => ?_)
    refine lv_i2l (v := (r2).toInt64) hx hb dL_alike_7 rfl ?_
    obtain ⟨h15, hf⟩ := gd_in hf
    refine va_last (D := g.1) (f := (vO.2.2 0)) hx hb hK hP hD hS 0 1 rfl rfl h15 dL_alike_8 (fun H locs hP hD hS => ?_)
    obtain ⟨vO_16, evO_16⟩ : ∃ z, z = sJ vO 0 ((0 : Int32)).toNatClampNeg ((r2).toInt64) := ⟨_, rfl⟩
    have hf := bn_at hf evO_16
    have hP : va_P g.1 vwCl (cO g bO vO_16 ++ (cF g bF qF0 (bS 0) qF2 (bRF 0) qF4 vF_3 ++ (cS g bS (bC 0) qS1 ++ (cC g bC vC ++ (cR g bRF nRF (bGF 0) (bBF 0) vRF_4 ++ (cL g bGF vGF_5 ++ (cL g bBF vBF_6))))))) H := by rw [evO_16]; exact hP
    have hD : va_D A (cO g bO vO_16 ++ (cF g bF qF0 (bS 0) qF2 (bRF 0) qF4 vF_3 ++ (cS g bS (bC 0) qS1 ++ (cC g bC vC ++ (cR g bRF nRF (bGF 0) (bBF 0) vRF_4 ++ (cL g bGF vGF_5 ++ (cL g bBF vBF_6))))))) := by rw [evO_16]; exact hD
    refine lv_goto (tgt := 15) hx hb dL_alike_9 (by decide) ?_
    refine lv_iconst (v := (0 : Int32)) hx hb dL_alike_15 (by decide) ?_
    obtain ⟨e17, e18, e19, e20, e21, e22⟩ := kp_6 hf
    rw [e18] at hP hD
    rw [e19] at hP hD
    rw [e20] at hP hD
    rw [e21] at hP hD
    rw [e22] at hP hD
    exact vx_ret (W.widen (k := 1) (n := 6) (by omega) (by omega) (k_iret hx hb hr hlocks hK hP hD hS e17 dL_alike_16))
  rw [hH, hlo] at hW
  exact hW
def f_L_suspect (vO : Vs) (vF : Vs) (vC : Vs) (vT : Vs) (nRT : Nat) (vRT : Vs) (vG : Vs) (vB : Vs) (x1 : Int32) : Option (Int32 × Vs × Vs × Vs × Vs × Vs) :=
  o6 (f_X7_suspect vF vC vT nRT vRT vG vB x1) (fun (c1 : Nat) (r2 : Int32) (vF_3 : Vs) (vRT_4 : Vs) (vG_5 : Vs) (vB_6 : Vs) => if c1 = 0 then (gd (inb (0 : Int32) 1) (bn (sJ vO 0 ((0 : Int32)).toNatClampNeg ((r2).toInt64)) (fun (vO_16 : Vs) => some ((0 : Int32), vO_16, vF_3, vRT_4, vG_5, vB_6)))) else if c1 = 3 then (some ((1 : Int32), vO, vF_3, vRT_4, vG_5, vB_6)) else none)
abbrev wsL_suspect : List Cond := .codeWith yL_suspect cL_suspect 4 (some .int) [(0, 9, 12, 27)] :: UW
abbrev rhL_suspect : Room := { frames := 10, cells := 1, slots := 6, locals := 189 }
set_option maxHeartbeats 4000000 in
set_option maxRecDepth 100000 in
theorem h_L_suspect (l : Launch) (hst : l.stackTraces = false) (g : Gx) (bO : Nat → Nat) (vO : Vs) (bF : Nat → Nat) (qF0 : Nat) (qF2 : Nat) (qF3 : Nat) (vF : Vs) (bS : Nat → Nat) (bC : Nat → Nat) (vC : Vs) (bT : Nat → Nat) (vT : Vs) (bRT : Nat → Nat) (nRT : Nat) (vRT : Vs) (bG : Nat → Nat) (vG : Vs) (bB : Nat → Nat) (vB : Vs) (x1 : Int32) (r : Int32) (vO1 : Vs) (vF1 : Vs) (vRT1 : Vs) (vG1 : Vs) (vB1 : Vs) (hf : f_L_suspect vO vF vC vT nRT vRT vG vB x1 = some (r, vO1, vF1, vRT1, vG1, vB1)) : CtH l yL_suspect wsL_suspect rhL_suspect g [.ref (bF 0), .int x1, .ref (bO 1)] (cO g bO vO ++ (cF g bF qF0 (bS 0) qF2 qF3 (bRT 0) vF ++ (cS g bS (bC 0) (bT 0) ++ (cC g bC vC ++ (cT g bT vT ++ (cR g bRT nRT (bG 0) (bB 0) vRT ++ (cL g bG vG ++ (cL g bB vB)))))))) (cO g bO vO1 ++ (cF g bF qF0 (bS 0) qF2 qF3 (bRT 0) vF1 ++ (cS g bS (bC 0) (bT 0) ++ (cC g bC vC ++ (cT g bT vT ++ (cR g bRT nRT (bG 0) (bB 0) vRT1 ++ (cL g bG vG1 ++ (cL g bB vB1)))))))) r 1 6 := by
  unfold CtH
  intro sz
  refine vx_ofWH (cc := cL_suspect) (maxL := 4) (ret := (some .int)) (hh := [(0, 9, 12, 27)]) (by decide) rfl ?_
  intro p e s m args below meth c s₁ B hml hv
  obtain ⟨rfl, hsz, hP, hK, hD0, hG⟩ := hv
  have hx := B.exec
  have hb := B.bytes
  have hr := B.returns
  have hts := atoms_spec (ws := wsL_suspect) B.pre
  have hT := vx_table (x := yL_suspect) B (hts _ List.mem_cons_self)
  have hown : s.vm.findClass RL = some m.cls := findClass_of_methodNamed B.named
  have hlocks := B.notSynchronized
  subst hsz
  have hD := hD0.self (sz := s.heap.size)
  generalize hAe : va_A (cO g bO vO ++ (cF g bF qF0 (bS 0) qF2 qF3 (bRT 0) vF ++ (cS g bS (bC 0) (bT 0) ++ (cC g bC vC ++ (cT g bT vT ++ (cR g bRT nRT (bG 0) (bB 0) vRT ++ (cL g bG vG ++ (cL g bB vB)))))))) s.heap.size = A at hD hG ⊢
  have hA : ∀ q : Nat, s.heap.size ≤ q → A q := fun q h => by rw [← hAe]; exact Or.inr h
  clear hAe hD0
  have hS : va_S A s.heap s.heap [] := va_S.rf
  have hl := lv_entry ([.ref (bF 0), .int x1, .ref (bO 1)]) (n := 4) (Nat.le_of_ble_eq_true rfl)
  rw [lg_entry_eq]
  generalize (lg_sl ([.ref (bF 0), .int x1, .ref (bO 1)]) ++ List.replicate (4 - (lg_sl ([.ref (bF 0), .int x1, .ref (bO 1)])).length) Slot.unset).toArray = ls at hl ⊢
  have hl : lv_has ls 4 [(0, .ref (bF 0)), (1, .int x1), (2, .ref (bO 1))] := hl
  have htu : ∀ w ∈ UW, w.before _ s = true := fun w h => hts w (List.mem_cons_of_mem _ h)
  have k_4_129 := htu _ mw_4_129
  unfold f_L_suspect at hf
  obtain ⟨H, hH⟩ : ∃ z, z = s.heap := ⟨_, rfl⟩
  obtain ⟨locs, hlo⟩ : ∃ z : List Loc, z = [] := ⟨_, rfl⟩
  have hS : va_S A s.heap H locs := by rw [hH, hlo]; exact hS
  rw [← hH] at hP
  have hW : W p l e (headSpec wsL_suspect rhL_suspect).room s m ([.ref (bF 0), .int x1, .ref (bO 1)] : List Value).toArray below meth c H locs 0 0 (vx_MQ below (qI g A (cO g bO vO1 ++ (cF g bF qF0 (bS 0) qF2 qF3 (bRT 0) vF1 ++ (cS g bS (bC 0) (bT 0) ++ (cC g bC vC ++ (cT g bT vT ++ (cR g bRT nRT (bG 0) (bB 0) vRT1 ++ (cL g bG vG1 ++ (cL g bB vB1)))))))) r) (xF A) ([.ref (bF 0), .int x1, .ref (bO 1)] : List Value).toArray s 1 6 A) (F0 m 0 ls []) := by
    refine lv_aload_n hx hb dL_suspect_0 rfl (lv_at hl 2 rfl) ?_
    refine lv_iconst (v := (0 : Int32)) hx hb dL_suspect_1 (by decide) ?_
    refine lv_aload_n hx hb dL_suspect_2 rfl (lv_at hl 0 rfl) ?_
    refine lv_iload_n hx hb dL_suspect_3 rfl (lv_at hl 1 rfl) ?_
    obtain ⟨c1, r2, vF_3, vRT_4, vG_5, vB_6, hg7, hf⟩ := o6_at hf
    rcases Classical.em (¬ c1 = 0) with hc1 | hc1
    · have hf := it_f hf hc1
      rcases Classical.em (c1 = 3) with h8 | h8
      · have hf := it_t hf h8
        rw [h8] at hg7
        refine kh_viP ⟨hx, hb, hml, hown, htu⟩ hK hP hD hS hA hG (t_X7_suspect l hst g bF qF0 qF2 qF3 vF bS bC vC bT vT bRT nRT vRT bG vG bB vB x1 r2 vF_3 vRT_4 vG_5 vB_6 3 hg7 (by decide)) (cwV 1 htu (gU_V mw_4_226 hcX7_suspect) rfl rfl rfl hdX7_suspect ⟨Nat.le_of_ble_eq_true rfl, Nat.le_of_ble_eq_true rfl⟩) (q0 := 1) (ci := 7) (fs := fcF bF qF0 (bS 0) qF2 qF3 (bRT 0) vF) (q := (RX7, TX7, 12)) rfl rfl rfl (wr := (cO g bO vO)) (w2 := cO g bO vO ++ (cF g bF qF0 (bS 0) qF2 qF3 (bRT 0) vF_3 ++ (cS g bS (bC 0) (bT 0) ++ (cC g bC vC ++ (cT g bT vT ++ (cR g bRT nRT (bG 0) (bB 0) vRT_4 ++ (cL g bG vG_5 ++ (cL g bB vB_6)))))))) [1, 2, 3, 4, 5, 6, 7, 8, 9, 10, 11, 12, 13, 14, 15, 16, 17, 18, 19, 20, 21, 22, 23, 24, 25, 26, 27, 28, 29, 30, 31, 32] [0] [0, 1, 2, 3, 4, 5, 6, 7, 8, 9, 10, 11, 12, 13, 14, 15, 16, 17, 18, 19, 20, 21, 22, 23, 24, 25, 26, 27, 28, 29, 30, 31, 32] rfl rfl (by decide) (by decide) (by decide) rfl rfl (by decide) (As := [.int x1]) (rest := [.int (0 : Int32), .ref (bO 1)]) rfl rfl hl.1 (Nat.le_of_ble_eq_true rfl) dL_suspect_4 ⟨Nat.le_refl _, Nat.le_refl _⟩ (fun q9 ce H locs hP hD hS g1 g2 g3 => ?_)
        refine vx_catch (E := "java/util/NoSuchElementException") (name := "java/util/NoSuchElementException") hown [] (⟨0, 9, 12, 27⟩ : ExceptionTableEntry) [] hT (fun z hz => nomatch hz) (by decide) (by decide) k_4_129 (va_Nw.use rfl (hG.1.2.2.2.2.2.1 "java/util/NoSuchElementException" (List.mem_of_getElem? (i := 2) rfl))) g1 g2 g3 ?_
        refine W.eq (g2 := F0 m 12 ls [.ref q9]) rfl ?_
        refine lv_astore_n (lv' := [(3, .ref q9), (0, .ref (bF 0)), (1, .int x1), (2, .ref (bO 1))]) hx hb dL_suspect_12 rfl hl (by decide) rfl (fun ls hl => ?_)
        refine lv_iconst (v := (1 : Int32)) hx hb dL_suspect_13 (by decide) ?_
        obtain ⟨e9, e10, e11, e12, e13, e14⟩ := kp_6 hf
        rw [e10] at hP hD
        rw [e11] at hP hD
        rw [e12] at hP hD
        rw [e13] at hP hD
        rw [e14] at hP hD
        exact vx_ret (W.widen (k := 1) (n := 6) (by omega) (by omega) (k_iret hx hb hr hlocks hK hP hD hS e9 dL_suspect_14))
      have hf := it_f hf h8
      cases hf
    have hc1 := Classical.not_not.mp hc1
    have hf := it_t hf hc1
    rw [hc1] at hg7
    refine k_viP ⟨hx, hb, hml, hown, htu⟩ hK hP hD hS hA hG (c_X7_suspect l g bF qF0 qF2 qF3 vF bS bC vC bT vT bRT nRT vRT bG vG bB vB x1 r2 vF_3 vRT_4 vG_5 vB_6 hg7) (cwV 1 htu (gU_V mw_4_226 hcX7_suspect) rfl rfl rfl hdX7_suspect ⟨Nat.le_of_ble_eq_true rfl, Nat.le_of_ble_eq_true rfl⟩) (q0 := 1) (ci := 7) (fs := fcF bF qF0 (bS 0) qF2 qF3 (bRT 0) vF) (q := (RX7, TX7, 12)) rfl rfl rfl (wr := (cO g bO vO)) (w2 := cO g bO vO ++ (cF g bF qF0 (bS 0) qF2 qF3 (bRT 0) vF_3 ++ (cS g bS (bC 0) (bT 0) ++ (cC g bC vC ++ (cT g bT vT ++ (cR g bRT nRT (bG 0) (bB 0) vRT_4 ++ (cL g bG vG_5 ++ (cL g bB vB_6)))))))) [1, 2, 3, 4, 5, 6, 7, 8, 9, 10, 11, 12, 13, 14, 15, 16, 17, 18, 19, 20, 21, 22, 23, 24, 25, 26, 27, 28, 29, 30, 31, 32] [0] [0, 1, 2, 3, 4, 5, 6, 7, 8, 9, 10, 11, 12, 13, 14, 15, 16, 17, 18, 19, 20, 21, 22, 23, 24, 25, 26, 27, 28, 29, 30, 31, 32] rfl rfl (by decide) (by decide) (by decide) rfl rfl (by decide) (As := [.int x1]) (rest := [.int (0 : Int32), .ref (bO 1)]) rfl rfl hl.1 (Nat.le_of_ble_eq_true rfl) dL_suspect_4 (k1 := 0) (n1 := 0) rfl rfl ⟨Nat.zero_le _, Nat.zero_le _⟩ (fun H locs hP hD hS => ?_)
    refine lv_i2l (v := (r2).toInt64) hx hb dL_suspect_7 rfl ?_
    obtain ⟨h15, hf⟩ := gd_in hf
    refine va_last (D := g.1) (f := (vO.2.2 0)) hx hb hK hP hD hS 0 1 rfl rfl h15 dL_suspect_8 (fun H locs hP hD hS => ?_)
    obtain ⟨vO_16, evO_16⟩ : ∃ z, z = sJ vO 0 ((0 : Int32)).toNatClampNeg ((r2).toInt64) := ⟨_, rfl⟩
    have hf := bn_at hf evO_16
    have hP : va_P g.1 vwCl (cO g bO vO_16 ++ (cF g bF qF0 (bS 0) qF2 qF3 (bRT 0) vF_3 ++ (cS g bS (bC 0) (bT 0) ++ (cC g bC vC ++ (cT g bT vT ++ (cR g bRT nRT (bG 0) (bB 0) vRT_4 ++ (cL g bG vG_5 ++ (cL g bB vB_6)))))))) H := by rw [evO_16]; exact hP
    have hD : va_D A (cO g bO vO_16 ++ (cF g bF qF0 (bS 0) qF2 qF3 (bRT 0) vF_3 ++ (cS g bS (bC 0) (bT 0) ++ (cC g bC vC ++ (cT g bT vT ++ (cR g bRT nRT (bG 0) (bB 0) vRT_4 ++ (cL g bG vG_5 ++ (cL g bB vB_6)))))))) := by rw [evO_16]; exact hD
    refine lv_goto (tgt := 15) hx hb dL_suspect_9 (by decide) ?_
    refine lv_iconst (v := (0 : Int32)) hx hb dL_suspect_15 (by decide) ?_
    obtain ⟨e17, e18, e19, e20, e21, e22⟩ := kp_6 hf
    rw [e18] at hP hD
    rw [e19] at hP hD
    rw [e20] at hP hD
    rw [e21] at hP hD
    rw [e22] at hP hD
    exact vx_ret (W.widen (k := 1) (n := 6) (by omega) (by omega) (k_iret hx hb hr hlocks hK hP hD hS e17 dL_suspect_16))
  rw [hH, hlo] at hW
  exact hW
def f_L_addTest (vO : Vs) (vF : Vs) (vC : Vs) (vT : Vs) (vH : Hv) (x1 : Int32) (x2 : Int32) : Option (Int32 × Vs × Vs × Vs × Hv) :=
  o5 (f_X7_addTest vF vC vT vH x1 x2) (fun (c1 : Nat) (r2 : Int32) (vF_3 : Vs) (vT_4 : Vs) (vH_5 : Hv) => if c1 = 0 then (gd (inb (0 : Int32) 1) (bn (sJ vO 0 ((0 : Int32)).toNatClampNeg ((r2).toInt64)) (fun (vO_20 : Vs) => some ((0 : Int32), vO_20, vF_3, vT_4, vH_5)))) else if c1 = 1 then (some ((1 : Int32), vO, vF_3, vT_4, vH_5)) else if c1 = 4 then (some ((2 : Int32), vO, vF_3, vT_4, vH_5)) else none)
abbrev wsL_addTest : List Cond := .codeWith yL_addTest cL_addTest 5 (some .int) [(0, 10, 13, 13), (0, 10, 17, 61)] :: UW
abbrev rhL_addTest : Room := { frames := 10, cells := 1, slots := 6, locals := 185 }
set_option maxHeartbeats 4000000 in
set_option maxRecDepth 100000 in
theorem h_L_addTest (l : Launch) (hst : l.stackTraces = false) (g : Gx) (bO : Nat → Nat) (vO : Vs) (bF : Nat → Nat) (qF0 : Nat) (qF3 : Nat) (qF4 : Nat) (vF : Vs) (bS : Nat → Nat) (bC : Nat → Nat) (vC : Vs) (bT : Nat → Nat) (vT : Vs) (bH : Nat → Nat → Nat) (vH : Hv) (x1 : Int32) (x2 : Int32) (r : Int32) (vO1 : Vs) (vF1 : Vs) (vT1 : Vs) (vH1 : Hv) (hf : f_L_addTest vO vF vC vT vH x1 x2 = some (r, vO1, vF1, vT1, vH1)) : CtH l yL_addTest wsL_addTest rhL_addTest g [.ref (bF 0), .int x1, .int x2, .ref (bO 1)] (cO g bO vO ++ (cF g bF qF0 (bS 0) (bH 0 0) qF3 qF4 vF ++ (cS g bS (bC 0) (bT 0) ++ (cC g bC vC ++ (cT g bT vT ++ (cH g bH vH)))))) (cO g bO vO1 ++ (cF g bF qF0 (bS 0) (bH 0 0) qF3 qF4 vF1 ++ (cS g bS (bC 0) (bT 0) ++ (cC g bC vC ++ (cT g bT vT1 ++ (cH g bH vH1)))))) r 1 6 := by
  unfold CtH
  intro sz
  refine vx_ofWH (cc := cL_addTest) (maxL := 5) (ret := (some .int)) (hh := [(0, 10, 13, 13), (0, 10, 17, 61)]) (by decide) rfl ?_
  intro p e s m args below meth c s₁ B hml hv
  obtain ⟨rfl, hsz, hP, hK, hD0, hG⟩ := hv
  have hx := B.exec
  have hb := B.bytes
  have hr := B.returns
  have hts := atoms_spec (ws := wsL_addTest) B.pre
  have hT := vx_table (x := yL_addTest) B (hts _ List.mem_cons_self)
  have hown : s.vm.findClass RL = some m.cls := findClass_of_methodNamed B.named
  have hlocks := B.notSynchronized
  subst hsz
  have hD := hD0.self (sz := s.heap.size)
  generalize hAe : va_A (cO g bO vO ++ (cF g bF qF0 (bS 0) (bH 0 0) qF3 qF4 vF ++ (cS g bS (bC 0) (bT 0) ++ (cC g bC vC ++ (cT g bT vT ++ (cH g bH vH)))))) s.heap.size = A at hD hG ⊢
  have hA : ∀ q : Nat, s.heap.size ≤ q → A q := fun q h => by rw [← hAe]; exact Or.inr h
  clear hAe hD0
  have hS : va_S A s.heap s.heap [] := va_S.rf
  have hl := lv_entry ([.ref (bF 0), .int x1, .int x2, .ref (bO 1)]) (n := 5) (Nat.le_of_ble_eq_true rfl)
  rw [lg_entry_eq]
  generalize (lg_sl ([.ref (bF 0), .int x1, .int x2, .ref (bO 1)]) ++ List.replicate (5 - (lg_sl ([.ref (bF 0), .int x1, .int x2, .ref (bO 1)])).length) Slot.unset).toArray = ls at hl ⊢
  have hl : lv_has ls 5 [(0, .ref (bF 0)), (1, .int x1), (2, .int x2), (3, .ref (bO 1))] := hl
  have htu : ∀ w ∈ UW, w.before _ s = true := fun w h => hts w (List.mem_cons_of_mem _ h)
  have k_3_170 := htu _ mw_3_170
  have k_4_234 := htu _ mw_4_234
  unfold f_L_addTest at hf
  obtain ⟨H, hH⟩ : ∃ z, z = s.heap := ⟨_, rfl⟩
  obtain ⟨locs, hlo⟩ : ∃ z : List Loc, z = [] := ⟨_, rfl⟩
  have hS : va_S A s.heap H locs := by rw [hH, hlo]; exact hS
  rw [← hH] at hP
  have hW : W p l e (headSpec wsL_addTest rhL_addTest).room s m ([.ref (bF 0), .int x1, .int x2, .ref (bO 1)] : List Value).toArray below meth c H locs 0 0 (vx_MQ below (qI g A (cO g bO vO1 ++ (cF g bF qF0 (bS 0) (bH 0 0) qF3 qF4 vF1 ++ (cS g bS (bC 0) (bT 0) ++ (cC g bC vC ++ (cT g bT vT1 ++ (cH g bH vH1)))))) r) (xF A) ([.ref (bF 0), .int x1, .int x2, .ref (bO 1)] : List Value).toArray s 1 6 A) (F0 m 0 ls []) := by
    refine lv_aload_n hx hb dL_addTest_0 rfl (lv_at hl 3 rfl) ?_
    refine lv_iconst (v := (0 : Int32)) hx hb dL_addTest_1 (by decide) ?_
    refine lv_aload_n hx hb dL_addTest_2 rfl (lv_at hl 0 rfl) ?_
    refine lv_iload_n hx hb dL_addTest_3 rfl (lv_at hl 1 rfl) ?_
    refine lv_iload_n hx hb dL_addTest_4 rfl (lv_at hl 2 rfl) ?_
    obtain ⟨c1, r2, vF_3, vT_4, vH_5, hg6, hf⟩ := o5_at hf
    rcases Classical.em (¬ c1 = 0) with hc1 | hc1
    · have hf := it_f hf hc1
      rcases Classical.em (c1 = 1) with h7 | h7
      · have hf := it_t hf h7
        rw [h7] at hg6
        refine kh_viQ ⟨hx, hb, hml, hown, htu⟩ hK hP hD hS hA hG (t_X7_addTest l hst g bF qF0 qF3 qF4 vF bS bC vC bT vT bH vH x1 x2 r2 vF_3 vT_4 vH_5 1 hg6 (by decide)) (cwV 2 htu (gU_V mw_4_235 hcX7_addTest) rfl rfl rfl hdX7_addTest ⟨Nat.le_of_ble_eq_true rfl, Nat.le_of_ble_eq_true rfl⟩) (q0 := 1) (ci := 7) (fs := fcF bF qF0 (bS 0) (bH 0 0) qF3 qF4 vF) (q := (RX7, TX7, 12)) rfl rfl rfl (wr := (cO g bO vO)) (w2 := cO g bO vO ++ (cF g bF qF0 (bS 0) (bH 0 0) qF3 qF4 vF_3 ++ (cS g bS (bC 0) (bT 0) ++ (cC g bC vC ++ (cT g bT vT_4 ++ (cH g bH vH_5)))))) (kpc (fun P => by simp only [List.countP_append] <;> omega)) (kpc (fun P => by simp only [List.countP_append] <;> omega)) (As := [.int x1, .int x2]) (rest := [.int (0 : Int32), .ref (bO 1)]) rfl rfl hl.1 (Nat.le_of_ble_eq_true rfl) dL_addTest_5 ⟨Nat.le_refl _, Nat.le_refl _⟩ (fun q9 ce H locs hP hD hS g1 g2 g3 => ?_)
        refine vx_catch (E := "java/lang/IllegalArgumentException") (name := "java/lang/IllegalArgumentException") hown [] (⟨0, 10, 13, 13⟩ : ExceptionTableEntry) [(⟨0, 10, 17, 61⟩ : ExceptionTableEntry)] hT (fun z hz => nomatch hz) (by decide) (by decide) k_3_170 (va_Nw.use rfl (hG.1.2.2.2.2.2.1 "java/lang/IllegalArgumentException" (List.mem_of_getElem? (i := 0) rfl))) g1 g2 g3 ?_
        refine W.eq (g2 := F0 m 13 ls [.ref q9]) rfl ?_
        refine lv_astore (lv' := [(4, .ref q9), (0, .ref (bF 0)), (1, .int x1), (2, .int x2), (3, .ref (bO 1))]) hx hb dL_addTest_13 hl (by decide) rfl (fun ls hl => ?_)
        refine lv_iconst (v := (1 : Int32)) hx hb dL_addTest_15 (by decide) ?_
        obtain ⟨e8, e9, e10, e11, e12⟩ := kp_5 hf
        rw [e9] at hP hD
        rw [e10] at hP hD
        rw [e11] at hP hD
        rw [e12] at hP hD
        exact vx_ret (W.widen (k := 1) (n := 6) (by omega) (by omega) (k_iret hx hb hr hlocks hK hP hD hS e8 dL_addTest_16))
      have hf := it_f hf h7
      rcases Classical.em (c1 = 4) with h13 | h13
      · have hf := it_t hf h13
        rw [h13] at hg6
        refine kh_viQ ⟨hx, hb, hml, hown, htu⟩ hK hP hD hS hA hG (t_X7_addTest l hst g bF qF0 qF3 qF4 vF bS bC vC bT vT bH vH x1 x2 r2 vF_3 vT_4 vH_5 4 hg6 (by decide)) (cwV 2 htu (gU_V mw_4_235 hcX7_addTest) rfl rfl rfl hdX7_addTest ⟨Nat.le_of_ble_eq_true rfl, Nat.le_of_ble_eq_true rfl⟩) (q0 := 1) (ci := 7) (fs := fcF bF qF0 (bS 0) (bH 0 0) qF3 qF4 vF) (q := (RX7, TX7, 12)) rfl rfl rfl (wr := (cO g bO vO)) (w2 := cO g bO vO ++ (cF g bF qF0 (bS 0) (bH 0 0) qF3 qF4 vF_3 ++ (cS g bS (bC 0) (bT 0) ++ (cC g bC vC ++ (cT g bT vT_4 ++ (cH g bH vH_5)))))) (kpc (fun P => by simp only [List.countP_append] <;> omega)) (kpc (fun P => by simp only [List.countP_append] <;> omega)) (As := [.int x1, .int x2]) (rest := [.int (0 : Int32), .ref (bO 1)]) rfl rfl hl.1 (Nat.le_of_ble_eq_true rfl) dL_addTest_5 ⟨Nat.le_refl _, Nat.le_refl _⟩ (fun q9 ce H locs hP hD hS g1 g2 g3 => ?_)
        refine vx_catch (E := "java/lang/IllegalStateException") (name := "java/lang/IllegalStateException") hown [(⟨0, 10, 13, 13⟩ : ExceptionTableEntry)] (⟨0, 10, 17, 61⟩ : ExceptionTableEntry) [] hT (fun z hz => by cases List.mem_singleton.mp hz; exact Or.inr ⟨by decide, "java/lang/IllegalArgumentException", k_3_170, hG.1.2.2.2.2.2.2 ("java/lang/IllegalStateException", "java/lang/IllegalArgumentException") (List.mem_of_getElem? (i := 2) rfl)⟩) (by decide) (by decide) k_4_234 (va_Nw.use rfl (hG.1.2.2.2.2.2.1 "java/lang/IllegalStateException" (List.mem_of_getElem? (i := 3) rfl))) g1 g2 g3 ?_
        refine W.eq (g2 := F0 m 17 ls [.ref q9]) rfl ?_
        refine lv_astore (lv' := [(4, .ref q9), (0, .ref (bF 0)), (1, .int x1), (2, .int x2), (3, .ref (bO 1))]) hx hb dL_addTest_17 hl (by decide) rfl (fun ls hl => ?_)
        refine lv_iconst (v := (2 : Int32)) hx hb dL_addTest_19 (by decide) ?_
        obtain ⟨e14, e15, e16, e17, e18⟩ := kp_5 hf
        rw [e15] at hP hD
        rw [e16] at hP hD
        rw [e17] at hP hD
        rw [e18] at hP hD
        exact vx_ret (W.widen (k := 1) (n := 6) (by omega) (by omega) (k_iret hx hb hr hlocks hK hP hD hS e14 dL_addTest_20))
      have hf := it_f hf h13
      cases hf
    have hc1 := Classical.not_not.mp hc1
    have hf := it_t hf hc1
    rw [hc1] at hg6
    refine k_viQ ⟨hx, hb, hml, hown, htu⟩ hK hP hD hS hA hG (c_X7_addTest l g bF qF0 qF3 qF4 vF bS bC vC bT vT bH vH x1 x2 r2 vF_3 vT_4 vH_5 hg6) (cwV 2 htu (gU_V mw_4_235 hcX7_addTest) rfl rfl rfl hdX7_addTest ⟨Nat.le_of_ble_eq_true rfl, Nat.le_of_ble_eq_true rfl⟩) (q0 := 1) (ci := 7) (fs := fcF bF qF0 (bS 0) (bH 0 0) qF3 qF4 vF) (q := (RX7, TX7, 12)) rfl rfl rfl (wr := (cO g bO vO)) (w2 := cO g bO vO ++ (cF g bF qF0 (bS 0) (bH 0 0) qF3 qF4 vF_3 ++ (cS g bS (bC 0) (bT 0) ++ (cC g bC vC ++ (cT g bT vT_4 ++ (cH g bH vH_5)))))) (kpc (fun P => by simp only [List.countP_append] <;> omega)) (kpc (fun P => by simp only [List.countP_append] <;> omega)) (As := [.int x1, .int x2]) (rest := [.int (0 : Int32), .ref (bO 1)]) rfl rfl hl.1 (Nat.le_of_ble_eq_true rfl) dL_addTest_5 (k1 := 0) (n1 := 0) rfl rfl ⟨Nat.zero_le _, Nat.zero_le _⟩ (fun H locs hP hD hS => ?_)
    refine lv_i2l (v := (r2).toInt64) hx hb dL_addTest_8 rfl ?_
    obtain ⟨h19, hf⟩ := gd_in hf
    refine va_last (D := g.1) (f := (vO.2.2 0)) hx hb hK hP hD hS 0 1 rfl rfl h19 dL_addTest_9 (fun H locs hP hD hS => ?_)
    obtain ⟨vO_20, evO_20⟩ : ∃ z, z = sJ vO 0 ((0 : Int32)).toNatClampNeg ((r2).toInt64) := ⟨_, rfl⟩
    have hf := bn_at hf evO_20
    have hP : va_P g.1 vwCl (cO g bO vO_20 ++ (cF g bF qF0 (bS 0) (bH 0 0) qF3 qF4 vF_3 ++ (cS g bS (bC 0) (bT 0) ++ (cC g bC vC ++ (cT g bT vT_4 ++ (cH g bH vH_5)))))) H := by rw [evO_20]; exact hP
    have hD : va_D A (cO g bO vO_20 ++ (cF g bF qF0 (bS 0) (bH 0 0) qF3 qF4 vF_3 ++ (cS g bS (bC 0) (bT 0) ++ (cC g bC vC ++ (cT g bT vT_4 ++ (cH g bH vH_5)))))) := by rw [evO_20]; exact hD
    refine lv_goto (tgt := 21) hx hb dL_addTest_10 (by decide) ?_
    refine lv_iconst (v := (0 : Int32)) hx hb dL_addTest_21 (by decide) ?_
    obtain ⟨e21, e22, e23, e24, e25⟩ := kp_5 hf
    rw [e22] at hP hD
    rw [e23] at hP hD
    rw [e24] at hP hD
    rw [e25] at hP hD
    exact vx_ret (W.widen (k := 1) (n := 6) (by omega) (by omega) (k_iret hx hb hr hlocks hK hP hD hS e21 dL_addTest_22))
  rw [hH, hlo] at hW
  exact hW
def f_L_removeTest (vO : Vs) (vF : Vs) (vC : Vs) (vT : Vs) (vH : Hv) (x1 : Int32) : Option (Int32 × Vs × Vs × Vs × Hv) :=
  o5 (f_X7_removeTest vF vC vT vH x1) (fun (c1 : Nat) (r2 : Int32) (vF_3 : Vs) (vT_4 : Vs) (vH_5 : Hv) => if c1 = 0 then (gd (inb (0 : Int32) 1) (bn (sJ vO 0 ((0 : Int32)).toNatClampNeg ((r2).toInt64)) (fun (vO_14 : Vs) => some ((0 : Int32), vO_14, vF_3, vT_4, vH_5)))) else if c1 = 2 then (some ((1 : Int32), vO, vF_3, vT_4, vH_5)) else none)
abbrev wsL_removeTest : List Cond := .codeWith yL_removeTest cL_removeTest 4 (some .int) [(0, 9, 12, 22)] :: UW
abbrev rhL_removeTest : Room := { frames := 11, cells := 1, slots := 6, locals := 202 }
set_option maxHeartbeats 4000000 in
set_option maxRecDepth 100000 in
theorem h_L_removeTest (l : Launch) (hst : l.stackTraces = false) (g : Gx) (bO : Nat → Nat) (vO : Vs) (bF : Nat → Nat) (qF0 : Nat) (qF3 : Nat) (qF4 : Nat) (vF : Vs) (bS : Nat → Nat) (bC : Nat → Nat) (vC : Vs) (bT : Nat → Nat) (vT : Vs) (bH : Nat → Nat → Nat) (vH : Hv) (x1 : Int32) (r : Int32) (vO1 : Vs) (vF1 : Vs) (vT1 : Vs) (vH1 : Hv) (hf : f_L_removeTest vO vF vC vT vH x1 = some (r, vO1, vF1, vT1, vH1)) : CtH l yL_removeTest wsL_removeTest rhL_removeTest g [.ref (bF 0), .int x1, .ref (bO 1)] (cO g bO vO ++ (cF g bF qF0 (bS 0) (bH 0 0) qF3 qF4 vF ++ (cS g bS (bC 0) (bT 0) ++ (cC g bC vC ++ (cT g bT vT ++ (cH g bH vH)))))) (cO g bO vO1 ++ (cF g bF qF0 (bS 0) (bH 0 0) qF3 qF4 vF1 ++ (cS g bS (bC 0) (bT 0) ++ (cC g bC vC ++ (cT g bT vT1 ++ (cH g bH vH1)))))) r 1 6 := by
  unfold CtH
  intro sz
  refine vx_ofWH (cc := cL_removeTest) (maxL := 4) (ret := (some .int)) (hh := [(0, 9, 12, 22)]) (by decide) rfl ?_
  intro p e s m args below meth c s₁ B hml hv
  obtain ⟨rfl, hsz, hP, hK, hD0, hG⟩ := hv
  have hx := B.exec
  have hb := B.bytes
  have hr := B.returns
  have hts := atoms_spec (ws := wsL_removeTest) B.pre
  have hT := vx_table (x := yL_removeTest) B (hts _ List.mem_cons_self)
  have hown : s.vm.findClass RL = some m.cls := findClass_of_methodNamed B.named
  have hlocks := B.notSynchronized
  subst hsz
  have hD := hD0.self (sz := s.heap.size)
  generalize hAe : va_A (cO g bO vO ++ (cF g bF qF0 (bS 0) (bH 0 0) qF3 qF4 vF ++ (cS g bS (bC 0) (bT 0) ++ (cC g bC vC ++ (cT g bT vT ++ (cH g bH vH)))))) s.heap.size = A at hD hG ⊢
  have hA : ∀ q : Nat, s.heap.size ≤ q → A q := fun q h => by rw [← hAe]; exact Or.inr h
  clear hAe hD0
  have hS : va_S A s.heap s.heap [] := va_S.rf
  have hl := lv_entry ([.ref (bF 0), .int x1, .ref (bO 1)]) (n := 4) (Nat.le_of_ble_eq_true rfl)
  rw [lg_entry_eq]
  generalize (lg_sl ([.ref (bF 0), .int x1, .ref (bO 1)]) ++ List.replicate (4 - (lg_sl ([.ref (bF 0), .int x1, .ref (bO 1)])).length) Slot.unset).toArray = ls at hl ⊢
  have hl : lv_has ls 4 [(0, .ref (bF 0)), (1, .int x1), (2, .ref (bO 1))] := hl
  have htu : ∀ w ∈ UW, w.before _ s = true := fun w h => hts w (List.mem_cons_of_mem _ h)
  have k_4_124 := htu _ mw_4_124
  unfold f_L_removeTest at hf
  obtain ⟨H, hH⟩ : ∃ z, z = s.heap := ⟨_, rfl⟩
  obtain ⟨locs, hlo⟩ : ∃ z : List Loc, z = [] := ⟨_, rfl⟩
  have hS : va_S A s.heap H locs := by rw [hH, hlo]; exact hS
  rw [← hH] at hP
  have hW : W p l e (headSpec wsL_removeTest rhL_removeTest).room s m ([.ref (bF 0), .int x1, .ref (bO 1)] : List Value).toArray below meth c H locs 0 0 (vx_MQ below (qI g A (cO g bO vO1 ++ (cF g bF qF0 (bS 0) (bH 0 0) qF3 qF4 vF1 ++ (cS g bS (bC 0) (bT 0) ++ (cC g bC vC ++ (cT g bT vT1 ++ (cH g bH vH1)))))) r) (xF A) ([.ref (bF 0), .int x1, .ref (bO 1)] : List Value).toArray s 1 6 A) (F0 m 0 ls []) := by
    refine lv_aload_n hx hb dL_removeTest_0 rfl (lv_at hl 2 rfl) ?_
    refine lv_iconst (v := (0 : Int32)) hx hb dL_removeTest_1 (by decide) ?_
    refine lv_aload_n hx hb dL_removeTest_2 rfl (lv_at hl 0 rfl) ?_
    refine lv_iload_n hx hb dL_removeTest_3 rfl (lv_at hl 1 rfl) ?_
    obtain ⟨c1, r2, vF_3, vT_4, vH_5, hg6, hf⟩ := o5_at hf
    rcases Classical.em (¬ c1 = 0) with hc1 | hc1
    · have hf := it_f hf hc1
      rcases Classical.em (c1 = 2) with h7 | h7
      · have hf := it_t hf h7
        rw [h7] at hg6
        refine kh_viQ ⟨hx, hb, hml, hown, htu⟩ hK hP hD hS hA hG (t_X7_removeTest l hst g bF qF0 qF3 qF4 vF bS bC vC bT vT bH vH x1 r2 vF_3 vT_4 vH_5 2 hg6 (by decide)) (cwV 1 htu (gU_V mw_5_23 hcX7_removeTest) rfl rfl rfl hdX7_removeTest ⟨Nat.le_of_ble_eq_true rfl, Nat.le_of_ble_eq_true rfl⟩) (q0 := 1) (ci := 7) (fs := fcF bF qF0 (bS 0) (bH 0 0) qF3 qF4 vF) (q := (RX7, TX7, 12)) rfl rfl rfl (wr := (cO g bO vO)) (w2 := cO g bO vO ++ (cF g bF qF0 (bS 0) (bH 0 0) qF3 qF4 vF_3 ++ (cS g bS (bC 0) (bT 0) ++ (cC g bC vC ++ (cT g bT vT_4 ++ (cH g bH vH_5)))))) (kpc (fun P => by simp only [List.countP_append] <;> omega)) (kpc (fun P => by simp only [List.countP_append] <;> omega)) (As := [.int x1]) (rest := [.int (0 : Int32), .ref (bO 1)]) rfl rfl hl.1 (Nat.le_of_ble_eq_true rfl) dL_removeTest_4 ⟨Nat.le_refl _, Nat.le_refl _⟩ (fun q9 ce H locs hP hD hS g1 g2 g3 => ?_)
        refine vx_catch (E := "java/lang/IndexOutOfBoundsException") (name := "java/lang/IndexOutOfBoundsException") hown [] (⟨0, 9, 12, 22⟩ : ExceptionTableEntry) [] hT (fun z hz => nomatch hz) (by decide) (by decide) k_4_124 (va_Nw.use rfl (hG.1.2.2.2.2.2.1 "java/lang/IndexOutOfBoundsException" (List.mem_of_getElem? (i := 1) rfl))) g1 g2 g3 ?_
        refine W.eq (g2 := F0 m 12 ls [.ref q9]) rfl ?_
        refine lv_astore_n (lv' := [(3, .ref q9), (0, .ref (bF 0)), (1, .int x1), (2, .ref (bO 1))]) hx hb dL_removeTest_12 rfl hl (by decide) rfl (fun ls hl => ?_)
        refine lv_iconst (v := (1 : Int32)) hx hb dL_removeTest_13 (by decide) ?_
        obtain ⟨e8, e9, e10, e11, e12⟩ := kp_5 hf
        rw [e9] at hP hD
        rw [e10] at hP hD
        rw [e11] at hP hD
        rw [e12] at hP hD
        exact vx_ret (W.widen (k := 1) (n := 6) (by omega) (by omega) (k_iret hx hb hr hlocks hK hP hD hS e8 dL_removeTest_14))
      have hf := it_f hf h7
      cases hf
    have hc1 := Classical.not_not.mp hc1
    have hf := it_t hf hc1
    rw [hc1] at hg6
    refine k_viQ ⟨hx, hb, hml, hown, htu⟩ hK hP hD hS hA hG (c_X7_removeTest l g bF qF0 qF3 qF4 vF bS bC vC bT vT bH vH x1 r2 vF_3 vT_4 vH_5 hg6) (cwV 1 htu (gU_V mw_5_23 hcX7_removeTest) rfl rfl rfl hdX7_removeTest ⟨Nat.le_of_ble_eq_true rfl, Nat.le_of_ble_eq_true rfl⟩) (q0 := 1) (ci := 7) (fs := fcF bF qF0 (bS 0) (bH 0 0) qF3 qF4 vF) (q := (RX7, TX7, 12)) rfl rfl rfl (wr := (cO g bO vO)) (w2 := cO g bO vO ++ (cF g bF qF0 (bS 0) (bH 0 0) qF3 qF4 vF_3 ++ (cS g bS (bC 0) (bT 0) ++ (cC g bC vC ++ (cT g bT vT_4 ++ (cH g bH vH_5)))))) (kpc (fun P => by simp only [List.countP_append] <;> omega)) (kpc (fun P => by simp only [List.countP_append] <;> omega)) (As := [.int x1]) (rest := [.int (0 : Int32), .ref (bO 1)]) rfl rfl hl.1 (Nat.le_of_ble_eq_true rfl) dL_removeTest_4 (k1 := 0) (n1 := 0) rfl rfl ⟨Nat.zero_le _, Nat.zero_le _⟩ (fun H locs hP hD hS => ?_)
    refine lv_i2l (v := (r2).toInt64) hx hb dL_removeTest_7 rfl ?_
    obtain ⟨h13, hf⟩ := gd_in hf
    refine va_last (D := g.1) (f := (vO.2.2 0)) hx hb hK hP hD hS 0 1 rfl rfl h13 dL_removeTest_8 (fun H locs hP hD hS => ?_)
    obtain ⟨vO_14, evO_14⟩ : ∃ z, z = sJ vO 0 ((0 : Int32)).toNatClampNeg ((r2).toInt64) := ⟨_, rfl⟩
    have hf := bn_at hf evO_14
    have hP : va_P g.1 vwCl (cO g bO vO_14 ++ (cF g bF qF0 (bS 0) (bH 0 0) qF3 qF4 vF_3 ++ (cS g bS (bC 0) (bT 0) ++ (cC g bC vC ++ (cT g bT vT_4 ++ (cH g bH vH_5)))))) H := by rw [evO_14]; exact hP
    have hD : va_D A (cO g bO vO_14 ++ (cF g bF qF0 (bS 0) (bH 0 0) qF3 qF4 vF_3 ++ (cS g bS (bC 0) (bT 0) ++ (cC g bC vC ++ (cT g bT vT_4 ++ (cH g bH vH_5)))))) := by rw [evO_14]; exact hD
    refine lv_goto (tgt := 15) hx hb dL_removeTest_9 (by decide) ?_
    refine lv_iconst (v := (0 : Int32)) hx hb dL_removeTest_15 (by decide) ?_
    obtain ⟨e15, e16, e17, e18, e19⟩ := kp_5 hf
    rw [e16] at hP hD
    rw [e17] at hP hD
    rw [e18] at hP hD
    rw [e19] at hP hD
    exact vx_ret (W.widen (k := 1) (n := 6) (by omega) (by omega) (k_iret hx hb hr hlocks hK hP hD hS e15 dL_removeTest_16))
  rw [hH, hlo] at hW
  exact hW
def f_L_setKind (vO : Vs) (vF : Vs) (vC : Vs) (vT : Vs) (vH : Hv) (x1 : Int32) (x2 : Int32) : Option (Int32 × Vs × Vs × Vs × Hv) :=
  o5 (f_X7_setKind vF vC vT vH x1 x2) (fun (c1 : Nat) (r2 : Int32) (vF_3 : Vs) (vC_4 : Vs) (vH_5 : Hv) => if c1 = 0 then (gd (inb (0 : Int32) 1) (bn (sJ vO 0 ((0 : Int32)).toNatClampNeg ((r2).toInt64)) (fun (vO_20 : Vs) => some ((0 : Int32), vO_20, vF_3, vC_4, vH_5)))) else if c1 = 2 then (some ((1 : Int32), vO, vF_3, vC_4, vH_5)) else if c1 = 1 then (some ((2 : Int32), vO, vF_3, vC_4, vH_5)) else none)
abbrev wsL_setKind : List Cond := .codeWith yL_setKind cL_setKind 5 (some .int) [(0, 10, 13, 22), (0, 10, 17, 13)] :: UW
abbrev rhL_setKind : Room := { frames := 11, cells := 1, slots := 6, locals := 205 }
set_option maxHeartbeats 4000000 in
set_option maxRecDepth 100000 in
theorem h_L_setKind (l : Launch) (hst : l.stackTraces = false) (g : Gx) (bO : Nat → Nat) (vO : Vs) (bF : Nat → Nat) (qF0 : Nat) (qF3 : Nat) (qF4 : Nat) (vF : Vs) (bS : Nat → Nat) (bC : Nat → Nat) (vC : Vs) (bT : Nat → Nat) (vT : Vs) (bH : Nat → Nat → Nat) (vH : Hv) (x1 : Int32) (x2 : Int32) (r : Int32) (vO1 : Vs) (vF1 : Vs) (vC1 : Vs) (vH1 : Hv) (hf : f_L_setKind vO vF vC vT vH x1 x2 = some (r, vO1, vF1, vC1, vH1)) : CtH l yL_setKind wsL_setKind rhL_setKind g [.ref (bF 0), .int x1, .int x2, .ref (bO 1)] (cO g bO vO ++ (cF g bF qF0 (bS 0) (bH 0 0) qF3 qF4 vF ++ (cS g bS (bC 0) (bT 0) ++ (cC g bC vC ++ (cT g bT vT ++ (cH g bH vH)))))) (cO g bO vO1 ++ (cF g bF qF0 (bS 0) (bH 0 0) qF3 qF4 vF1 ++ (cS g bS (bC 0) (bT 0) ++ (cC g bC vC1 ++ (cT g bT vT ++ (cH g bH vH1)))))) r 1 6 := by
  unfold CtH
  intro sz
  refine vx_ofWH (cc := cL_setKind) (maxL := 5) (ret := (some .int)) (hh := [(0, 10, 13, 22), (0, 10, 17, 13)]) (by decide) rfl ?_
  intro p e s m args below meth c s₁ B hml hv
  obtain ⟨rfl, hsz, hP, hK, hD0, hG⟩ := hv
  have hx := B.exec
  have hb := B.bytes
  have hr := B.returns
  have hts := atoms_spec (ws := wsL_setKind) B.pre
  have hT := vx_table (x := yL_setKind) B (hts _ List.mem_cons_self)
  have hown : s.vm.findClass RL = some m.cls := findClass_of_methodNamed B.named
  have hlocks := B.notSynchronized
  subst hsz
  have hD := hD0.self (sz := s.heap.size)
  generalize hAe : va_A (cO g bO vO ++ (cF g bF qF0 (bS 0) (bH 0 0) qF3 qF4 vF ++ (cS g bS (bC 0) (bT 0) ++ (cC g bC vC ++ (cT g bT vT ++ (cH g bH vH)))))) s.heap.size = A at hD hG ⊢
  have hA : ∀ q : Nat, s.heap.size ≤ q → A q := fun q h => by rw [← hAe]; exact Or.inr h
  clear hAe hD0
  have hS : va_S A s.heap s.heap [] := va_S.rf
  have hl := lv_entry ([.ref (bF 0), .int x1, .int x2, .ref (bO 1)]) (n := 5) (Nat.le_of_ble_eq_true rfl)
  rw [lg_entry_eq]
  generalize (lg_sl ([.ref (bF 0), .int x1, .int x2, .ref (bO 1)]) ++ List.replicate (5 - (lg_sl ([.ref (bF 0), .int x1, .int x2, .ref (bO 1)])).length) Slot.unset).toArray = ls at hl ⊢
  have hl : lv_has ls 5 [(0, .ref (bF 0)), (1, .int x1), (2, .int x2), (3, .ref (bO 1))] := hl
  have htu : ∀ w ∈ UW, w.before _ s = true := fun w h => hts w (List.mem_cons_of_mem _ h)
  have k_4_124 := htu _ mw_4_124
  have k_3_170 := htu _ mw_3_170
  unfold f_L_setKind at hf
  obtain ⟨H, hH⟩ : ∃ z, z = s.heap := ⟨_, rfl⟩
  obtain ⟨locs, hlo⟩ : ∃ z : List Loc, z = [] := ⟨_, rfl⟩
  have hS : va_S A s.heap H locs := by rw [hH, hlo]; exact hS
  rw [← hH] at hP
  have hW : W p l e (headSpec wsL_setKind rhL_setKind).room s m ([.ref (bF 0), .int x1, .int x2, .ref (bO 1)] : List Value).toArray below meth c H locs 0 0 (vx_MQ below (qI g A (cO g bO vO1 ++ (cF g bF qF0 (bS 0) (bH 0 0) qF3 qF4 vF1 ++ (cS g bS (bC 0) (bT 0) ++ (cC g bC vC1 ++ (cT g bT vT ++ (cH g bH vH1)))))) r) (xF A) ([.ref (bF 0), .int x1, .int x2, .ref (bO 1)] : List Value).toArray s 1 6 A) (F0 m 0 ls []) := by
    refine lv_aload_n hx hb dL_setKind_0 rfl (lv_at hl 3 rfl) ?_
    refine lv_iconst (v := (0 : Int32)) hx hb dL_setKind_1 (by decide) ?_
    refine lv_aload_n hx hb dL_setKind_2 rfl (lv_at hl 0 rfl) ?_
    refine lv_iload_n hx hb dL_setKind_3 rfl (lv_at hl 1 rfl) ?_
    refine lv_iload_n hx hb dL_setKind_4 rfl (lv_at hl 2 rfl) ?_
    obtain ⟨c1, r2, vF_3, vC_4, vH_5, hg6, hf⟩ := o5_at hf
    rcases Classical.em (¬ c1 = 0) with hc1 | hc1
    · have hf := it_f hf hc1
      rcases Classical.em (c1 = 2) with h7 | h7
      · have hf := it_t hf h7
        rw [h7] at hg6
        refine kh_viQ ⟨hx, hb, hml, hown, htu⟩ hK hP hD hS hA hG (t_X7_setKind l hst g bF qF0 qF3 qF4 vF bS bC vC bT vT bH vH x1 x2 r2 vF_3 vC_4 vH_5 2 hg6 (by decide)) (cwV 2 htu (gU_V mw_5_37 hcX7_setKind) rfl rfl rfl hdX7_setKind ⟨Nat.le_of_ble_eq_true rfl, Nat.le_of_ble_eq_true rfl⟩) (q0 := 1) (ci := 7) (fs := fcF bF qF0 (bS 0) (bH 0 0) qF3 qF4 vF) (q := (RX7, TX7, 12)) rfl rfl rfl (wr := (cO g bO vO)) (w2 := cO g bO vO ++ (cF g bF qF0 (bS 0) (bH 0 0) qF3 qF4 vF_3 ++ (cS g bS (bC 0) (bT 0) ++ (cC g bC vC_4 ++ (cT g bT vT ++ (cH g bH vH_5)))))) (kpc (fun P => by simp only [List.countP_append] <;> omega)) (kpc (fun P => by simp only [List.countP_append] <;> omega)) (As := [.int x1, .int x2]) (rest := [.int (0 : Int32), .ref (bO 1)]) rfl rfl hl.1 (Nat.le_of_ble_eq_true rfl) dL_setKind_5 ⟨Nat.le_refl _, Nat.le_refl _⟩ (fun q9 ce H locs hP hD hS g1 g2 g3 => ?_)
        refine vx_catch (E := "java/lang/IndexOutOfBoundsException") (name := "java/lang/IndexOutOfBoundsException") hown [] (⟨0, 10, 13, 22⟩ : ExceptionTableEntry) [(⟨0, 10, 17, 13⟩ : ExceptionTableEntry)] hT (fun z hz => nomatch hz) (by decide) (by decide) k_4_124 (va_Nw.use rfl (hG.1.2.2.2.2.2.1 "java/lang/IndexOutOfBoundsException" (List.mem_of_getElem? (i := 1) rfl))) g1 g2 g3 ?_
        refine W.eq (g2 := F0 m 13 ls [.ref q9]) rfl ?_
        refine lv_astore (lv' := [(4, .ref q9), (0, .ref (bF 0)), (1, .int x1), (2, .int x2), (3, .ref (bO 1))]) hx hb dL_setKind_13 hl (by decide) rfl (fun ls hl => ?_)
        refine lv_iconst (v := (1 : Int32)) hx hb dL_setKind_15 (by decide) ?_
        obtain ⟨e8, e9, e10, e11, e12⟩ := kp_5 hf
        rw [e9] at hP hD
        rw [e10] at hP hD
        rw [e11] at hP hD
        rw [e12] at hP hD
        exact vx_ret (W.widen (k := 1) (n := 6) (by omega) (by omega) (k_iret hx hb hr hlocks hK hP hD hS e8 dL_setKind_16))
      have hf := it_f hf h7
      rcases Classical.em (c1 = 1) with h13 | h13
      · have hf := it_t hf h13
        rw [h13] at hg6
        refine kh_viQ ⟨hx, hb, hml, hown, htu⟩ hK hP hD hS hA hG (t_X7_setKind l hst g bF qF0 qF3 qF4 vF bS bC vC bT vT bH vH x1 x2 r2 vF_3 vC_4 vH_5 1 hg6 (by decide)) (cwV 2 htu (gU_V mw_5_37 hcX7_setKind) rfl rfl rfl hdX7_setKind ⟨Nat.le_of_ble_eq_true rfl, Nat.le_of_ble_eq_true rfl⟩) (q0 := 1) (ci := 7) (fs := fcF bF qF0 (bS 0) (bH 0 0) qF3 qF4 vF) (q := (RX7, TX7, 12)) rfl rfl rfl (wr := (cO g bO vO)) (w2 := cO g bO vO ++ (cF g bF qF0 (bS 0) (bH 0 0) qF3 qF4 vF_3 ++ (cS g bS (bC 0) (bT 0) ++ (cC g bC vC_4 ++ (cT g bT vT ++ (cH g bH vH_5)))))) (kpc (fun P => by simp only [List.countP_append] <;> omega)) (kpc (fun P => by simp only [List.countP_append] <;> omega)) (As := [.int x1, .int x2]) (rest := [.int (0 : Int32), .ref (bO 1)]) rfl rfl hl.1 (Nat.le_of_ble_eq_true rfl) dL_setKind_5 ⟨Nat.le_refl _, Nat.le_refl _⟩ (fun q9 ce H locs hP hD hS g1 g2 g3 => ?_)
        refine vx_catch (E := "java/lang/IllegalArgumentException") (name := "java/lang/IllegalArgumentException") hown [(⟨0, 10, 13, 22⟩ : ExceptionTableEntry)] (⟨0, 10, 17, 13⟩ : ExceptionTableEntry) [] hT (fun z hz => by cases List.mem_singleton.mp hz; exact Or.inr ⟨by decide, "java/lang/IndexOutOfBoundsException", k_4_124, hG.1.2.2.2.2.2.2 ("java/lang/IllegalArgumentException", "java/lang/IndexOutOfBoundsException") (List.mem_of_getElem? (i := 0) rfl)⟩) (by decide) (by decide) k_3_170 (va_Nw.use rfl (hG.1.2.2.2.2.2.1 "java/lang/IllegalArgumentException" (List.mem_of_getElem? (i := 0) rfl))) g1 g2 g3 ?_
        refine W.eq (g2 := F0 m 17 ls [.ref q9]) rfl ?_
        refine lv_astore (lv' := [(4, .ref q9), (0, .ref (bF 0)), (1, .int x1), (2, .int x2), (3, .ref (bO 1))]) hx hb dL_setKind_17 hl (by decide) rfl (fun ls hl => ?_)
        refine lv_iconst (v := (2 : Int32)) hx hb dL_setKind_19 (by decide) ?_
        obtain ⟨e14, e15, e16, e17, e18⟩ := kp_5 hf
        rw [e15] at hP hD
        rw [e16] at hP hD
        rw [e17] at hP hD
        rw [e18] at hP hD
        exact vx_ret (W.widen (k := 1) (n := 6) (by omega) (by omega) (k_iret hx hb hr hlocks hK hP hD hS e14 dL_setKind_20))
      have hf := it_f hf h13
      cases hf
    have hc1 := Classical.not_not.mp hc1
    have hf := it_t hf hc1
    rw [hc1] at hg6
    refine k_viQ ⟨hx, hb, hml, hown, htu⟩ hK hP hD hS hA hG (c_X7_setKind l g bF qF0 qF3 qF4 vF bS bC vC bT vT bH vH x1 x2 r2 vF_3 vC_4 vH_5 hg6) (cwV 2 htu (gU_V mw_5_37 hcX7_setKind) rfl rfl rfl hdX7_setKind ⟨Nat.le_of_ble_eq_true rfl, Nat.le_of_ble_eq_true rfl⟩) (q0 := 1) (ci := 7) (fs := fcF bF qF0 (bS 0) (bH 0 0) qF3 qF4 vF) (q := (RX7, TX7, 12)) rfl rfl rfl (wr := (cO g bO vO)) (w2 := cO g bO vO ++ (cF g bF qF0 (bS 0) (bH 0 0) qF3 qF4 vF_3 ++ (cS g bS (bC 0) (bT 0) ++ (cC g bC vC_4 ++ (cT g bT vT ++ (cH g bH vH_5)))))) (kpc (fun P => by simp only [List.countP_append] <;> omega)) (kpc (fun P => by simp only [List.countP_append] <;> omega)) (As := [.int x1, .int x2]) (rest := [.int (0 : Int32), .ref (bO 1)]) rfl rfl hl.1 (Nat.le_of_ble_eq_true rfl) dL_setKind_5 (k1 := 0) (n1 := 0) rfl rfl ⟨Nat.zero_le _, Nat.zero_le _⟩ (fun H locs hP hD hS => ?_)
    refine lv_i2l (v := (r2).toInt64) hx hb dL_setKind_8 rfl ?_
    obtain ⟨h19, hf⟩ := gd_in hf
    refine va_last (D := g.1) (f := (vO.2.2 0)) hx hb hK hP hD hS 0 1 rfl rfl h19 dL_setKind_9 (fun H locs hP hD hS => ?_)
    obtain ⟨vO_20, evO_20⟩ : ∃ z, z = sJ vO 0 ((0 : Int32)).toNatClampNeg ((r2).toInt64) := ⟨_, rfl⟩
    have hf := bn_at hf evO_20
    have hP : va_P g.1 vwCl (cO g bO vO_20 ++ (cF g bF qF0 (bS 0) (bH 0 0) qF3 qF4 vF_3 ++ (cS g bS (bC 0) (bT 0) ++ (cC g bC vC_4 ++ (cT g bT vT ++ (cH g bH vH_5)))))) H := by rw [evO_20]; exact hP
    have hD : va_D A (cO g bO vO_20 ++ (cF g bF qF0 (bS 0) (bH 0 0) qF3 qF4 vF_3 ++ (cS g bS (bC 0) (bT 0) ++ (cC g bC vC_4 ++ (cT g bT vT ++ (cH g bH vH_5)))))) := by rw [evO_20]; exact hD
    refine lv_goto (tgt := 21) hx hb dL_setKind_10 (by decide) ?_
    refine lv_iconst (v := (0 : Int32)) hx hb dL_setKind_21 (by decide) ?_
    obtain ⟨e21, e22, e23, e24, e25⟩ := kp_5 hf
    rw [e22] at hP hD
    rw [e23] at hP hD
    rw [e24] at hP hD
    rw [e25] at hP hD
    exact vx_ret (W.widen (k := 1) (n := 6) (by omega) (by omega) (k_iret hx hb hr hlocks hK hP hD hS e21 dL_setKind_22))
  rw [hH, hlo] at hW
  exact hW
def f_L_see (vO : Vs) (vF : Vs) (vC : Vs) (vT : Vs) (nRT : Nat) (vRT : Vs) (vG : Vs) (vB : Vs) (vH : Hv) (x1 : Int32) (x2 : Int32) (x3 : Int32) : Option (Int32 × Vs × Vs × Vs × Vs × Vs × Vs × Hv) :=
  o8 (f_X7_see vF vC vT nRT vRT vG vB vH x1 x2 x3) (fun (c1 : Nat) (r2 : Int32) (vF_3 : Vs) (vT_4 : Vs) (vRT_5 : Vs) (vG_6 : Vs) (vB_7 : Vs) (vH_8 : Hv) => if c1 = 0 then (gd (inb (0 : Int32) 1) (bn (sJ vO 0 ((0 : Int32)).toNatClampNeg ((r2).toInt64)) (fun (vO_29 : Vs) => some ((0 : Int32), vO_29, vF_3, vT_4, vRT_5, vG_6, vB_7, vH_8)))) else if c1 = 2 then (some ((1 : Int32), vO, vF_3, vT_4, vRT_5, vG_6, vB_7, vH_8)) else if c1 = 1 then (some ((2 : Int32), vO, vF_3, vT_4, vRT_5, vG_6, vB_7, vH_8)) else none)
abbrev wsL_see : List Cond := .codeWith yL_see cL_see 6 (some .int) [(0, 12, 15, 22), (0, 12, 19, 13)] :: UW
abbrev rhL_see : Room := { frames := 11, cells := 1, slots := 6, locals := 204 }
set_option maxHeartbeats 4000000 in
set_option maxRecDepth 100000 in
theorem h_L_see (l : Launch) (hst : l.stackTraces = false) (g : Gx) (bO : Nat → Nat) (vO : Vs) (bF : Nat → Nat) (qF0 : Nat) (qF3 : Nat) (vF : Vs) (bS : Nat → Nat) (bC : Nat → Nat) (vC : Vs) (bT : Nat → Nat) (vT : Vs) (bRT : Nat → Nat) (nRT : Nat) (vRT : Vs) (bG : Nat → Nat) (vG : Vs) (bB : Nat → Nat) (vB : Vs) (bH : Nat → Nat → Nat) (vH : Hv) (x1 : Int32) (x2 : Int32) (x3 : Int32) (r : Int32) (vO1 : Vs) (vF1 : Vs) (vT1 : Vs) (vRT1 : Vs) (vG1 : Vs) (vB1 : Vs) (vH1 : Hv) (hf : f_L_see vO vF vC vT nRT vRT vG vB vH x1 x2 x3 = some (r, vO1, vF1, vT1, vRT1, vG1, vB1, vH1)) : CtH l yL_see wsL_see rhL_see g [.ref (bF 0), .int x1, .int x2, .int x3, .ref (bO 1)] (cO g bO vO ++ (cF g bF qF0 (bS 0) (bH 0 0) qF3 (bRT 0) vF ++ (cS g bS (bC 0) (bT 0) ++ (cC g bC vC ++ (cT g bT vT ++ (cR g bRT nRT (bG 0) (bB 0) vRT ++ (cL g bG vG ++ (cL g bB vB ++ (cH g bH vH))))))))) (cO g bO vO1 ++ (cF g bF qF0 (bS 0) (bH 0 0) qF3 (bRT 0) vF1 ++ (cS g bS (bC 0) (bT 0) ++ (cC g bC vC ++ (cT g bT vT1 ++ (cR g bRT nRT (bG 0) (bB 0) vRT1 ++ (cL g bG vG1 ++ (cL g bB vB1 ++ (cH g bH vH1))))))))) r 1 6 := by
  unfold CtH
  intro sz
  refine vx_ofWH (cc := cL_see) (maxL := 6) (ret := (some .int)) (hh := [(0, 12, 15, 22), (0, 12, 19, 13)]) (by decide) rfl ?_
  intro p e s m args below meth c s₁ B hml hv
  obtain ⟨rfl, hsz, hP, hK, hD0, hG⟩ := hv
  have hx := B.exec
  have hb := B.bytes
  have hr := B.returns
  have hts := atoms_spec (ws := wsL_see) B.pre
  have hT := vx_table (x := yL_see) B (hts _ List.mem_cons_self)
  have hown : s.vm.findClass RL = some m.cls := findClass_of_methodNamed B.named
  have hlocks := B.notSynchronized
  subst hsz
  have hD := hD0.self (sz := s.heap.size)
  generalize hAe : va_A (cO g bO vO ++ (cF g bF qF0 (bS 0) (bH 0 0) qF3 (bRT 0) vF ++ (cS g bS (bC 0) (bT 0) ++ (cC g bC vC ++ (cT g bT vT ++ (cR g bRT nRT (bG 0) (bB 0) vRT ++ (cL g bG vG ++ (cL g bB vB ++ (cH g bH vH))))))))) s.heap.size = A at hD hG ⊢
  have hA : ∀ q : Nat, s.heap.size ≤ q → A q := fun q h => by rw [← hAe]; exact Or.inr h
  clear hAe hD0
  have hS : va_S A s.heap s.heap [] := va_S.rf
  have hl := lv_entry ([.ref (bF 0), .int x1, .int x2, .int x3, .ref (bO 1)]) (n := 6) (Nat.le_of_ble_eq_true rfl)
  rw [lg_entry_eq]
  generalize (lg_sl ([.ref (bF 0), .int x1, .int x2, .int x3, .ref (bO 1)]) ++ List.replicate (6 - (lg_sl ([.ref (bF 0), .int x1, .int x2, .int x3, .ref (bO 1)])).length) Slot.unset).toArray = ls at hl ⊢
  have hl : lv_has ls 6 [(0, .ref (bF 0)), (1, .int x1), (2, .int x2), (3, .int x3), (4, .ref (bO 1))] := hl
  have htu : ∀ w ∈ UW, w.before _ s = true := fun w h => hts w (List.mem_cons_of_mem _ h)
  have k_4_124 := htu _ mw_4_124
  have k_3_170 := htu _ mw_3_170
  unfold f_L_see at hf
  obtain ⟨H, hH⟩ : ∃ z, z = s.heap := ⟨_, rfl⟩
  obtain ⟨locs, hlo⟩ : ∃ z : List Loc, z = [] := ⟨_, rfl⟩
  have hS : va_S A s.heap H locs := by rw [hH, hlo]; exact hS
  rw [← hH] at hP
  have hW : W p l e (headSpec wsL_see rhL_see).room s m ([.ref (bF 0), .int x1, .int x2, .int x3, .ref (bO 1)] : List Value).toArray below meth c H locs 0 0 (vx_MQ below (qI g A (cO g bO vO1 ++ (cF g bF qF0 (bS 0) (bH 0 0) qF3 (bRT 0) vF1 ++ (cS g bS (bC 0) (bT 0) ++ (cC g bC vC ++ (cT g bT vT1 ++ (cR g bRT nRT (bG 0) (bB 0) vRT1 ++ (cL g bG vG1 ++ (cL g bB vB1 ++ (cH g bH vH1))))))))) r) (xF A) ([.ref (bF 0), .int x1, .int x2, .int x3, .ref (bO 1)] : List Value).toArray s 1 6 A) (F0 m 0 ls []) := by
    refine lv_aload hx hb dL_see_0 (lv_at hl 4 rfl) ?_
    refine lv_iconst (v := (0 : Int32)) hx hb dL_see_2 (by decide) ?_
    refine lv_aload_n hx hb dL_see_3 rfl (lv_at hl 0 rfl) ?_
    refine lv_iload_n hx hb dL_see_4 rfl (lv_at hl 1 rfl) ?_
    refine lv_iload_n hx hb dL_see_5 rfl (lv_at hl 2 rfl) ?_
    refine lv_iload_n hx hb dL_see_6 rfl (lv_at hl 3 rfl) ?_
    obtain ⟨c1, r2, vF_3, vT_4, vRT_5, vG_6, vB_7, vH_8, hg9, hf⟩ := o8_at hf
    rcases Classical.em (¬ c1 = 0) with hc1 | hc1
    · have hf := it_f hf hc1
      rcases Classical.em (c1 = 2) with h10 | h10
      · have hf := it_t hf h10
        rw [h10] at hg9
        refine kh_viQ ⟨hx, hb, hml, hown, htu⟩ hK hP hD hS hA hG (t_X7_see l hst g bF qF0 qF3 vF bS bC vC bT vT bRT nRT vRT bG vG bB vB bH vH x1 x2 x3 r2 vF_3 vT_4 vRT_5 vG_6 vB_7 vH_8 2 hg9 (by decide)) (cwV 3 htu (gU_V mw_5_48 hcX7_see) rfl rfl rfl hdX7_see ⟨Nat.le_of_ble_eq_true rfl, Nat.le_of_ble_eq_true rfl⟩) (q0 := 1) (ci := 7) (fs := fcF bF qF0 (bS 0) (bH 0 0) qF3 (bRT 0) vF) (q := (RX7, TX7, 12)) rfl rfl rfl (wr := (cO g bO vO)) (w2 := cO g bO vO ++ (cF g bF qF0 (bS 0) (bH 0 0) qF3 (bRT 0) vF_3 ++ (cS g bS (bC 0) (bT 0) ++ (cC g bC vC ++ (cT g bT vT_4 ++ (cR g bRT nRT (bG 0) (bB 0) vRT_5 ++ (cL g bG vG_6 ++ (cL g bB vB_7 ++ (cH g bH vH_8))))))))) (kpc (fun P => by simp only [List.countP_append] <;> omega)) (kpc (fun P => by simp only [List.countP_append] <;> omega)) (As := [.int x1, .int x2, .int x3]) (rest := [.int (0 : Int32), .ref (bO 1)]) rfl rfl hl.1 (Nat.le_of_ble_eq_true rfl) dL_see_7 ⟨Nat.le_refl _, Nat.le_refl _⟩ (fun q9 ce H locs hP hD hS g1 g2 g3 => ?_)
        refine vx_catch (E := "java/lang/IndexOutOfBoundsException") (name := "java/lang/IndexOutOfBoundsException") hown [] (⟨0, 12, 15, 22⟩ : ExceptionTableEntry) [(⟨0, 12, 19, 13⟩ : ExceptionTableEntry)] hT (fun z hz => nomatch hz) (by decide) (by decide) k_4_124 (va_Nw.use rfl (hG.1.2.2.2.2.2.1 "java/lang/IndexOutOfBoundsException" (List.mem_of_getElem? (i := 1) rfl))) g1 g2 g3 ?_
        refine W.eq (g2 := F0 m 15 ls [.ref q9]) rfl ?_
        refine lv_astore (lv' := [(5, .ref q9), (0, .ref (bF 0)), (1, .int x1), (2, .int x2), (3, .int x3), (4, .ref (bO 1))]) hx hb dL_see_15 hl (by decide) rfl (fun ls hl => ?_)
        refine lv_iconst (v := (1 : Int32)) hx hb dL_see_17 (by decide) ?_
        obtain ⟨e11, e12, e13, e14, e15, e16, e17, e18⟩ := kp_8 hf
        rw [e12] at hP hD
        rw [e13] at hP hD
        rw [e14] at hP hD
        rw [e15] at hP hD
        rw [e16] at hP hD
        rw [e17] at hP hD
        rw [e18] at hP hD
        exact vx_ret (W.widen (k := 1) (n := 6) (by omega) (by omega) (k_iret hx hb hr hlocks hK hP hD hS e11 dL_see_18))
      have hf := it_f hf h10
      rcases Classical.em (c1 = 1) with h19 | h19
      · have hf := it_t hf h19
        rw [h19] at hg9
        refine kh_viQ ⟨hx, hb, hml, hown, htu⟩ hK hP hD hS hA hG (t_X7_see l hst g bF qF0 qF3 vF bS bC vC bT vT bRT nRT vRT bG vG bB vB bH vH x1 x2 x3 r2 vF_3 vT_4 vRT_5 vG_6 vB_7 vH_8 1 hg9 (by decide)) (cwV 3 htu (gU_V mw_5_48 hcX7_see) rfl rfl rfl hdX7_see ⟨Nat.le_of_ble_eq_true rfl, Nat.le_of_ble_eq_true rfl⟩) (q0 := 1) (ci := 7) (fs := fcF bF qF0 (bS 0) (bH 0 0) qF3 (bRT 0) vF) (q := (RX7, TX7, 12)) rfl rfl rfl (wr := (cO g bO vO)) (w2 := cO g bO vO ++ (cF g bF qF0 (bS 0) (bH 0 0) qF3 (bRT 0) vF_3 ++ (cS g bS (bC 0) (bT 0) ++ (cC g bC vC ++ (cT g bT vT_4 ++ (cR g bRT nRT (bG 0) (bB 0) vRT_5 ++ (cL g bG vG_6 ++ (cL g bB vB_7 ++ (cH g bH vH_8))))))))) (kpc (fun P => by simp only [List.countP_append] <;> omega)) (kpc (fun P => by simp only [List.countP_append] <;> omega)) (As := [.int x1, .int x2, .int x3]) (rest := [.int (0 : Int32), .ref (bO 1)]) rfl rfl hl.1 (Nat.le_of_ble_eq_true rfl) dL_see_7 ⟨Nat.le_refl _, Nat.le_refl _⟩ (fun q9 ce H locs hP hD hS g1 g2 g3 => ?_)
        refine vx_catch (E := "java/lang/IllegalArgumentException") (name := "java/lang/IllegalArgumentException") hown [(⟨0, 12, 15, 22⟩ : ExceptionTableEntry)] (⟨0, 12, 19, 13⟩ : ExceptionTableEntry) [] hT (fun z hz => by cases List.mem_singleton.mp hz; exact Or.inr ⟨by decide, "java/lang/IndexOutOfBoundsException", k_4_124, hG.1.2.2.2.2.2.2 ("java/lang/IllegalArgumentException", "java/lang/IndexOutOfBoundsException") (List.mem_of_getElem? (i := 0) rfl)⟩) (by decide) (by decide) k_3_170 (va_Nw.use rfl (hG.1.2.2.2.2.2.1 "java/lang/IllegalArgumentException" (List.mem_of_getElem? (i := 0) rfl))) g1 g2 g3 ?_
        refine W.eq (g2 := F0 m 19 ls [.ref q9]) rfl ?_
        refine lv_astore (lv' := [(5, .ref q9), (0, .ref (bF 0)), (1, .int x1), (2, .int x2), (3, .int x3), (4, .ref (bO 1))]) hx hb dL_see_19 hl (by decide) rfl (fun ls hl => ?_)
        refine lv_iconst (v := (2 : Int32)) hx hb dL_see_21 (by decide) ?_
        obtain ⟨e20, e21, e22, e23, e24, e25, e26, e27⟩ := kp_8 hf
        rw [e21] at hP hD
        rw [e22] at hP hD
        rw [e23] at hP hD
        rw [e24] at hP hD
        rw [e25] at hP hD
        rw [e26] at hP hD
        rw [e27] at hP hD
        exact vx_ret (W.widen (k := 1) (n := 6) (by omega) (by omega) (k_iret hx hb hr hlocks hK hP hD hS e20 dL_see_22))
      have hf := it_f hf h19
      cases hf
    have hc1 := Classical.not_not.mp hc1
    have hf := it_t hf hc1
    rw [hc1] at hg9
    refine k_viQ ⟨hx, hb, hml, hown, htu⟩ hK hP hD hS hA hG (c_X7_see l g bF qF0 qF3 vF bS bC vC bT vT bRT nRT vRT bG vG bB vB bH vH x1 x2 x3 r2 vF_3 vT_4 vRT_5 vG_6 vB_7 vH_8 hg9) (cwV 3 htu (gU_V mw_5_48 hcX7_see) rfl rfl rfl hdX7_see ⟨Nat.le_of_ble_eq_true rfl, Nat.le_of_ble_eq_true rfl⟩) (q0 := 1) (ci := 7) (fs := fcF bF qF0 (bS 0) (bH 0 0) qF3 (bRT 0) vF) (q := (RX7, TX7, 12)) rfl rfl rfl (wr := (cO g bO vO)) (w2 := cO g bO vO ++ (cF g bF qF0 (bS 0) (bH 0 0) qF3 (bRT 0) vF_3 ++ (cS g bS (bC 0) (bT 0) ++ (cC g bC vC ++ (cT g bT vT_4 ++ (cR g bRT nRT (bG 0) (bB 0) vRT_5 ++ (cL g bG vG_6 ++ (cL g bB vB_7 ++ (cH g bH vH_8))))))))) (kpc (fun P => by simp only [List.countP_append] <;> omega)) (kpc (fun P => by simp only [List.countP_append] <;> omega)) (As := [.int x1, .int x2, .int x3]) (rest := [.int (0 : Int32), .ref (bO 1)]) rfl rfl hl.1 (Nat.le_of_ble_eq_true rfl) dL_see_7 (k1 := 0) (n1 := 0) rfl rfl ⟨Nat.zero_le _, Nat.zero_le _⟩ (fun H locs hP hD hS => ?_)
    refine lv_i2l (v := (r2).toInt64) hx hb dL_see_10 rfl ?_
    obtain ⟨h28, hf⟩ := gd_in hf
    refine va_last (D := g.1) (f := (vO.2.2 0)) hx hb hK hP hD hS 0 1 rfl rfl h28 dL_see_11 (fun H locs hP hD hS => ?_)
    obtain ⟨vO_29, evO_29⟩ : ∃ z, z = sJ vO 0 ((0 : Int32)).toNatClampNeg ((r2).toInt64) := ⟨_, rfl⟩
    have hf := bn_at hf evO_29
    have hP : va_P g.1 vwCl (cO g bO vO_29 ++ (cF g bF qF0 (bS 0) (bH 0 0) qF3 (bRT 0) vF_3 ++ (cS g bS (bC 0) (bT 0) ++ (cC g bC vC ++ (cT g bT vT_4 ++ (cR g bRT nRT (bG 0) (bB 0) vRT_5 ++ (cL g bG vG_6 ++ (cL g bB vB_7 ++ (cH g bH vH_8))))))))) H := by rw [evO_29]; exact hP
    have hD : va_D A (cO g bO vO_29 ++ (cF g bF qF0 (bS 0) (bH 0 0) qF3 (bRT 0) vF_3 ++ (cS g bS (bC 0) (bT 0) ++ (cC g bC vC ++ (cT g bT vT_4 ++ (cR g bRT nRT (bG 0) (bB 0) vRT_5 ++ (cL g bG vG_6 ++ (cL g bB vB_7 ++ (cH g bH vH_8))))))))) := by rw [evO_29]; exact hD
    refine lv_goto (tgt := 23) hx hb dL_see_12 (by decide) ?_
    refine lv_iconst (v := (0 : Int32)) hx hb dL_see_23 (by decide) ?_
    obtain ⟨e30, e31, e32, e33, e34, e35, e36, e37⟩ := kp_8 hf
    rw [e31] at hP hD
    rw [e32] at hP hD
    rw [e33] at hP hD
    rw [e34] at hP hD
    rw [e35] at hP hD
    rw [e36] at hP hD
    rw [e37] at hP hD
    exact vx_ret (W.widen (k := 1) (n := 6) (by omega) (by omega) (k_iret hx hb hr hlocks hK hP hD hS e30 dL_see_24))
  rw [hH, hlo] at hW
  exact hW
