def f_X7_suspect (vF : Vs) (vC : Vs) (vT : Vs) (nRT : Nat) (vRT : Vs) (vG : Vs) (vB : Vs) (x1 : Int32) : Option (Nat × Int32 × Vs × Vs × Vs × Vs) :=
  o5 (f_X7_listFitting vF vC vT nRT vRT vG vB) (fun (r1 : Int32) (vF_2 : Vs) (vRT_3 : Vs) (vG_4 : Vs) (vB_5 : Vs) => jn (some (3, (0 : Int32), vF_2, vRT_3, vG_4, vB_5)) (fun k7 => if x1 < 0 then k7 else if x1 < r1 then gd (inb x1 57) (some (0, (vF_2.2.1 7 (x1).toNatClampNeg), vF_2, vRT_3, vG_4, vB_5)) else k7))
abbrev wsX7_suspect : List Cond := .code yX7_suspect cX7_suspect 3 (some .int) :: UW
abbrev rmX7_suspect : Room := { frames := 5, cells := 0, slots := 0, locals := 127 }
set_option maxHeartbeats 4000000 in
set_option maxRecDepth 100000 in
theorem c_X7_suspect (l : Launch) (g : Gx) (bF : Nat → Nat) (qF0 : Nat) (qF2 : Nat) (qF3 : Nat) (vF : Vs) (bS : Nat → Nat) (bC : Nat → Nat) (vC : Vs) (bT : Nat → Nat) (vT : Vs) (bRT : Nat → Nat) (nRT : Nat) (vRT : Vs) (bG : Nat → Nat) (vG : Vs) (bB : Nat → Nat) (vB : Vs) (x1 : Int32) (r : Int32) (vF1 : Vs) (vRT1 : Vs) (vG1 : Vs) (vB1 : Vs) (hf : f_X7_suspect vF vC vT nRT vRT vG vB x1 = some (0, r, vF1, vRT1, vG1, vB1)) : CtI l yX7_suspect wsX7_suspect rmX7_suspect g [.ref (bF 0), .int x1] (cF g bF qF0 (bS 0) qF2 qF3 (bRT 0) vF ++ (cS g bS (bC 0) (bT 0) ++ (cC g bC vC ++ (cT g bT vT ++ (cR g bRT nRT (bG 0) (bB 0) vRT ++ (cL g bG vG ++ (cL g bB vB))))))) (cF g bF qF0 (bS 0) qF2 qF3 (bRT 0) vF1 ++ (cS g bS (bC 0) (bT 0) ++ (cC g bC vC ++ (cT g bT vT ++ (cR g bRT nRT (bG 0) (bB 0) vRT1 ++ (cL g bG vG1 ++ (cL g bB vB1))))))) r 0 0 := by
  unfold CtI
  intro sz
  refine Met.ofW (cc := cX7_suspect) (maxL := 3) (ret := (some .int)) (by decide) rfl ?_
  intro p e s m args below meth c s₁ B hml hv
  obtain ⟨rfl, hsz, hP, hK, hD0, hG⟩ := hv
  have hx := B.exec
  have hb := B.bytes
  have hr := B.returns
  have hts := atoms_spec (ws := wsX7_suspect) B.pre
  have hown : s.vm.findClass RX7 = some m.cls := findClass_of_methodNamed B.named
  have hlocks := B.notSynchronized
  subst hsz
  have hD := hD0.self (sz := s.heap.size)
  generalize hAe : va_A (cF g bF qF0 (bS 0) qF2 qF3 (bRT 0) vF ++ (cS g bS (bC 0) (bT 0) ++ (cC g bC vC ++ (cT g bT vT ++ (cR g bRT nRT (bG 0) (bB 0) vRT ++ (cL g bG vG ++ (cL g bB vB))))))) s.heap.size = A at hD hG ⊢
  have hA : ∀ q : Nat, s.heap.size ≤ q → A q := fun q h => by rw [← hAe]; exact Or.inr h
  clear hAe hD0
  have hS : va_S A s.heap s.heap [] := va_S.rf
  have hl := lv_entry ([.ref (bF 0), .int x1]) (n := 3) (Nat.le_of_ble_eq_true rfl)
  rw [lg_entry_eq]
  generalize (lg_sl ([.ref (bF 0), .int x1]) ++ List.replicate (3 - (lg_sl ([.ref (bF 0), .int x1])).length) Slot.unset).toArray = ls at hl ⊢
  have hl : lv_has ls 3 [(0, .ref (bF 0)), (1, .int x1)] := hl
  have htu : ∀ w ∈ UW, w.before _ s = true := fun w h => hts w (List.mem_cons_of_mem _ h)
  have k_2_25 := htu _ mw_2_25
  unfold f_X7_suspect at hf
  obtain ⟨H, hH⟩ : ∃ z, z = s.heap := ⟨_, rfl⟩
  obtain ⟨locs, hlo⟩ : ∃ z : List Loc, z = [] := ⟨_, rfl⟩
  have hS : va_S A s.heap H locs := by rw [hH, hlo]; exact hS
  rw [← hH] at hP
  have hW : W p l e (headSpec wsX7_suspect rmX7_suspect).room s m ([.ref (bF 0), .int x1] : List Value).toArray below meth c H locs 0 0 (MQ below (qI g A (cF g bF qF0 (bS 0) qF2 qF3 (bRT 0) vF1 ++ (cS g bS (bC 0) (bT 0) ++ (cC g bC vC ++ (cT g bT vT ++ (cR g bRT nRT (bG 0) (bB 0) vRT1 ++ (cL g bG vG1 ++ (cL g bB vB1))))))) r) ([.ref (bF 0), .int x1] : List Value).toArray s 0 0 A) (F0 m 0 ls []) := by
    refine lv_aload_n hx hb dX7_suspect_0 rfl (lv_at hl 0 rfl) ?_
    obtain ⟨r1, vF_2, vRT_3, vG_4, vB_5, hg6, hf⟩ := o5_at hf
    refine k_viW ⟨hx, hb, hml, hown, htu⟩ hK hP hD hS hA hG (c_X7_listFitting l g bF qF0 qF2 qF3 vF bS bC vC bT vT bRT nRT vRT bG vG bB vB r1 vF_2 vRT_3 vG_4 vB_5 hg6) (cwV 0 htu (gU_V mw_2_184 hcX7_listFitting) rfl rfl rfl hdX7_listFitting ⟨Nat.le_of_ble_eq_true rfl, Nat.le_of_ble_eq_true rfl⟩) (q0 := 0) (ci := 7) (fs := fcF bF qF0 (bS 0) qF2 qF3 (bRT 0) vF) (q := (RX7, TX7, 12)) rfl rfl rfl (As := []) (rest := []) rfl rfl hl.1 (Nat.le_of_ble_eq_true rfl) dX7_suspect_1 (k1 := 0) (n1 := 0) rfl rfl ⟨Nat.zero_le _, Nat.zero_le _⟩ (fun H locs hP hD hS => ?_)
    refine lv_istore_n (lv' := [(2, .int r1), (0, .ref (bF 0)), (1, .int x1)]) hx hb dX7_suspect_4 rfl hl (by decide) rfl (fun ls hl => ?_)
    refine lv_iload_n hx hb dX7_suspect_5 rfl (lv_at hl 2 rfl) ?_
    obtain ⟨k7, hk9, hf⟩ := jn_at hf
    have hJ8 : k7 = some (0, r, vF1, vRT1, vG1, vB1) → ∀ (H : Heap) (locs : List Loc), va_P g.1 vwCl (cF g bF qF0 (bS 0) qF2 qF3 (bRT 0) vF_2 ++ (cS g bS (bC 0) (bT 0) ++ (cC g bC vC ++ (cT g bT vT ++ (cR g bRT nRT (bG 0) (bB 0) vRT_3 ++ (cL g bG vG_4 ++ (cL g bB vB_5))))))) H → va_D A (cF g bF qF0 (bS 0) qF2 qF3 (bRT 0) vF_2 ++ (cS g bS (bC 0) (bT 0) ++ (cC g bC vC ++ (cT g bT vT ++ (cR g bRT nRT (bG 0) (bB 0) vRT_3 ++ (cL g bG vG_4 ++ (cL g bB vB_5))))))) → va_S A s.heap H locs → ∀ ls : Array Slot, lv_has ls 3 [] → W p l e (headSpec wsX7_suspect rmX7_suspect).room s m ([.ref (bF 0), .int x1] : List Value).toArray below meth c H locs 0 0 (MQ below (qI g A (cF g bF qF0 (bS 0) qF2 qF3 (bRT 0) vF1 ++ (cS g bS (bC 0) (bT 0) ++ (cC g bC vC ++ (cT g bT vT ++ (cR g bRT nRT (bG 0) (bB 0) vRT1 ++ (cL g bG vG1 ++ (cL g bB vB1))))))) r) ([.ref (bF 0), .int x1] : List Value).toArray s 0 0 A) (F0 m 14 ls []) := by
      intro hf H locs hP hD hS ls hl
      rw [hk9] at hf
      clear hk9
      exact absurd (kp_6 hf).1 (by decide)
    refine lv_if_lt (tgt := 14) hx hb dX7_suspect_6 (by decide) (fun c10 => ?_) (fun c10 => ?_)
    · have hf := it_t hf c10
      exact hJ8 hf H locs hP hD hS _ (lv_sub hl [] rfl)
    · have hf := it_f hf c10
      refine lv_iload_n hx hb dX7_suspect_9 rfl (lv_at hl 2 rfl) ?_
      refine lv_iload_n hx hb dX7_suspect_10 rfl (lv_at hl 0 rfl) ?_
      refine lv_icmp_lt (tgt := 24) hx hb dX7_suspect_11 (by decide) (fun c11 => ?_) (fun c11 => ?_)
      · have hf := it_t hf c11
        refine lv_aload_n hx hb dX7_suspect_24 rfl (lv_at hl 1 rfl) ?_
        refine va_get (D := g.1) (ci := 7) (fs := fcF bF qF0 (bS 0) qF2 qF3 (bRT 0) vF_2) (v := .ref (bF 8)) (C := RX7) (T := TX7) (N := 12) hx hb htu hinX7 hown hK hP 0 rfl rfl 7 (by decide) k_2_25 (fun _ h9 => h9) rfl dX7_suspect_25 ?_
        refine lv_iload_n hx hb dX7_suspect_28 rfl (lv_at hl 2 rfl) ?_
        obtain ⟨h12, hf⟩ := gd_in hf
        refine va_iald (D := g.1) (f := (vF_2.2.1 7)) hx hb hK hP 1 0 rfl rfl h12 dX7_suspect_29 ?_
        obtain ⟨e13, e14, e15, e16, e17, e18⟩ := kp_6 hf
        rw [e15] at hP hD
        rw [e16] at hP hD
        rw [e17] at hP hD
        rw [e18] at hP hD
        exact k_iret hx hb hr hlocks hK hP hD hS e14 dX7_suspect_30
      · have hf := it_f hf c11
        exact hJ8 hf H locs hP hD hS _ (lv_sub hl [] rfl)
  rw [hH, hlo] at hW
  exact hW
abbrev rtX7_suspect : Room := { frames := 8, cells := 1, slots := 6, locals := 127 }
set_option maxHeartbeats 4000000 in
set_option maxRecDepth 100000 in
theorem t_X7_suspect (l : Launch) (hst : l.stackTraces = false) (g : Gx) (bF : Nat → Nat) (qF0 : Nat) (qF2 : Nat) (qF3 : Nat) (vF : Vs) (bS : Nat → Nat) (bC : Nat → Nat) (vC : Vs) (bT : Nat → Nat) (vT : Vs) (bRT : Nat → Nat) (nRT : Nat) (vRT : Vs) (bG : Nat → Nat) (vG : Vs) (bB : Nat → Nat) (vB : Vs) (x1 : Int32) (r : Int32) (vF1 : Vs) (vRT1 : Vs) (vG1 : Vs) (vB1 : Vs) (ek : Nat) (hf : f_X7_suspect vF vC vT nRT vRT vG vB x1 = some (ek, r, vF1, vRT1, vG1, vB1)) (hek : ¬ ek = 0) : CtXI l yX7_suspect wsX7_suspect rtX7_suspect g [.ref (bF 0), .int x1] (cF g bF qF0 (bS 0) qF2 qF3 (bRT 0) vF ++ (cS g bS (bC 0) (bT 0) ++ (cC g bC vC ++ (cT g bT vT ++ (cR g bRT nRT (bG 0) (bB 0) vRT ++ (cL g bG vG ++ (cL g bB vB))))))) (cF g bF qF0 (bS 0) qF2 qF3 (bRT 0) vF1 ++ (cS g bS (bC 0) (bT 0) ++ (cC g bC vC ++ (cT g bT vT ++ (cR g bRT nRT (bG 0) (bB 0) vRT1 ++ (cL g bG vG1 ++ (cL g bB vB1))))))) (exN ek) 1 6 := by
  unfold CtXI
  intro sz
  refine vx_ofW (cc := cX7_suspect) (maxL := 3) (ret := (some .int)) (by decide) rfl ?_
  intro p e s m args below meth c s₁ B hml hT hv
  obtain ⟨rfl, hsz, hP, hK, hD0, hG⟩ := hv
  have hx := B.exec
  have hb := B.bytes
  have hr := B.returns
  have hts := atoms_spec (ws := wsX7_suspect) B.pre
  have hown : s.vm.findClass RX7 = some m.cls := findClass_of_methodNamed B.named
  have hlocks := B.notSynchronized
  subst hsz
  have hD := hD0.self (sz := s.heap.size)
  generalize hAe : va_A (cF g bF qF0 (bS 0) qF2 qF3 (bRT 0) vF ++ (cS g bS (bC 0) (bT 0) ++ (cC g bC vC ++ (cT g bT vT ++ (cR g bRT nRT (bG 0) (bB 0) vRT ++ (cL g bG vG ++ (cL g bB vB))))))) s.heap.size = A at hD hG ⊢
  have hA : ∀ q : Nat, s.heap.size ≤ q → A q := fun q h => by rw [← hAe]; exact Or.inr h
  clear hAe hD0
  have hS : va_S A s.heap s.heap [] := va_S.rf
  have hl := lv_entry ([.ref (bF 0), .int x1]) (n := 3) (Nat.le_of_ble_eq_true rfl)
  rw [lg_entry_eq]
  generalize (lg_sl ([.ref (bF 0), .int x1]) ++ List.replicate (3 - (lg_sl ([.ref (bF 0), .int x1])).length) Slot.unset).toArray = ls at hl ⊢
  have hl : lv_has ls 3 [(0, .ref (bF 0)), (1, .int x1)] := hl
  have htu : ∀ w ∈ UW, w.before _ s = true := fun w h => hts w (List.mem_cons_of_mem _ h)
  have k_4_134 := htu _ mw_4_134
  have k_1_23 := htu _ mw_1_23
  have k_2_25 := htu _ mw_2_25
  unfold f_X7_suspect at hf
  obtain ⟨H, hH⟩ : ∃ z, z = s.heap := ⟨_, rfl⟩
  obtain ⟨locs, hlo⟩ : ∃ z : List Loc, z = [] := ⟨_, rfl⟩
  have hS : va_S A s.heap H locs := by rw [hH, hlo]; exact hS
  rw [← hH] at hP
  have hW : W p l e (headSpec wsX7_suspect rtX7_suspect).room s m ([.ref (bF 0), .int x1] : List Value).toArray below meth c H locs 0 0 (vx_MQ below (nI0 A) (xE g A (cF g bF qF0 (bS 0) qF2 qF3 (bRT 0) vF1 ++ (cS g bS (bC 0) (bT 0) ++ (cC g bC vC ++ (cT g bT vT ++ (cR g bRT nRT (bG 0) (bB 0) vRT1 ++ (cL g bG vG1 ++ (cL g bB vB1))))))) (exN ek)) ([.ref (bF 0), .int x1] : List Value).toArray s 1 6 A) (F0 m 0 ls []) := by
    refine lv_aload_n hx hb dX7_suspect_0 rfl (lv_at hl 0 rfl) ?_
    obtain ⟨r1, vF_2, vRT_3, vG_4, vB_5, hg6, hf⟩ := o5_at hf
    refine k_viW ⟨hx, hb, hml, hown, htu⟩ hK hP hD hS hA hG (c_X7_listFitting l g bF qF0 qF2 qF3 vF bS bC vC bT vT bRT nRT vRT bG vG bB vB r1 vF_2 vRT_3 vG_4 vB_5 hg6) (cwV 0 htu (gU_V mw_2_184 hcX7_listFitting) rfl rfl rfl hdX7_listFitting ⟨Nat.le_of_ble_eq_true rfl, Nat.le_of_ble_eq_true rfl⟩) (q0 := 0) (ci := 7) (fs := fcF bF qF0 (bS 0) qF2 qF3 (bRT 0) vF) (q := (RX7, TX7, 12)) rfl rfl rfl (As := []) (rest := []) rfl rfl hl.1 (Nat.le_of_ble_eq_true rfl) dX7_suspect_1 (k1 := 0) (n1 := 0) rfl rfl ⟨Nat.zero_le _, Nat.zero_le _⟩ (fun H locs hP hD hS => ?_)
    refine lv_istore_n (lv' := [(2, .int r1), (0, .ref (bF 0)), (1, .int x1)]) hx hb dX7_suspect_4 rfl hl (by decide) rfl (fun ls hl => ?_)
    refine lv_iload_n hx hb dX7_suspect_5 rfl (lv_at hl 2 rfl) ?_
    obtain ⟨k7, hk9, hf⟩ := jn_at hf
    have hJ8 : k7 = some (ek, r, vF1, vRT1, vG1, vB1) → ∀ (H : Heap) (locs : List Loc), va_P g.1 vwCl (cF g bF qF0 (bS 0) qF2 qF3 (bRT 0) vF_2 ++ (cS g bS (bC 0) (bT 0) ++ (cC g bC vC ++ (cT g bT vT ++ (cR g bRT nRT (bG 0) (bB 0) vRT_3 ++ (cL g bG vG_4 ++ (cL g bB vB_5))))))) H → va_D A (cF g bF qF0 (bS 0) qF2 qF3 (bRT 0) vF_2 ++ (cS g bS (bC 0) (bT 0) ++ (cC g bC vC ++ (cT g bT vT ++ (cR g bRT nRT (bG 0) (bB 0) vRT_3 ++ (cL g bG vG_4 ++ (cL g bB vB_5))))))) → va_S A s.heap H locs → ∀ ls : Array Slot, lv_has ls 3 [] → W p l e (headSpec wsX7_suspect rtX7_suspect).room s m ([.ref (bF 0), .int x1] : List Value).toArray below meth c H locs 0 0 (vx_MQ below (nI0 A) (xE g A (cF g bF qF0 (bS 0) qF2 qF3 (bRT 0) vF1 ++ (cS g bS (bC 0) (bT 0) ++ (cC g bC vC ++ (cT g bT vT ++ (cR g bRT nRT (bG 0) (bB 0) vRT1 ++ (cL g bG vG1 ++ (cL g bB vB1))))))) (exN ek)) ([.ref (bF 0), .int x1] : List Value).toArray s 1 6 A) (F0 m 14 ls []) := by
      intro hf H locs hP hD hS ls hl
      rw [hk9] at hf
      clear hk9
      obtain ⟨rfl, rfl, rfl, rfl, rfl, rfl⟩ := kp_6 hf
      exact k_throwN (text := "suspect") (sa := adK g 18) hx hb hst hown htu hG hK hP hD (hG.1.1 ("FaultTests", 232, "suspect", 18) (List.mem_of_getElem? (i := 2) rfl)) hS (hl.1.trans hml.symm) dX7_suspect_14 dX7_suspect_17 dX7_suspect_18 dX7_suspect_20 dX7_suspect_23 (fun z hz => (hT z hz).elim) (Nat.le_of_ble_eq_true rfl) (Nat.le_of_ble_eq_true rfl) (Nat.le_refl _) (Nat.le_refl _) hlocks
    refine lv_if_lt (tgt := 14) hx hb dX7_suspect_6 (by decide) (fun c10 => ?_) (fun c10 => ?_)
    · have hf := it_t hf c10
      exact hJ8 hf H locs hP hD hS _ (lv_sub hl [] rfl)
    · have hf := it_f hf c10
      refine lv_iload_n hx hb dX7_suspect_9 rfl (lv_at hl 2 rfl) ?_
      refine lv_iload_n hx hb dX7_suspect_10 rfl (lv_at hl 0 rfl) ?_
      refine lv_icmp_lt (tgt := 24) hx hb dX7_suspect_11 (by decide) (fun c11 => ?_) (fun c11 => ?_)
      · have hf := it_t hf c11
        refine lv_aload_n hx hb dX7_suspect_24 rfl (lv_at hl 1 rfl) ?_
        refine va_get (D := g.1) (ci := 7) (fs := fcF bF qF0 (bS 0) qF2 qF3 (bRT 0) vF_2) (v := .ref (bF 8)) (C := RX7) (T := TX7) (N := 12) hx hb htu hinX7 hown hK hP 0 rfl rfl 7 (by decide) k_2_25 (fun _ h9 => h9) rfl dX7_suspect_25 ?_
        refine lv_iload_n hx hb dX7_suspect_28 rfl (lv_at hl 2 rfl) ?_
        obtain ⟨h12, hf⟩ := gd_in hf
        refine va_iald (D := g.1) (f := (vF_2.2.1 7)) hx hb hK hP 1 0 rfl rfl h12 dX7_suspect_29 ?_
        exact absurd (kp_6 hf).1.symm hek
      · have hf := it_f hf c11
        exact hJ8 hf H locs hP hD hS _ (lv_sub hl [] rfl)
  rw [hH, hlo] at hW
  exact hW
def f_X7_nextTest_L19 (vC : Vs) (vT : Vs) (nRT : Nat) (r1 : Int32) (vRT_3 : Vs) (vG_4 : Vs) (vB_5 : Vs) (self12 : Int32 → Int32 → Int32 → Vs → Option (Int32 × Vs × Vs × Vs × Vs)) (x2_8 : Int32) (x3_9 : Int32) (x4_10 : Int32) (vF_11 : Vs) : Option (Int32 × Vs × Vs × Vs × Vs) :=
  if (vT.1 0) ≤ x4_10 then some (x2_8, vF_11, vRT_3, vG_4, vB_5) else o2 (f_X7_greatestPart vF_11 vC nRT vRT_3 x4_10 r1) (fun (r21 : Int32) (vF_22 : Vs) => jn (fun (x2_24 : Int32) (x3_25 : Int32) => self12 x2_24 x3_25 (x4_10 + (1 : Int32)) vF_22) (fun k26 => jn (k26 x4_10 r21) (fun k29 => if x2_8 < 0 then k29 else if x3_9 ≤ r21 then k26 x2_8 x3_9 else k29)))
def f_X7_nextTest (vF : Vs) (vC : Vs) (vT : Vs) (nRT : Nat) (vRT : Vs) (vG : Vs) (vB : Vs) : Option (Int32 × Vs × Vs × Vs × Vs) :=
  o5 (f_X7_listFitting vF vC vT nRT vRT vG vB) (fun (r1 : Int32) (vF_2 : Vs) (vRT_3 : Vs) (vG_4 : Vs) (vB_5 : Vs) => if (2 : Int32) ≤ r1 then lp (f_X7_nextTest_L19 vC vT nRT r1 vRT_3 vG_4 vB_5) (fun _ _ _ _ => none) FU (-1 : Int32) (0 : Int32) (0 : Int32) vF_2 else some ((-1 : Int32), vF_2, vRT_3, vG_4, vB_5))
abbrev wsX7_nextTest : List Cond := .code yX7_nextTest cX7_nextTest 6 (some .int) :: UW
abbrev rmX7_nextTest : Room := { frames := 5, cells := 0, slots := 0, locals := 127 }
set_option maxHeartbeats 4000000 in
set_option maxRecDepth 100000 in
theorem c_X7_nextTest (l : Launch) (g : Gx) (bF : Nat → Nat) (qF0 : Nat) (qF2 : Nat) (qF3 : Nat) (vF : Vs) (bS : Nat → Nat) (bC : Nat → Nat) (vC : Vs) (bT : Nat → Nat) (vT : Vs) (bRT : Nat → Nat) (nRT : Nat) (vRT : Vs) (bG : Nat → Nat) (vG : Vs) (bB : Nat → Nat) (vB : Vs) (r : Int32) (vF1 : Vs) (vRT1 : Vs) (vG1 : Vs) (vB1 : Vs) (hf : f_X7_nextTest vF vC vT nRT vRT vG vB = some (r, vF1, vRT1, vG1, vB1)) : CtI l yX7_nextTest wsX7_nextTest rmX7_nextTest g [.ref (bF 0)] (cF g bF qF0 (bS 0) qF2 qF3 (bRT 0) vF ++ (cS g bS (bC 0) (bT 0) ++ (cC g bC vC ++ (cT g bT vT ++ (cR g bRT nRT (bG 0) (bB 0) vRT ++ (cL g bG vG ++ (cL g bB vB))))))) (cF g bF qF0 (bS 0) qF2 qF3 (bRT 0) vF1 ++ (cS g bS (bC 0) (bT 0) ++ (cC g bC vC ++ (cT g bT vT ++ (cR g bRT nRT (bG 0) (bB 0) vRT1 ++ (cL g bG vG1 ++ (cL g bB vB1))))))) r 0 0 := by
  unfold CtI
  intro sz
  refine Met.ofW (cc := cX7_nextTest) (maxL := 6) (ret := (some .int)) (by decide) rfl ?_
  intro p e s m args below meth c s₁ B hml hv
  obtain ⟨rfl, hsz, hP, hK, hD0, hG⟩ := hv
  have hx := B.exec
  have hb := B.bytes
  have hr := B.returns
  have hts := atoms_spec (ws := wsX7_nextTest) B.pre
  have hown : s.vm.findClass RX7 = some m.cls := findClass_of_methodNamed B.named
  have hlocks := B.notSynchronized
  subst hsz
  have hD := hD0.self (sz := s.heap.size)
  generalize hAe : va_A (cF g bF qF0 (bS 0) qF2 qF3 (bRT 0) vF ++ (cS g bS (bC 0) (bT 0) ++ (cC g bC vC ++ (cT g bT vT ++ (cR g bRT nRT (bG 0) (bB 0) vRT ++ (cL g bG vG ++ (cL g bB vB))))))) s.heap.size = A at hD hG ⊢
  have hA : ∀ q : Nat, s.heap.size ≤ q → A q := fun q h => by rw [← hAe]; exact Or.inr h
  clear hAe hD0
  have hS : va_S A s.heap s.heap [] := va_S.rf
  have hl := lv_entry ([.ref (bF 0)]) (n := 6) (Nat.le_of_ble_eq_true rfl)
  rw [lg_entry_eq]
  generalize (lg_sl ([.ref (bF 0)]) ++ List.replicate (6 - (lg_sl ([.ref (bF 0)])).length) Slot.unset).toArray = ls at hl ⊢
  have hl : lv_has ls 6 [(0, .ref (bF 0))] := hl
  have htu : ∀ w ∈ UW, w.before _ s = true := fun w h => hts w (List.mem_cons_of_mem _ h)
  have k_2_19 := htu _ mw_2_19
  have k_1_153 := htu _ mw_1_153
  have k_1_129 := htu _ mw_1_129
  unfold f_X7_nextTest at hf
  obtain ⟨H, hH⟩ : ∃ z, z = s.heap := ⟨_, rfl⟩
  obtain ⟨locs, hlo⟩ : ∃ z : List Loc, z = [] := ⟨_, rfl⟩
  have hS : va_S A s.heap H locs := by rw [hH, hlo]; exact hS
  rw [← hH] at hP
  have hW : W p l e (headSpec wsX7_nextTest rmX7_nextTest).room s m ([.ref (bF 0)] : List Value).toArray below meth c H locs 0 0 (MQ below (qI g A (cF g bF qF0 (bS 0) qF2 qF3 (bRT 0) vF1 ++ (cS g bS (bC 0) (bT 0) ++ (cC g bC vC ++ (cT g bT vT ++ (cR g bRT nRT (bG 0) (bB 0) vRT1 ++ (cL g bG vG1 ++ (cL g bB vB1))))))) r) ([.ref (bF 0)] : List Value).toArray s 0 0 A) (F0 m 0 ls []) := by
    refine lv_aload_n hx hb dX7_nextTest_0 rfl (lv_at hl 0 rfl) ?_
    obtain ⟨r1, vF_2, vRT_3, vG_4, vB_5, hg6, hf⟩ := o5_at hf
    refine k_viW ⟨hx, hb, hml, hown, htu⟩ hK hP hD hS hA hG (c_X7_listFitting l g bF qF0 qF2 qF3 vF bS bC vC bT vT bRT nRT vRT bG vG bB vB r1 vF_2 vRT_3 vG_4 vB_5 hg6) (cwV 0 htu (gU_V mw_2_184 hcX7_listFitting) rfl rfl rfl hdX7_listFitting ⟨Nat.le_of_ble_eq_true rfl, Nat.le_of_ble_eq_true rfl⟩) (q0 := 0) (ci := 7) (fs := fcF bF qF0 (bS 0) qF2 qF3 (bRT 0) vF) (q := (RX7, TX7, 12)) rfl rfl rfl (As := []) (rest := []) rfl rfl hl.1 (Nat.le_of_ble_eq_true rfl) dX7_nextTest_1 (k1 := 0) (n1 := 0) rfl rfl ⟨Nat.zero_le _, Nat.zero_le _⟩ (fun H locs hP hD hS => ?_)
    refine lv_istore_n (lv' := [(1, .int r1), (0, .ref (bF 0))]) hx hb dX7_nextTest_4 rfl hl (by decide) rfl (fun ls hl => ?_)
    refine lv_iload_n hx hb dX7_nextTest_5 rfl (lv_at hl 0 rfl) ?_
    refine lv_iconst (v := (2 : Int32)) hx hb dX7_nextTest_6 (by decide) ?_
    refine lv_icmp_ge (tgt := 12) hx hb dX7_nextTest_7 (by decide) (fun c7 => ?_) (fun c7 => ?_)
    · have hf := it_t hf c7
      refine lv_iconst (v := (-1 : Int32)) hx hb dX7_nextTest_12 (by decide) ?_
      refine lv_istore_n (lv' := [(2, .int (-1 : Int32)), (1, .int r1), (0, .ref (bF 0))]) hx hb dX7_nextTest_13 rfl hl (by decide) rfl (fun ls hl => ?_)
      refine lv_iconst (v := (0 : Int32)) hx hb dX7_nextTest_14 (by decide) ?_
      refine lv_istore_n (lv' := [(3, .int (0 : Int32)), (2, .int (-1 : Int32)), (1, .int r1), (0, .ref (bF 0))]) hx hb dX7_nextTest_15 rfl hl (by decide) rfl (fun ls hl => ?_)
      refine lv_iconst (v := (0 : Int32)) hx hb dX7_nextTest_16 (by decide) ?_
      refine lv_istore (lv' := [(4, .int (0 : Int32)), (3, .int (0 : Int32)), (2, .int (-1 : Int32)), (1, .int r1), (0, .ref (bF 0))]) hx hb dX7_nextTest_17 hl (by decide) rfl (fun ls hl => ?_)
      have hL13 : ∀ (x2_8 : Int32) (x3_9 : Int32) (x4_10 : Int32) (vF_11 : Vs), lp (f_X7_nextTest_L19 vC vT nRT r1 vRT_3 vG_4 vB_5) (fun _ _ _ _ => none) FU x2_8 x3_9 x4_10 vF_11 = some (r, vF1, vRT1, vG1, vB1) → ∀ (H : Heap) (locs : List Loc), va_P g.1 vwCl (cF g bF qF0 (bS 0) qF2 qF3 (bRT 0) vF_11 ++ (cS g bS (bC 0) (bT 0) ++ (cC g bC vC ++ (cT g bT vT ++ (cR g bRT nRT (bG 0) (bB 0) vRT_3 ++ (cL g bG vG_4 ++ (cL g bB vB_5))))))) H → va_D A (cF g bF qF0 (bS 0) qF2 qF3 (bRT 0) vF_11 ++ (cS g bS (bC 0) (bT 0) ++ (cC g bC vC ++ (cT g bT vT ++ (cR g bRT nRT (bG 0) (bB 0) vRT_3 ++ (cL g bG vG_4 ++ (cL g bB vB_5))))))) → va_S A s.heap H locs → ∀ ls : Array Slot, lv_has ls 6 [(0, .ref (bF 0)), (1, .int r1), (2, .int x2_8), (3, .int x3_9), (4, .int x4_10)] → W p l e (headSpec wsX7_nextTest rmX7_nextTest).room s m ([.ref (bF 0)] : List Value).toArray below meth c H locs 0 0 (MQ below (qI g A (cF g bF qF0 (bS 0) qF2 qF3 (bRT 0) vF1 ++ (cS g bS (bC 0) (bT 0) ++ (cC g bC vC ++ (cT g bT vT ++ (cR g bRT nRT (bG 0) (bB 0) vRT1 ++ (cL g bG vG1 ++ (cL g bB vB1))))))) r) ([.ref (bF 0)] : List Value).toArray s 0 0 A) (F0 m 19 ls []) := by
        refine lp_ind (T := Int32 → Int32 → Int32 → Vs → Option (Int32 × Vs × Vs × Vs × Vs)) (fun self12 => ∀ (x2_8 : Int32) (x3_9 : Int32) (x4_10 : Int32) (vF_11 : Vs), self12 x2_8 x3_9 x4_10 vF_11 = some (r, vF1, vRT1, vG1, vB1) → ∀ (H : Heap) (locs : List Loc), va_P g.1 vwCl (cF g bF qF0 (bS 0) qF2 qF3 (bRT 0) vF_11 ++ (cS g bS (bC 0) (bT 0) ++ (cC g bC vC ++ (cT g bT vT ++ (cR g bRT nRT (bG 0) (bB 0) vRT_3 ++ (cL g bG vG_4 ++ (cL g bB vB_5))))))) H → va_D A (cF g bF qF0 (bS 0) qF2 qF3 (bRT 0) vF_11 ++ (cS g bS (bC 0) (bT 0) ++ (cC g bC vC ++ (cT g bT vT ++ (cR g bRT nRT (bG 0) (bB 0) vRT_3 ++ (cL g bG vG_4 ++ (cL g bB vB_5))))))) → va_S A s.heap H locs → ∀ ls : Array Slot, lv_has ls 6 [(0, .ref (bF 0)), (1, .int r1), (2, .int x2_8), (3, .int x3_9), (4, .int x4_10)] → W p l e (headSpec wsX7_nextTest rmX7_nextTest).room s m ([.ref (bF 0)] : List Value).toArray below meth c H locs 0 0 (MQ below (qI g A (cF g bF qF0 (bS 0) qF2 qF3 (bRT 0) vF1 ++ (cS g bS (bC 0) (bT 0) ++ (cC g bC vC ++ (cT g bT vT ++ (cR g bRT nRT (bG 0) (bB 0) vRT1 ++ (cL g bG vG1 ++ (cL g bB vB1))))))) r) ([.ref (bF 0)] : List Value).toArray s 0 0 A) (F0 m 19 ls [])) ?_ ?_ FU
        · intro x2_8 x3_9 x4_10 vF_11 hf; cases hf
        · intro self12 ih14 x2_8 x3_9 x4_10 vF_11 hf H locs hP hD hS ls hl
          unfold f_X7_nextTest_L19 at hf
          refine lv_iload hx hb dX7_nextTest_19 (lv_at hl 4 rfl) ?_
          refine lv_aload_n hx hb dX7_nextTest_21 rfl (lv_at hl 0 rfl) ?_
          refine va_get (D := g.1) (ci := 7) (fs := fcF bF qF0 (bS 0) qF2 qF3 (bRT 0) vF_11) (v := .ref (bS 0)) (C := RX7) (T := TX7) (N := 12) hx hb htu hinX7 hown hK hP 0 rfl rfl 1 (by decide) k_2_19 (fun _ h9 => h9) rfl dX7_nextTest_22 ?_
          refine va_get (D := g.1) (ci := 4) (fs := fcS bS (bC 0) (bT 0)) (v := .ref (bT 0)) (C := RX4) (T := TX4) (N := 2) hx hb htu hinX4 hown hK hP 6 rfl rfl 1 (by decide) k_1_153 (fun _ h9 => h9) rfl dX7_nextTest_25 ?_
          refine va_get (D := g.1) (ci := 6) (fs := fcT bT vT) (v := .int (vT.1 0)) (C := RX6) (T := TX6) (N := 5) hx hb htu hinX6 hown hK hP 18 rfl rfl 0 (by decide) k_1_129 (fun _ h9 => h9) rfl dX7_nextTest_28 ?_
          refine lv_icmp_ge (tgt := 65) hx hb dX7_nextTest_31 (by decide) (fun c15 => ?_) (fun c15 => ?_)
          · have hf := it_t hf c15
            refine lv_iload_n hx hb dX7_nextTest_65 rfl (lv_at hl 2 rfl) ?_
            obtain ⟨e16, e17, e18, e19, e20⟩ := kp_5 hf
            rw [e17] at hP hD
            rw [e18] at hP hD
            rw [e19] at hP hD
            rw [e20] at hP hD
            exact k_iret hx hb hr hlocks hK hP hD hS e16 dX7_nextTest_66
          · have hf := it_f hf c15
            refine lv_aload_n hx hb dX7_nextTest_34 rfl (lv_at hl 0 rfl) ?_
            refine lv_iload hx hb dX7_nextTest_35 (lv_at hl 4 rfl) ?_
            refine lv_iload_n hx hb dX7_nextTest_37 rfl (lv_at hl 1 rfl) ?_
            obtain ⟨r21, vF_22, hg23, hf⟩ := o2_at hf
            refine k_viP ⟨hx, hb, hml, hown, htu⟩ hK hP hD hS hA hG (c_X7_greatestPart l g bF qF0 qF2 qF3 vF_11 bS (bT 0) bC vC bRT nRT (bG 0) (bB 0) vRT_3 x4_10 r1 r21 vF_22 hg23) (cwV 2 htu (gU_V mw_2_197 hcX7_greatestPart) rfl rfl rfl hdX7_greatestPart ⟨Nat.le_of_ble_eq_true rfl, Nat.le_of_ble_eq_true rfl⟩) (q0 := 0) (ci := 7) (fs := fcF bF qF0 (bS 0) qF2 qF3 (bRT 0) vF_11) (q := (RX7, TX7, 12)) rfl rfl rfl (wr := (cT g bT vT ++ (cL g bG vG_4 ++ (cL g bB vB_5)))) (w2 := cF g bF qF0 (bS 0) qF2 qF3 (bRT 0) vF_22 ++ (cS g bS (bC 0) (bT 0) ++ (cC g bC vC ++ (cT g bT vT ++ (cR g bRT nRT (bG 0) (bB 0) vRT_3 ++ (cL g bG vG_4 ++ (cL g bB vB_5))))))) [0, 1, 2, 3, 4, 5, 6, 7, 8, 9, 10, 11, 12, 13, 14, 15, 16, 17, 23, 24, 25] [18, 19, 20, 21, 22, 26, 27, 28, 29, 30, 31] [11, 12, 13, 14, 15, 16, 17, 18, 19, 20, 21, 22, 23, 24, 25, 26, 27, 28, 0, 1, 2, 3, 4, 29, 30, 31, 5, 6, 7, 8, 9, 10] rfl rfl (by decide) (by decide) (by decide) rfl rfl (by decide) (As := [.int x4_10, .int r1]) (rest := []) rfl rfl hl.1 (Nat.le_of_ble_eq_true rfl) dX7_nextTest_38 (k1 := 0) (n1 := 0) rfl rfl ⟨Nat.zero_le _, Nat.zero_le _⟩ (fun H locs hP hD hS => ?_)
            refine lv_istore (lv' := [(5, .int r21), (0, .ref (bF 0)), (1, .int r1), (2, .int x2_8), (3, .int x3_9), (4, .int x4_10)]) hx hb dX7_nextTest_41 hl (by decide) rfl (fun ls hl => ?_)
            refine lv_iload_n hx hb dX7_nextTest_43 rfl (lv_at hl 3 rfl) ?_
            obtain ⟨k26, hk28, hf⟩ := jn_at hf
            have hJ27 : ∀ (x2_24 : Int32) (x3_25 : Int32), k26 x2_24 x3_25 = some (r, vF1, vRT1, vG1, vB1) → ∀ (H : Heap) (locs : List Loc), va_P g.1 vwCl (cF g bF qF0 (bS 0) qF2 qF3 (bRT 0) vF_22 ++ (cS g bS (bC 0) (bT 0) ++ (cC g bC vC ++ (cT g bT vT ++ (cR g bRT nRT (bG 0) (bB 0) vRT_3 ++ (cL g bG vG_4 ++ (cL g bB vB_5))))))) H → va_D A (cF g bF qF0 (bS 0) qF2 qF3 (bRT 0) vF_22 ++ (cS g bS (bC 0) (bT 0) ++ (cC g bC vC ++ (cT g bT vT ++ (cR g bRT nRT (bG 0) (bB 0) vRT_3 ++ (cL g bG vG_4 ++ (cL g bB vB_5))))))) → va_S A s.heap H locs → ∀ ls : Array Slot, lv_has ls 6 [(0, .ref (bF 0)), (1, .int r1), (2, .int x2_24), (3, .int x3_25), (4, .int x4_10)] → W p l e (headSpec wsX7_nextTest rmX7_nextTest).room s m ([.ref (bF 0)] : List Value).toArray below meth c H locs 0 0 (MQ below (qI g A (cF g bF qF0 (bS 0) qF2 qF3 (bRT 0) vF1 ++ (cS g bS (bC 0) (bT 0) ++ (cC g bC vC ++ (cT g bT vT ++ (cR g bRT nRT (bG 0) (bB 0) vRT1 ++ (cL g bG vG1 ++ (cL g bB vB1))))))) r) ([.ref (bF 0)] : List Value).toArray s 0 0 A) (F0 m 59 ls []) := by
              intro x2_24 x3_25 hf H locs hP hD hS ls hl
              rw [hk28] at hf
              dsimp only at hf
              clear hk28
              refine lv_iinc (v := (x4_10 + (1 : Int32))) (lv' := [(4, .int (x4_10 + (1 : Int32))), (0, .ref (bF 0)), (1, .int r1), (2, .int x2_24), (3, .int x3_25)]) hx hb dX7_nextTest_59 hl (k := 4) rfl rfl (by decide) rfl (fun ls hl => ?_)
              refine lv_goto (tgt := 19) hx hb dX7_nextTest_62 (by decide) ?_
              exact ih14 x2_24 x3_25 (x4_10 + (1 : Int32)) vF_22 hf H locs hP hD hS _ (lv_sub hl [1, 2, 3, 4, 0] rfl)
            obtain ⟨k29, hk31, hf⟩ := jn_at hf
            have hJ30 : k29 = some (r, vF1, vRT1, vG1, vB1) → ∀ (H : Heap) (locs : List Loc), va_P g.1 vwCl (cF g bF qF0 (bS 0) qF2 qF3 (bRT 0) vF_22 ++ (cS g bS (bC 0) (bT 0) ++ (cC g bC vC ++ (cT g bT vT ++ (cR g bRT nRT (bG 0) (bB 0) vRT_3 ++ (cL g bG vG_4 ++ (cL g bB vB_5))))))) H → va_D A (cF g bF qF0 (bS 0) qF2 qF3 (bRT 0) vF_22 ++ (cS g bS (bC 0) (bT 0) ++ (cC g bC vC ++ (cT g bT vT ++ (cR g bRT nRT (bG 0) (bB 0) vRT_3 ++ (cL g bG vG_4 ++ (cL g bB vB_5))))))) → va_S A s.heap H locs → ∀ ls : Array Slot, lv_has ls 6 [(0, .ref (bF 0)), (1, .int r1), (4, .int x4_10), (5, .int r21)] → W p l e (headSpec wsX7_nextTest rmX7_nextTest).room s m ([.ref (bF 0)] : List Value).toArray below meth c H locs 0 0 (MQ below (qI g A (cF g bF qF0 (bS 0) qF2 qF3 (bRT 0) vF1 ++ (cS g bS (bC 0) (bT 0) ++ (cC g bC vC ++ (cT g bT vT ++ (cR g bRT nRT (bG 0) (bB 0) vRT1 ++ (cL g bG vG1 ++ (cL g bB vB1))))))) r) ([.ref (bF 0)] : List Value).toArray s 0 0 A) (F0 m 53 ls []) := by
              intro hf H locs hP hD hS ls hl
              rw [hk31] at hf
              clear hk31
              refine lv_iload hx hb dX7_nextTest_53 (lv_at hl 2 rfl) ?_
              refine lv_istore_n (lv' := [(2, .int x4_10), (0, .ref (bF 0)), (1, .int r1), (4, .int x4_10), (5, .int r21)]) hx hb dX7_nextTest_55 rfl hl (by decide) rfl (fun ls hl => ?_)
              refine lv_iload hx hb dX7_nextTest_56 (lv_at hl 4 rfl) ?_
              refine lv_istore_n (lv' := [(3, .int r21), (2, .int x4_10), (0, .ref (bF 0)), (1, .int r1), (4, .int x4_10), (5, .int r21)]) hx hb dX7_nextTest_58 rfl hl (by decide) rfl (fun ls hl => ?_)
              exact hJ27 x4_10 r21 hf H locs hP hD hS _ (lv_sub hl [2, 3, 1, 0, 4] rfl)
            refine lv_if_lt (tgt := 53) hx hb dX7_nextTest_44 (by decide) (fun c32 => ?_) (fun c32 => ?_)
            · have hf := it_t hf c32
              exact hJ30 hf H locs hP hD hS _ (lv_sub hl [1, 2, 5, 0] rfl)
            · have hf := it_f hf c32
              refine lv_iload hx hb dX7_nextTest_47 (lv_at hl 0 rfl) ?_
              refine lv_iload_n hx hb dX7_nextTest_49 rfl (lv_at hl 4 rfl) ?_
              refine lv_icmp_ge (tgt := 59) hx hb dX7_nextTest_50 (by decide) (fun c33 => ?_) (fun c33 => ?_)
              · have hf := it_t hf c33
                exact hJ27 x2_8 x3_9 hf H locs hP hD hS _ (lv_sub hl [1, 2, 3, 4, 5] rfl)
              · have hf := it_f hf c33
                exact hJ30 hf H locs hP hD hS _ (lv_sub hl [1, 2, 5, 0] rfl)
      exact hL13 (-1 : Int32) (0 : Int32) (0 : Int32) vF_2 hf H locs hP hD hS _ (lv_sub hl [4, 3, 2, 1, 0] rfl)
    · have hf := it_f hf c7
      refine lv_iconst (v := (-1 : Int32)) hx hb dX7_nextTest_10 (by decide) ?_
      obtain ⟨e34, e35, e36, e37, e38⟩ := kp_5 hf
      rw [e35] at hP hD
      rw [e36] at hP hD
      rw [e37] at hP hD
      rw [e38] at hP hD
      exact k_iret hx hb hr hlocks hK hP hD hS e34 dX7_nextTest_11
  rw [hH, hlo] at hW
  exact hW
def f_X7_checksumOfWires_L54 (vC : Vs) (x5_2 : Int32) (self3 : Int64 → Int32 → Option (Nat × Int64)) (self17 : Int64 → Int32 → Option (Nat × Int64)) (x3_15 : Int64) (x6_16 : Int32) : Option (Nat × Int64) :=
  gd (inb x5_2 24) (if (vC.2.1 5 (x5_2).toNatClampNeg) ≤ x6_16 then self3 x3_15 (x5_2 + (1 : Int32)) else gd (inb ((x5_2 * (4 : Int32)) + x6_16) 96) (bn ((((31 : Int64) * x3_15) + (((vC.2.1 6 (((x5_2 * (4 : Int32)) + x6_16)).toNatClampNeg)).toInt64))) (fun (y23 : Int64) => self17 y23 (x6_16 + (1 : Int32)))))
def f_X7_checksumOfWires_L23 (vF : Vs) (vC : Vs) (x5_2 : Int32) (self3 : Int64 → Int32 → Option (Nat × Int64)) (self11 : Int64 → Int32 → Option (Nat × Int64)) (x3_9 : Int64) (x6_10 : Int32) : Option (Nat × Int64) :=
  if (4 : Int32) < x6_10 then lp (f_X7_checksumOfWires_L54 vC x5_2 self3) (fun _ _ => none) FU x3_9 (0 : Int32) else o2 (f_X7_wire vF vC x5_2 x6_10) (fun (c24 : Nat) (r25 : Int32) => if c24 = 0 then (self11 (((31 : Int64) * x3_9) + ((r25).toInt64)) (x6_10 + (1 : Int32))) else some (c24, (0 : Int64)))
def f_X7_checksumOfWires_L5 (vF : Vs) (vC : Vs) (self3 : Int64 → Int32 → Option (Nat × Int64)) (x3_1 : Int64) (x5_2 : Int32) : Option (Nat × Int64) :=
  if (vC.1 1) ≤ x5_2 then some (0, x3_1) else lp (f_X7_checksumOfWires_L23 vF vC x5_2 self3) (fun _ _ => none) FU x3_1 (0 : Int32)
def f_X7_checksumOfWires (vF : Vs) (vC : Vs) (x1 : Int64) : Option (Nat × Int64) :=
  lp (f_X7_checksumOfWires_L5 vF vC) (fun _ _ => none) FU x1 (0 : Int32)
abbrev wsX7_checksumOfWires : List Cond := .code yX7_checksumOfWires cX7_checksumOfWires 7 (some .long) :: UW
abbrev rmX7_checksumOfWires : Room := { frames := 3, cells := 0, slots := 0, locals := 55 }
set_option maxHeartbeats 4000000 in
set_option maxRecDepth 100000 in
theorem c_X7_checksumOfWires (l : Launch) (g : Gx) (bF : Nat → Nat) (qF0 : Nat) (qF2 : Nat) (qF3 : Nat) (qF4 : Nat) (vF : Vs) (bS : Nat → Nat) (qS1 : Nat) (bC : Nat → Nat) (vC : Vs) (x1 : Int64) (r : Int64) (hf : f_X7_checksumOfWires vF vC x1 = some (0, r)) : CtJ l yX7_checksumOfWires wsX7_checksumOfWires rmX7_checksumOfWires g [.ref (bF 0), .long x1] (cF g bF qF0 (bS 0) qF2 qF3 qF4 vF ++ (cS g bS (bC 0) qS1 ++ (cC g bC vC))) (cF g bF qF0 (bS 0) qF2 qF3 qF4 vF ++ (cS g bS (bC 0) qS1 ++ (cC g bC vC))) r 0 0 := by
  unfold CtJ
  intro sz
  refine Met.ofW (cc := cX7_checksumOfWires) (maxL := 7) (ret := (some .long)) (by decide) rfl ?_
  intro p e s m args below meth c s₁ B hml hv
  obtain ⟨rfl, hsz, hP, hK, hD0, hG⟩ := hv
  have hx := B.exec
  have hb := B.bytes
  have hr := B.returns
  have hts := atoms_spec (ws := wsX7_checksumOfWires) B.pre
  have hown : s.vm.findClass RX7 = some m.cls := findClass_of_methodNamed B.named
  have hlocks := B.notSynchronized
  subst hsz
  have hD := hD0.self (sz := s.heap.size)
  generalize hAe : va_A (cF g bF qF0 (bS 0) qF2 qF3 qF4 vF ++ (cS g bS (bC 0) qS1 ++ (cC g bC vC))) s.heap.size = A at hD hG ⊢
  have hA : ∀ q : Nat, s.heap.size ≤ q → A q := fun q h => by rw [← hAe]; exact Or.inr h
  clear hAe hD0
  have hS : va_S A s.heap s.heap [] := va_S.rf
  have hl := lv_entry ([.ref (bF 0), .long x1]) (n := 7) (Nat.le_of_ble_eq_true rfl)
  rw [lg_entry_eq]
  generalize (lg_sl ([.ref (bF 0), .long x1]) ++ List.replicate (7 - (lg_sl ([.ref (bF 0), .long x1])).length) Slot.unset).toArray = ls at hl ⊢
  have hl : lv_has ls 7 [(0, .ref (bF 0)), (1, .long x1)] := hl
  have htu : ∀ w ∈ UW, w.before _ s = true := fun w h => hts w (List.mem_cons_of_mem _ h)
  have k_2_19 := htu _ mw_2_19
  have k_1_150 := htu _ mw_1_150
  have k_1_60 := htu _ mw_1_60
  have k_1_72 := htu _ mw_1_72
  have k_3_42 := htu _ mw_3_42
  have k_1_75 := htu _ mw_1_75
  unfold f_X7_checksumOfWires at hf
  obtain ⟨H, hH⟩ : ∃ z, z = s.heap := ⟨_, rfl⟩
  obtain ⟨locs, hlo⟩ : ∃ z : List Loc, z = [] := ⟨_, rfl⟩
  have hS : va_S A s.heap H locs := by rw [hH, hlo]; exact hS
  rw [← hH] at hP
  have hW : W p l e (headSpec wsX7_checksumOfWires rmX7_checksumOfWires).room s m ([.ref (bF 0), .long x1] : List Value).toArray below meth c H locs 0 0 (MQ below (qJ g A (cF g bF qF0 (bS 0) qF2 qF3 qF4 vF ++ (cS g bS (bC 0) qS1 ++ (cC g bC vC))) r) ([.ref (bF 0), .long x1] : List Value).toArray s 0 0 A) (F0 m 0 ls []) := by
    refine lv_lload_n hx hb dX7_checksumOfWires_0 rfl (lv_at hl 1 rfl) ?_
    refine lv_lstore_n (lv' := [(3, .long x1), (0, .ref (bF 0)), (1, .long x1)]) hx hb dX7_checksumOfWires_1 rfl hl (by decide) rfl (fun ls hl => ?_)
    refine lv_iconst (v := (0 : Int32)) hx hb dX7_checksumOfWires_2 (by decide) ?_
    refine lv_istore (lv' := [(5, .int (0 : Int32)), (3, .long x1), (0, .ref (bF 0)), (1, .long x1)]) hx hb dX7_checksumOfWires_3 hl (by decide) rfl (fun ls hl => ?_)
    have hL4 : ∀ (x3_1 : Int64) (x5_2 : Int32), lp (f_X7_checksumOfWires_L5 vF vC) (fun _ _ => none) FU x3_1 x5_2 = some (0, r) → ∀ (H : Heap) (locs : List Loc), va_P g.1 vwCl (cF g bF qF0 (bS 0) qF2 qF3 qF4 vF ++ (cS g bS (bC 0) qS1 ++ (cC g bC vC))) H → va_D A (cF g bF qF0 (bS 0) qF2 qF3 qF4 vF ++ (cS g bS (bC 0) qS1 ++ (cC g bC vC))) → va_S A s.heap H locs → ∀ ls : Array Slot, lv_has ls 7 [(0, .ref (bF 0)), (3, .long x3_1), (5, .int x5_2)] → W p l e (headSpec wsX7_checksumOfWires rmX7_checksumOfWires).room s m ([.ref (bF 0), .long x1] : List Value).toArray below meth c H locs 0 0 (MQ below (qJ g A (cF g bF qF0 (bS 0) qF2 qF3 qF4 vF ++ (cS g bS (bC 0) qS1 ++ (cC g bC vC))) r) ([.ref (bF 0), .long x1] : List Value).toArray s 0 0 A) (F0 m 5 ls []) := by
      refine lp_ind (T := Int64 → Int32 → Option (Nat × Int64)) (fun self3 => ∀ (x3_1 : Int64) (x5_2 : Int32), self3 x3_1 x5_2 = some (0, r) → ∀ (H : Heap) (locs : List Loc), va_P g.1 vwCl (cF g bF qF0 (bS 0) qF2 qF3 qF4 vF ++ (cS g bS (bC 0) qS1 ++ (cC g bC vC))) H → va_D A (cF g bF qF0 (bS 0) qF2 qF3 qF4 vF ++ (cS g bS (bC 0) qS1 ++ (cC g bC vC))) → va_S A s.heap H locs → ∀ ls : Array Slot, lv_has ls 7 [(0, .ref (bF 0)), (3, .long x3_1), (5, .int x5_2)] → W p l e (headSpec wsX7_checksumOfWires rmX7_checksumOfWires).room s m ([.ref (bF 0), .long x1] : List Value).toArray below meth c H locs 0 0 (MQ below (qJ g A (cF g bF qF0 (bS 0) qF2 qF3 qF4 vF ++ (cS g bS (bC 0) qS1 ++ (cC g bC vC))) r) ([.ref (bF 0), .long x1] : List Value).toArray s 0 0 A) (F0 m 5 ls [])) ?_ ?_ FU
      · intro x3_1 x5_2 hf; cases hf
      · intro self3 ih5 x3_1 x5_2 hf H locs hP hD hS ls hl
        unfold f_X7_checksumOfWires_L5 at hf
        refine lv_iload hx hb dX7_checksumOfWires_5 (lv_at hl 2 rfl) ?_
        refine lv_aload_n hx hb dX7_checksumOfWires_7 rfl (lv_at hl 0 rfl) ?_
        refine va_get (D := g.1) (ci := 7) (fs := fcF bF qF0 (bS 0) qF2 qF3 qF4 vF) (v := .ref (bS 0)) (C := RX7) (T := TX7) (N := 12) hx hb htu hinX7 hown hK hP 0 rfl rfl 1 (by decide) k_2_19 (fun _ h9 => h9) rfl dX7_checksumOfWires_8 ?_
        refine va_get (D := g.1) (ci := 4) (fs := fcS bS (bC 0) qS1) (v := .ref (bC 0)) (C := RX4) (T := TX4) (N := 2) hx hb htu hinX4 hown hK hP 6 rfl rfl 0 (by decide) k_1_150 (fun _ h9 => h9) rfl dX7_checksumOfWires_11 ?_
        refine va_get (D := g.1) (ci := 0) (fs := fcC bC vC) (v := .int (vC.1 1)) (C := RX0) (T := TX0) (N := 14) hx hb htu hinX0 hown hK hP 7 rfl rfl 1 (by decide) k_1_60 (fun _ h9 => h9) rfl dX7_checksumOfWires_14 ?_
        refine lv_icmp_ge (tgt := 110) hx hb dX7_checksumOfWires_17 (by decide) (fun c6 => ?_) (fun c6 => ?_)
        · have hf := it_t hf c6
          refine lv_lload_n hx hb dX7_checksumOfWires_110 rfl (lv_at hl 1 rfl) ?_
          obtain ⟨e7, e8⟩ := kp_2 hf
          exact k_lret hx hb hr hlocks hK hP hD hS e8 dX7_checksumOfWires_111
        · have hf := it_f hf c6
          refine lv_iconst (v := (0 : Int32)) hx hb dX7_checksumOfWires_20 (by decide) ?_
          refine lv_istore (lv' := [(6, .int (0 : Int32)), (0, .ref (bF 0)), (3, .long x3_1), (5, .int x5_2)]) hx hb dX7_checksumOfWires_21 hl (by decide) rfl (fun ls hl => ?_)
          have hL12 : ∀ (x3_9 : Int64) (x6_10 : Int32), lp (f_X7_checksumOfWires_L23 vF vC x5_2 self3) (fun _ _ => none) FU x3_9 x6_10 = some (0, r) → ∀ (H : Heap) (locs : List Loc), va_P g.1 vwCl (cF g bF qF0 (bS 0) qF2 qF3 qF4 vF ++ (cS g bS (bC 0) qS1 ++ (cC g bC vC))) H → va_D A (cF g bF qF0 (bS 0) qF2 qF3 qF4 vF ++ (cS g bS (bC 0) qS1 ++ (cC g bC vC))) → va_S A s.heap H locs → ∀ ls : Array Slot, lv_has ls 7 [(0, .ref (bF 0)), (3, .long x3_9), (5, .int x5_2), (6, .int x6_10)] → W p l e (headSpec wsX7_checksumOfWires rmX7_checksumOfWires).room s m ([.ref (bF 0), .long x1] : List Value).toArray below meth c H locs 0 0 (MQ below (qJ g A (cF g bF qF0 (bS 0) qF2 qF3 qF4 vF ++ (cS g bS (bC 0) qS1 ++ (cC g bC vC))) r) ([.ref (bF 0), .long x1] : List Value).toArray s 0 0 A) (F0 m 23 ls []) := by
            refine lp_ind (T := Int64 → Int32 → Option (Nat × Int64)) (fun self11 => ∀ (x3_9 : Int64) (x6_10 : Int32), self11 x3_9 x6_10 = some (0, r) → ∀ (H : Heap) (locs : List Loc), va_P g.1 vwCl (cF g bF qF0 (bS 0) qF2 qF3 qF4 vF ++ (cS g bS (bC 0) qS1 ++ (cC g bC vC))) H → va_D A (cF g bF qF0 (bS 0) qF2 qF3 qF4 vF ++ (cS g bS (bC 0) qS1 ++ (cC g bC vC))) → va_S A s.heap H locs → ∀ ls : Array Slot, lv_has ls 7 [(0, .ref (bF 0)), (3, .long x3_9), (5, .int x5_2), (6, .int x6_10)] → W p l e (headSpec wsX7_checksumOfWires rmX7_checksumOfWires).room s m ([.ref (bF 0), .long x1] : List Value).toArray below meth c H locs 0 0 (MQ below (qJ g A (cF g bF qF0 (bS 0) qF2 qF3 qF4 vF ++ (cS g bS (bC 0) qS1 ++ (cC g bC vC))) r) ([.ref (bF 0), .long x1] : List Value).toArray s 0 0 A) (F0 m 23 ls [])) ?_ ?_ FU
            · intro x3_9 x6_10 hf; cases hf
            · intro self11 ih13 x3_9 x6_10 hf H locs hP hD hS ls hl
              unfold f_X7_checksumOfWires_L23 at hf
              refine lv_iload hx hb dX7_checksumOfWires_23 (lv_at hl 3 rfl) ?_
              refine lv_iconst (v := (4 : Int32)) hx hb dX7_checksumOfWires_25 (by decide) ?_
              refine lv_icmp_gt (tgt := 51) hx hb dX7_checksumOfWires_26 (by decide) (fun c14 => ?_) (fun c14 => ?_)
              · have hf := it_t hf c14
                refine lv_iconst (v := (0 : Int32)) hx hb dX7_checksumOfWires_51 (by decide) ?_
                refine lv_istore (lv' := [(6, .int (0 : Int32)), (0, .ref (bF 0)), (3, .long x3_9), (5, .int x5_2)]) hx hb dX7_checksumOfWires_52 hl (by decide) rfl (fun ls hl => ?_)
                have hL18 : ∀ (x3_15 : Int64) (x6_16 : Int32), lp (f_X7_checksumOfWires_L54 vC x5_2 self3) (fun _ _ => none) FU x3_15 x6_16 = some (0, r) → ∀ (H : Heap) (locs : List Loc), va_P g.1 vwCl (cF g bF qF0 (bS 0) qF2 qF3 qF4 vF ++ (cS g bS (bC 0) qS1 ++ (cC g bC vC))) H → va_D A (cF g bF qF0 (bS 0) qF2 qF3 qF4 vF ++ (cS g bS (bC 0) qS1 ++ (cC g bC vC))) → va_S A s.heap H locs → ∀ ls : Array Slot, lv_has ls 7 [(0, .ref (bF 0)), (3, .long x3_15), (5, .int x5_2), (6, .int x6_16)] → W p l e (headSpec wsX7_checksumOfWires rmX7_checksumOfWires).room s m ([.ref (bF 0), .long x1] : List Value).toArray below meth c H locs 0 0 (MQ below (qJ g A (cF g bF qF0 (bS 0) qF2 qF3 qF4 vF ++ (cS g bS (bC 0) qS1 ++ (cC g bC vC))) r) ([.ref (bF 0), .long x1] : List Value).toArray s 0 0 A) (F0 m 54 ls []) := by
                  refine lp_ind (T := Int64 → Int32 → Option (Nat × Int64)) (fun self17 => ∀ (x3_15 : Int64) (x6_16 : Int32), self17 x3_15 x6_16 = some (0, r) → ∀ (H : Heap) (locs : List Loc), va_P g.1 vwCl (cF g bF qF0 (bS 0) qF2 qF3 qF4 vF ++ (cS g bS (bC 0) qS1 ++ (cC g bC vC))) H → va_D A (cF g bF qF0 (bS 0) qF2 qF3 qF4 vF ++ (cS g bS (bC 0) qS1 ++ (cC g bC vC))) → va_S A s.heap H locs → ∀ ls : Array Slot, lv_has ls 7 [(0, .ref (bF 0)), (3, .long x3_15), (5, .int x5_2), (6, .int x6_16)] → W p l e (headSpec wsX7_checksumOfWires rmX7_checksumOfWires).room s m ([.ref (bF 0), .long x1] : List Value).toArray below meth c H locs 0 0 (MQ below (qJ g A (cF g bF qF0 (bS 0) qF2 qF3 qF4 vF ++ (cS g bS (bC 0) qS1 ++ (cC g bC vC))) r) ([.ref (bF 0), .long x1] : List Value).toArray s 0 0 A) (F0 m 54 ls [])) ?_ ?_ FU
                  · intro x3_15 x6_16 hf; cases hf
                  · intro self17 ih19 x3_15 x6_16 hf H locs hP hD hS ls hl
                    unfold f_X7_checksumOfWires_L54 at hf
                    refine lv_iload hx hb dX7_checksumOfWires_54 (lv_at hl 3 rfl) ?_
                    refine lv_aload_n hx hb dX7_checksumOfWires_56 rfl (lv_at hl 0 rfl) ?_
                    refine va_get (D := g.1) (ci := 7) (fs := fcF bF qF0 (bS 0) qF2 qF3 qF4 vF) (v := .ref (bS 0)) (C := RX7) (T := TX7) (N := 12) hx hb htu hinX7 hown hK hP 0 rfl rfl 1 (by decide) k_2_19 (fun _ h9 => h9) rfl dX7_checksumOfWires_57 ?_
                    refine va_get (D := g.1) (ci := 4) (fs := fcS bS (bC 0) qS1) (v := .ref (bC 0)) (C := RX4) (T := TX4) (N := 2) hx hb htu hinX4 hown hK hP 6 rfl rfl 0 (by decide) k_1_150 (fun _ h9 => h9) rfl dX7_checksumOfWires_60 ?_
                    refine va_get (D := g.1) (ci := 0) (fs := fcC bC vC) (v := .ref (bC 6)) (C := RX0) (T := TX0) (N := 14) hx hb htu hinX0 hown hK hP 7 rfl rfl 5 (by decide) k_1_72 (fun _ h9 => h9) rfl dX7_checksumOfWires_63 ?_
                    refine lv_iload hx hb dX7_checksumOfWires_66 (lv_at hl 2 rfl) ?_
                    obtain ⟨h20, hf⟩ := gd_in hf
                    refine va_iald (D := g.1) (f := (vC.2.1 5)) hx hb hK hP 9 0 rfl rfl h20 dX7_checksumOfWires_68 ?_
                    refine lv_icmp_ge (tgt := 104) hx hb dX7_checksumOfWires_69 (by decide) (fun c21 => ?_) (fun c21 => ?_)
                    · have hf := it_t hf c21
                      refine lv_iinc (v := (x5_2 + (1 : Int32))) (lv' := [(5, .int (x5_2 + (1 : Int32))), (0, .ref (bF 0)), (3, .long x3_15), (6, .int x6_16)]) hx hb dX7_checksumOfWires_104 hl (k := 2) rfl rfl (by decide) rfl (fun ls hl => ?_)
                      refine lv_goto (tgt := 5) hx hb dX7_checksumOfWires_107 (by decide) ?_
                      exact ih5 x3_15 (x5_2 + (1 : Int32)) hf H locs hP hD hS _ (lv_sub hl [1, 2, 0] rfl)
                    · have hf := it_f hf c21
                      refine lv_ldc2 (v := (31 : Int64)) hx hb hown k_3_42 dX7_checksumOfWires_72 ?_
                      refine lv_lload_n hx hb dX7_checksumOfWires_75 rfl (lv_at hl 1 rfl) ?_
                      refine lv_lmul hx hb dX7_checksumOfWires_76 ?_
                      refine lv_aload_n hx hb dX7_checksumOfWires_77 rfl (lv_at hl 0 rfl) ?_
                      refine va_get (D := g.1) (ci := 7) (fs := fcF bF qF0 (bS 0) qF2 qF3 qF4 vF) (v := .ref (bS 0)) (C := RX7) (T := TX7) (N := 12) hx hb htu hinX7 hown hK hP 0 rfl rfl 1 (by decide) k_2_19 (fun _ h9 => h9) rfl dX7_checksumOfWires_78 ?_
                      refine va_get (D := g.1) (ci := 4) (fs := fcS bS (bC 0) qS1) (v := .ref (bC 0)) (C := RX4) (T := TX4) (N := 2) hx hb htu hinX4 hown hK hP 6 rfl rfl 0 (by decide) k_1_150 (fun _ h9 => h9) rfl dX7_checksumOfWires_81 ?_
                      refine va_get (D := g.1) (ci := 0) (fs := fcC bC vC) (v := .ref (bC 7)) (C := RX0) (T := TX0) (N := 14) hx hb htu hinX0 hown hK hP 7 rfl rfl 6 (by decide) k_1_75 (fun _ h9 => h9) rfl dX7_checksumOfWires_84 ?_
                      refine lv_iload hx hb dX7_checksumOfWires_87 (lv_at hl 2 rfl) ?_
                      refine lv_iconst (v := (4 : Int32)) hx hb dX7_checksumOfWires_89 (by decide) ?_
                      refine lv_imul hx hb dX7_checksumOfWires_90 ?_
                      refine lv_iload hx hb dX7_checksumOfWires_91 (lv_at hl 3 rfl) ?_
                      refine lv_iadd hx hb dX7_checksumOfWires_93 ?_
                      obtain ⟨h22, hf⟩ := gd_in hf
                      refine va_iald (D := g.1) (f := (vC.2.1 6)) hx hb hK hP 10 0 rfl rfl h22 dX7_checksumOfWires_94 ?_
                      refine lv_i2l (v := ((vC.2.1 6 (((x5_2 * (4 : Int32)) + x6_16)).toNatClampNeg)).toInt64) hx hb dX7_checksumOfWires_95 rfl ?_
                      refine lv_ladd hx hb dX7_checksumOfWires_96 ?_
                      refine lv_topl (fun y23 ey23 => ?_)
                      have hf := bn_at hf ey23
                      refine lv_lstore_n (lv' := [(3, .long y23), (0, .ref (bF 0)), (5, .int x5_2), (6, .int x6_16)]) hx hb dX7_checksumOfWires_97 rfl hl (by decide) rfl (fun ls hl => ?_)
                      refine lv_iinc (v := (x6_16 + (1 : Int32))) (lv' := [(6, .int (x6_16 + (1 : Int32))), (3, .long y23), (0, .ref (bF 0)), (5, .int x5_2)]) hx hb dX7_checksumOfWires_98 hl (k := 3) rfl rfl (by decide) rfl (fun ls hl => ?_)
                      refine lv_goto (tgt := 54) hx hb dX7_checksumOfWires_101 (by decide) ?_
                      exact ih19 y23 (x6_16 + (1 : Int32)) hf H locs hP hD hS _ (lv_sub hl [2, 1, 3, 0] rfl)
                exact hL18 x3_9 (0 : Int32) hf H locs hP hD hS _ (lv_sub hl [1, 2, 3, 0] rfl)
              · have hf := it_f hf c14
                refine lv_ldc2 (v := (31 : Int64)) hx hb hown k_3_42 dX7_checksumOfWires_29 ?_
                refine lv_lload_n hx hb dX7_checksumOfWires_32 rfl (lv_at hl 1 rfl) ?_
                refine lv_lmul hx hb dX7_checksumOfWires_33 ?_
                refine lv_aload_n hx hb dX7_checksumOfWires_34 rfl (lv_at hl 0 rfl) ?_
                refine lv_iload hx hb dX7_checksumOfWires_35 (lv_at hl 2 rfl) ?_
                refine lv_iload hx hb dX7_checksumOfWires_37 (lv_at hl 3 rfl) ?_
                obtain ⟨c24, r25, hg26, hf⟩ := o2_at hf
                have hc24 : c24 = 0 := Classical.byContradiction (fun h9 => h9 (kp_2 (it_f hf h9)).1)
                have hf := it_t hf hc24
                rw [hc24] at hg26
                refine k_viW ⟨hx, hb, hml, hown, htu⟩ hK hP hD hS hA hG (c_X7_wire l g bF qF0 qF2 qF3 qF4 vF bS qS1 bC vC x5_2 x6_10 r25 hg26) (cwV 2 htu (gU_V mw_3_125 hcX7_wire) rfl rfl rfl hdX7_wire ⟨Nat.le_of_ble_eq_true rfl, Nat.le_of_ble_eq_true rfl⟩) (q0 := 0) (ci := 7) (fs := fcF bF qF0 (bS 0) qF2 qF3 qF4 vF) (q := (RX7, TX7, 12)) rfl rfl rfl (As := [.int x5_2, .int x6_10]) (rest := [.long ((31 : Int64) * x3_9)]) rfl rfl hl.1 (Nat.le_of_ble_eq_true rfl) dX7_checksumOfWires_39 (k1 := 0) (n1 := 0) rfl rfl ⟨Nat.zero_le _, Nat.zero_le _⟩ (fun H locs hP hD hS => ?_)
                refine lv_i2l (v := (r25).toInt64) hx hb dX7_checksumOfWires_42 rfl ?_
                refine lv_ladd hx hb dX7_checksumOfWires_43 ?_
                refine lv_lstore_n (lv' := [(3, .long (((31 : Int64) * x3_9) + ((r25).toInt64))), (0, .ref (bF 0)), (5, .int x5_2), (6, .int x6_10)]) hx hb dX7_checksumOfWires_44 rfl hl (by decide) rfl (fun ls hl => ?_)
                refine lv_iinc (v := (x6_10 + (1 : Int32))) (lv' := [(6, .int (x6_10 + (1 : Int32))), (3, .long (((31 : Int64) * x3_9) + ((r25).toInt64))), (0, .ref (bF 0)), (5, .int x5_2)]) hx hb dX7_checksumOfWires_45 hl (k := 3) rfl rfl (by decide) rfl (fun ls hl => ?_)
                refine lv_goto (tgt := 23) hx hb dX7_checksumOfWires_48 (by decide) ?_
                exact ih13 (((31 : Int64) * x3_9) + ((r25).toInt64)) (x6_10 + (1 : Int32)) hf H locs hP hD hS _ (lv_sub hl [2, 1, 3, 0] rfl)
          exact hL12 x3_1 (0 : Int32) hf H locs hP hD hS _ (lv_sub hl [1, 2, 3, 0] rfl)
    exact hL4 x1 (0 : Int32) hf H locs hP hD hS _ (lv_sub hl [2, 1, 0] rfl)
  rw [hH, hlo] at hW
  exact hW
abbrev rtX7_checksumOfWires : Room := { frames := 10, cells := 1, slots := 6, locals := 163 }
set_option maxHeartbeats 4000000 in
set_option maxRecDepth 100000 in
theorem t_X7_checksumOfWires (l : Launch) (hst : l.stackTraces = false) (g : Gx) (bF : Nat → Nat) (qF0 : Nat) (qF2 : Nat) (qF3 : Nat) (qF4 : Nat) (vF : Vs) (bS : Nat → Nat) (qS1 : Nat) (bC : Nat → Nat) (vC : Vs) (x1 : Int64) (r : Int64) (ek : Nat) (hf : f_X7_checksumOfWires vF vC x1 = some (ek, r)) (hek : ¬ ek = 0) : CtXJ l yX7_checksumOfWires wsX7_checksumOfWires rtX7_checksumOfWires g [.ref (bF 0), .long x1] (cF g bF qF0 (bS 0) qF2 qF3 qF4 vF ++ (cS g bS (bC 0) qS1 ++ (cC g bC vC))) (cF g bF qF0 (bS 0) qF2 qF3 qF4 vF ++ (cS g bS (bC 0) qS1 ++ (cC g bC vC))) (exN ek) 1 6 := by
  unfold CtXJ
  intro sz
  refine vx_ofW (cc := cX7_checksumOfWires) (maxL := 7) (ret := (some .long)) (by decide) rfl ?_
  intro p e s m args below meth c s₁ B hml hT hv
  obtain ⟨rfl, hsz, hP, hK, hD0, hG⟩ := hv
  have hx := B.exec
  have hb := B.bytes
  have hr := B.returns
  have hts := atoms_spec (ws := wsX7_checksumOfWires) B.pre
  have hown : s.vm.findClass RX7 = some m.cls := findClass_of_methodNamed B.named
  have hlocks := B.notSynchronized
  subst hsz
  have hD := hD0.self (sz := s.heap.size)
  generalize hAe : va_A (cF g bF qF0 (bS 0) qF2 qF3 qF4 vF ++ (cS g bS (bC 0) qS1 ++ (cC g bC vC))) s.heap.size = A at hD hG ⊢
  have hA : ∀ q : Nat, s.heap.size ≤ q → A q := fun q h => by rw [← hAe]; exact Or.inr h
  clear hAe hD0
  have hS : va_S A s.heap s.heap [] := va_S.rf
  have hl := lv_entry ([.ref (bF 0), .long x1]) (n := 7) (Nat.le_of_ble_eq_true rfl)
  rw [lg_entry_eq]
  generalize (lg_sl ([.ref (bF 0), .long x1]) ++ List.replicate (7 - (lg_sl ([.ref (bF 0), .long x1])).length) Slot.unset).toArray = ls at hl ⊢
  have hl : lv_has ls 7 [(0, .ref (bF 0)), (1, .long x1)] := hl
  have htu : ∀ w ∈ UW, w.before _ s = true := fun w h => hts w (List.mem_cons_of_mem _ h)
  have k_2_19 := htu _ mw_2_19
  have k_1_150 := htu _ mw_1_150
  have k_1_60 := htu _ mw_1_60
  have k_1_72 := htu _ mw_1_72
  have k_3_42 := htu _ mw_3_42
  have k_1_75 := htu _ mw_1_75
  unfold f_X7_checksumOfWires at hf
  obtain ⟨H, hH⟩ : ∃ z, z = s.heap := ⟨_, rfl⟩
  obtain ⟨locs, hlo⟩ : ∃ z : List Loc, z = [] := ⟨_, rfl⟩
  have hS : va_S A s.heap H locs := by rw [hH, hlo]; exact hS
  rw [← hH] at hP
  have hW : W p l e (headSpec wsX7_checksumOfWires rtX7_checksumOfWires).room s m ([.ref (bF 0), .long x1] : List Value).toArray below meth c H locs 0 0 (vx_MQ below (nJ0 A) (xE g A (cF g bF qF0 (bS 0) qF2 qF3 qF4 vF ++ (cS g bS (bC 0) qS1 ++ (cC g bC vC))) (exN ek)) ([.ref (bF 0), .long x1] : List Value).toArray s 1 6 A) (F0 m 0 ls []) := by
    refine lv_lload_n hx hb dX7_checksumOfWires_0 rfl (lv_at hl 1 rfl) ?_
    refine lv_lstore_n (lv' := [(3, .long x1), (0, .ref (bF 0)), (1, .long x1)]) hx hb dX7_checksumOfWires_1 rfl hl (by decide) rfl (fun ls hl => ?_)
    refine lv_iconst (v := (0 : Int32)) hx hb dX7_checksumOfWires_2 (by decide) ?_
    refine lv_istore (lv' := [(5, .int (0 : Int32)), (3, .long x1), (0, .ref (bF 0)), (1, .long x1)]) hx hb dX7_checksumOfWires_3 hl (by decide) rfl (fun ls hl => ?_)
    have hL4 : ∀ (x3_1 : Int64) (x5_2 : Int32), lp (f_X7_checksumOfWires_L5 vF vC) (fun _ _ => none) FU x3_1 x5_2 = some (ek, r) → ∀ (H : Heap) (locs : List Loc), va_P g.1 vwCl (cF g bF qF0 (bS 0) qF2 qF3 qF4 vF ++ (cS g bS (bC 0) qS1 ++ (cC g bC vC))) H → va_D A (cF g bF qF0 (bS 0) qF2 qF3 qF4 vF ++ (cS g bS (bC 0) qS1 ++ (cC g bC vC))) → va_S A s.heap H locs → ∀ ls : Array Slot, lv_has ls 7 [(0, .ref (bF 0)), (3, .long x3_1), (5, .int x5_2)] → W p l e (headSpec wsX7_checksumOfWires rtX7_checksumOfWires).room s m ([.ref (bF 0), .long x1] : List Value).toArray below meth c H locs 0 0 (vx_MQ below (nJ0 A) (xE g A (cF g bF qF0 (bS 0) qF2 qF3 qF4 vF ++ (cS g bS (bC 0) qS1 ++ (cC g bC vC))) (exN ek)) ([.ref (bF 0), .long x1] : List Value).toArray s 1 6 A) (F0 m 5 ls []) := by
      refine lp_ind (T := Int64 → Int32 → Option (Nat × Int64)) (fun self3 => ∀ (x3_1 : Int64) (x5_2 : Int32), self3 x3_1 x5_2 = some (ek, r) → ∀ (H : Heap) (locs : List Loc), va_P g.1 vwCl (cF g bF qF0 (bS 0) qF2 qF3 qF4 vF ++ (cS g bS (bC 0) qS1 ++ (cC g bC vC))) H → va_D A (cF g bF qF0 (bS 0) qF2 qF3 qF4 vF ++ (cS g bS (bC 0) qS1 ++ (cC g bC vC))) → va_S A s.heap H locs → ∀ ls : Array Slot, lv_has ls 7 [(0, .ref (bF 0)), (3, .long x3_1), (5, .int x5_2)] → W p l e (headSpec wsX7_checksumOfWires rtX7_checksumOfWires).room s m ([.ref (bF 0), .long x1] : List Value).toArray below meth c H locs 0 0 (vx_MQ below (nJ0 A) (xE g A (cF g bF qF0 (bS 0) qF2 qF3 qF4 vF ++ (cS g bS (bC 0) qS1 ++ (cC g bC vC))) (exN ek)) ([.ref (bF 0), .long x1] : List Value).toArray s 1 6 A) (F0 m 5 ls [])) ?_ ?_ FU
      · intro x3_1 x5_2 hf; cases hf
      · intro self3 ih5 x3_1 x5_2 hf H locs hP hD hS ls hl
        unfold f_X7_checksumOfWires_L5 at hf
        refine lv_iload hx hb dX7_checksumOfWires_5 (lv_at hl 2 rfl) ?_
        refine lv_aload_n hx hb dX7_checksumOfWires_7 rfl (lv_at hl 0 rfl) ?_
        refine va_get (D := g.1) (ci := 7) (fs := fcF bF qF0 (bS 0) qF2 qF3 qF4 vF) (v := .ref (bS 0)) (C := RX7) (T := TX7) (N := 12) hx hb htu hinX7 hown hK hP 0 rfl rfl 1 (by decide) k_2_19 (fun _ h9 => h9) rfl dX7_checksumOfWires_8 ?_
        refine va_get (D := g.1) (ci := 4) (fs := fcS bS (bC 0) qS1) (v := .ref (bC 0)) (C := RX4) (T := TX4) (N := 2) hx hb htu hinX4 hown hK hP 6 rfl rfl 0 (by decide) k_1_150 (fun _ h9 => h9) rfl dX7_checksumOfWires_11 ?_
        refine va_get (D := g.1) (ci := 0) (fs := fcC bC vC) (v := .int (vC.1 1)) (C := RX0) (T := TX0) (N := 14) hx hb htu hinX0 hown hK hP 7 rfl rfl 1 (by decide) k_1_60 (fun _ h9 => h9) rfl dX7_checksumOfWires_14 ?_
        refine lv_icmp_ge (tgt := 110) hx hb dX7_checksumOfWires_17 (by decide) (fun c6 => ?_) (fun c6 => ?_)
        · have hf := it_t hf c6
          refine lv_lload_n hx hb dX7_checksumOfWires_110 rfl (lv_at hl 1 rfl) ?_
          exact absurd (kp_2 hf).1.symm hek
        · have hf := it_f hf c6
          refine lv_iconst (v := (0 : Int32)) hx hb dX7_checksumOfWires_20 (by decide) ?_
          refine lv_istore (lv' := [(6, .int (0 : Int32)), (0, .ref (bF 0)), (3, .long x3_1), (5, .int x5_2)]) hx hb dX7_checksumOfWires_21 hl (by decide) rfl (fun ls hl => ?_)
          have hL12 : ∀ (x3_9 : Int64) (x6_10 : Int32), lp (f_X7_checksumOfWires_L23 vF vC x5_2 self3) (fun _ _ => none) FU x3_9 x6_10 = some (ek, r) → ∀ (H : Heap) (locs : List Loc), va_P g.1 vwCl (cF g bF qF0 (bS 0) qF2 qF3 qF4 vF ++ (cS g bS (bC 0) qS1 ++ (cC g bC vC))) H → va_D A (cF g bF qF0 (bS 0) qF2 qF3 qF4 vF ++ (cS g bS (bC 0) qS1 ++ (cC g bC vC))) → va_S A s.heap H locs → ∀ ls : Array Slot, lv_has ls 7 [(0, .ref (bF 0)), (3, .long x3_9), (5, .int x5_2), (6, .int x6_10)] → W p l e (headSpec wsX7_checksumOfWires rtX7_checksumOfWires).room s m ([.ref (bF 0), .long x1] : List Value).toArray below meth c H locs 0 0 (vx_MQ below (nJ0 A) (xE g A (cF g bF qF0 (bS 0) qF2 qF3 qF4 vF ++ (cS g bS (bC 0) qS1 ++ (cC g bC vC))) (exN ek)) ([.ref (bF 0), .long x1] : List Value).toArray s 1 6 A) (F0 m 23 ls []) := by
            refine lp_ind (T := Int64 → Int32 → Option (Nat × Int64)) (fun self11 => ∀ (x3_9 : Int64) (x6_10 : Int32), self11 x3_9 x6_10 = some (ek, r) → ∀ (H : Heap) (locs : List Loc), va_P g.1 vwCl (cF g bF qF0 (bS 0) qF2 qF3 qF4 vF ++ (cS g bS (bC 0) qS1 ++ (cC g bC vC))) H → va_D A (cF g bF qF0 (bS 0) qF2 qF3 qF4 vF ++ (cS g bS (bC 0) qS1 ++ (cC g bC vC))) → va_S A s.heap H locs → ∀ ls : Array Slot, lv_has ls 7 [(0, .ref (bF 0)), (3, .long x3_9), (5, .int x5_2), (6, .int x6_10)] → W p l e (headSpec wsX7_checksumOfWires rtX7_checksumOfWires).room s m ([.ref (bF 0), .long x1] : List Value).toArray below meth c H locs 0 0 (vx_MQ below (nJ0 A) (xE g A (cF g bF qF0 (bS 0) qF2 qF3 qF4 vF ++ (cS g bS (bC 0) qS1 ++ (cC g bC vC))) (exN ek)) ([.ref (bF 0), .long x1] : List Value).toArray s 1 6 A) (F0 m 23 ls [])) ?_ ?_ FU
            · intro x3_9 x6_10 hf; cases hf
            · intro self11 ih13 x3_9 x6_10 hf H locs hP hD hS ls hl
              unfold f_X7_checksumOfWires_L23 at hf
              refine lv_iload hx hb dX7_checksumOfWires_23 (lv_at hl 3 rfl) ?_
              refine lv_iconst (v := (4 : Int32)) hx hb dX7_checksumOfWires_25 (by decide) ?_
              refine lv_icmp_gt (tgt := 51) hx hb dX7_checksumOfWires_26 (by decide) (fun c14 => ?_) (fun c14 => ?_)
              · have hf := it_t hf c14
                refine lv_iconst (v := (0 : Int32)) hx hb dX7_checksumOfWires_51 (by decide) ?_
                refine lv_istore (lv' := [(6, .int (0 : Int32)), (0, .ref (bF 0)), (3, .long x3_9), (5, .int x5_2)]) hx hb dX7_checksumOfWires_52 hl (by decide) rfl (fun ls hl => ?_)
                have hL18 : ∀ (x3_15 : Int64) (x6_16 : Int32), lp (f_X7_checksumOfWires_L54 vC x5_2 self3) (fun _ _ => none) FU x3_15 x6_16 = some (ek, r) → ∀ (H : Heap) (locs : List Loc), va_P g.1 vwCl (cF g bF qF0 (bS 0) qF2 qF3 qF4 vF ++ (cS g bS (bC 0) qS1 ++ (cC g bC vC))) H → va_D A (cF g bF qF0 (bS 0) qF2 qF3 qF4 vF ++ (cS g bS (bC 0) qS1 ++ (cC g bC vC))) → va_S A s.heap H locs → ∀ ls : Array Slot, lv_has ls 7 [(0, .ref (bF 0)), (3, .long x3_15), (5, .int x5_2), (6, .int x6_16)] → W p l e (headSpec wsX7_checksumOfWires rtX7_checksumOfWires).room s m ([.ref (bF 0), .long x1] : List Value).toArray below meth c H locs 0 0 (vx_MQ below (nJ0 A) (xE g A (cF g bF qF0 (bS 0) qF2 qF3 qF4 vF ++ (cS g bS (bC 0) qS1 ++ (cC g bC vC))) (exN ek)) ([.ref (bF 0), .long x1] : List Value).toArray s 1 6 A) (F0 m 54 ls []) := by
                  refine lp_ind (T := Int64 → Int32 → Option (Nat × Int64)) (fun self17 => ∀ (x3_15 : Int64) (x6_16 : Int32), self17 x3_15 x6_16 = some (ek, r) → ∀ (H : Heap) (locs : List Loc), va_P g.1 vwCl (cF g bF qF0 (bS 0) qF2 qF3 qF4 vF ++ (cS g bS (bC 0) qS1 ++ (cC g bC vC))) H → va_D A (cF g bF qF0 (bS 0) qF2 qF3 qF4 vF ++ (cS g bS (bC 0) qS1 ++ (cC g bC vC))) → va_S A s.heap H locs → ∀ ls : Array Slot, lv_has ls 7 [(0, .ref (bF 0)), (3, .long x3_15), (5, .int x5_2), (6, .int x6_16)] → W p l e (headSpec wsX7_checksumOfWires rtX7_checksumOfWires).room s m ([.ref (bF 0), .long x1] : List Value).toArray below meth c H locs 0 0 (vx_MQ below (nJ0 A) (xE g A (cF g bF qF0 (bS 0) qF2 qF3 qF4 vF ++ (cS g bS (bC 0) qS1 ++ (cC g bC vC))) (exN ek)) ([.ref (bF 0), .long x1] : List Value).toArray s 1 6 A) (F0 m 54 ls [])) ?_ ?_ FU
                  · intro x3_15 x6_16 hf; cases hf
                  · intro self17 ih19 x3_15 x6_16 hf H locs hP hD hS ls hl
                    unfold f_X7_checksumOfWires_L54 at hf
                    refine lv_iload hx hb dX7_checksumOfWires_54 (lv_at hl 3 rfl) ?_
                    refine lv_aload_n hx hb dX7_checksumOfWires_56 rfl (lv_at hl 0 rfl) ?_
                    refine va_get (D := g.1) (ci := 7) (fs := fcF bF qF0 (bS 0) qF2 qF3 qF4 vF) (v := .ref (bS 0)) (C := RX7) (T := TX7) (N := 12) hx hb htu hinX7 hown hK hP 0 rfl rfl 1 (by decide) k_2_19 (fun _ h9 => h9) rfl dX7_checksumOfWires_57 ?_
                    refine va_get (D := g.1) (ci := 4) (fs := fcS bS (bC 0) qS1) (v := .ref (bC 0)) (C := RX4) (T := TX4) (N := 2) hx hb htu hinX4 hown hK hP 6 rfl rfl 0 (by decide) k_1_150 (fun _ h9 => h9) rfl dX7_checksumOfWires_60 ?_
                    refine va_get (D := g.1) (ci := 0) (fs := fcC bC vC) (v := .ref (bC 6)) (C := RX0) (T := TX0) (N := 14) hx hb htu hinX0 hown hK hP 7 rfl rfl 5 (by decide) k_1_72 (fun _ h9 => h9) rfl dX7_checksumOfWires_63 ?_
                    refine lv_iload hx hb dX7_checksumOfWires_66 (lv_at hl 2 rfl) ?_
                    obtain ⟨h20, hf⟩ := gd_in hf
                    refine va_iald (D := g.1) (f := (vC.2.1 5)) hx hb hK hP 9 0 rfl rfl h20 dX7_checksumOfWires_68 ?_
                    refine lv_icmp_ge (tgt := 104) hx hb dX7_checksumOfWires_69 (by decide) (fun c21 => ?_) (fun c21 => ?_)
                    · have hf := it_t hf c21
                      refine lv_iinc (v := (x5_2 + (1 : Int32))) (lv' := [(5, .int (x5_2 + (1 : Int32))), (0, .ref (bF 0)), (3, .long x3_15), (6, .int x6_16)]) hx hb dX7_checksumOfWires_104 hl (k := 2) rfl rfl (by decide) rfl (fun ls hl => ?_)
                      refine lv_goto (tgt := 5) hx hb dX7_checksumOfWires_107 (by decide) ?_
                      exact ih5 x3_15 (x5_2 + (1 : Int32)) hf H locs hP hD hS _ (lv_sub hl [1, 2, 0] rfl)
                    · have hf := it_f hf c21
                      refine lv_ldc2 (v := (31 : Int64)) hx hb hown k_3_42 dX7_checksumOfWires_72 ?_
                      refine lv_lload_n hx hb dX7_checksumOfWires_75 rfl (lv_at hl 1 rfl) ?_
                      refine lv_lmul hx hb dX7_checksumOfWires_76 ?_
                      refine lv_aload_n hx hb dX7_checksumOfWires_77 rfl (lv_at hl 0 rfl) ?_
                      refine va_get (D := g.1) (ci := 7) (fs := fcF bF qF0 (bS 0) qF2 qF3 qF4 vF) (v := .ref (bS 0)) (C := RX7) (T := TX7) (N := 12) hx hb htu hinX7 hown hK hP 0 rfl rfl 1 (by decide) k_2_19 (fun _ h9 => h9) rfl dX7_checksumOfWires_78 ?_
                      refine va_get (D := g.1) (ci := 4) (fs := fcS bS (bC 0) qS1) (v := .ref (bC 0)) (C := RX4) (T := TX4) (N := 2) hx hb htu hinX4 hown hK hP 6 rfl rfl 0 (by decide) k_1_150 (fun _ h9 => h9) rfl dX7_checksumOfWires_81 ?_
                      refine va_get (D := g.1) (ci := 0) (fs := fcC bC vC) (v := .ref (bC 7)) (C := RX0) (T := TX0) (N := 14) hx hb htu hinX0 hown hK hP 7 rfl rfl 6 (by decide) k_1_75 (fun _ h9 => h9) rfl dX7_checksumOfWires_84 ?_
                      refine lv_iload hx hb dX7_checksumOfWires_87 (lv_at hl 2 rfl) ?_
                      refine lv_iconst (v := (4 : Int32)) hx hb dX7_checksumOfWires_89 (by decide) ?_
                      refine lv_imul hx hb dX7_checksumOfWires_90 ?_
                      refine lv_iload hx hb dX7_checksumOfWires_91 (lv_at hl 3 rfl) ?_
                      refine lv_iadd hx hb dX7_checksumOfWires_93 ?_
                      obtain ⟨h22, hf⟩ := gd_in hf
                      refine va_iald (D := g.1) (f := (vC.2.1 6)) hx hb hK hP 10 0 rfl rfl h22 dX7_checksumOfWires_94 ?_
                      refine lv_i2l (v := ((vC.2.1 6 (((x5_2 * (4 : Int32)) + x6_16)).toNatClampNeg)).toInt64) hx hb dX7_checksumOfWires_95 rfl ?_
                      refine lv_ladd hx hb dX7_checksumOfWires_96 ?_
                      refine lv_topl (fun y23 ey23 => ?_)
                      have hf := bn_at hf ey23
                      refine lv_lstore_n (lv' := [(3, .long y23), (0, .ref (bF 0)), (5, .int x5_2), (6, .int x6_16)]) hx hb dX7_checksumOfWires_97 rfl hl (by decide) rfl (fun ls hl => ?_)
                      refine lv_iinc (v := (x6_16 + (1 : Int32))) (lv' := [(6, .int (x6_16 + (1 : Int32))), (3, .long y23), (0, .ref (bF 0)), (5, .int x5_2)]) hx hb dX7_checksumOfWires_98 hl (k := 3) rfl rfl (by decide) rfl (fun ls hl => ?_)
                      refine lv_goto (tgt := 54) hx hb dX7_checksumOfWires_101 (by decide) ?_
                      exact ih19 y23 (x6_16 + (1 : Int32)) hf H locs hP hD hS _ (lv_sub hl [2, 1, 3, 0] rfl)
                exact hL18 x3_9 (0 : Int32) hf H locs hP hD hS _ (lv_sub hl [1, 2, 3, 0] rfl)
              · have hf := it_f hf c14
                refine lv_ldc2 (v := (31 : Int64)) hx hb hown k_3_42 dX7_checksumOfWires_29 ?_
                refine lv_lload_n hx hb dX7_checksumOfWires_32 rfl (lv_at hl 1 rfl) ?_
                refine lv_lmul hx hb dX7_checksumOfWires_33 ?_
                refine lv_aload_n hx hb dX7_checksumOfWires_34 rfl (lv_at hl 0 rfl) ?_
                refine lv_iload hx hb dX7_checksumOfWires_35 (lv_at hl 2 rfl) ?_
                refine lv_iload hx hb dX7_checksumOfWires_37 (lv_at hl 3 rfl) ?_
                obtain ⟨c24, r25, hg26, hf⟩ := o2_at hf
                rcases Classical.em (¬ c24 = 0) with hc24 | hc24
                · have hf := it_f hf hc24
                  obtain ⟨rfl, rfl⟩ := kp_2 hf
                  exact kx_viW ⟨hx, hb, hml, hown, htu⟩ hK hP hD hS hA hG (t_X7_wire l hst g bF qF0 qF2 qF3 qF4 vF bS qS1 bC vC x5_2 x6_10 r25 c24 hg26 hc24) (cwV 2 htu (gU_V mw_3_125 hcX7_wire) rfl rfl rfl hdX7_wire ⟨Nat.le_of_ble_eq_true rfl, Nat.le_of_ble_eq_true rfl⟩) (q0 := 0) (ci := 7) (fs := fcF bF qF0 (bS 0) qF2 qF3 qF4 vF) (q := (RX7, TX7, 12)) rfl rfl rfl (As := [.int x5_2, .int x6_10]) (rest := [.long ((31 : Int64) * x3_9)]) rfl rfl hl.1 (Nat.le_of_ble_eq_true rfl) dX7_checksumOfWires_39 ⟨Nat.le_refl _, Nat.le_refl _⟩ ⟨Nat.le_refl _, Nat.le_refl _⟩ hT hlocks
                have hc24 := Classical.not_not.mp hc24
                have hf := it_t hf hc24
                rw [hc24] at hg26
                refine k_viW ⟨hx, hb, hml, hown, htu⟩ hK hP hD hS hA hG (c_X7_wire l g bF qF0 qF2 qF3 qF4 vF bS qS1 bC vC x5_2 x6_10 r25 hg26) (cwV 2 htu (gU_V mw_3_125 hcX7_wire) rfl rfl rfl hdX7_wire ⟨Nat.le_of_ble_eq_true rfl, Nat.le_of_ble_eq_true rfl⟩) (q0 := 0) (ci := 7) (fs := fcF bF qF0 (bS 0) qF2 qF3 qF4 vF) (q := (RX7, TX7, 12)) rfl rfl rfl (As := [.int x5_2, .int x6_10]) (rest := [.long ((31 : Int64) * x3_9)]) rfl rfl hl.1 (Nat.le_of_ble_eq_true rfl) dX7_checksumOfWires_39 (k1 := 0) (n1 := 0) rfl rfl ⟨Nat.zero_le _, Nat.zero_le _⟩ (fun H locs hP hD hS => ?_)
                refine lv_i2l (v := (r25).toInt64) hx hb dX7_checksumOfWires_42 rfl ?_
                refine lv_ladd hx hb dX7_checksumOfWires_43 ?_
                refine lv_lstore_n (lv' := [(3, .long (((31 : Int64) * x3_9) + ((r25).toInt64))), (0, .ref (bF 0)), (5, .int x5_2), (6, .int x6_10)]) hx hb dX7_checksumOfWires_44 rfl hl (by decide) rfl (fun ls hl => ?_)
                refine lv_iinc (v := (x6_10 + (1 : Int32))) (lv' := [(6, .int (x6_10 + (1 : Int32))), (3, .long (((31 : Int64) * x3_9) + ((r25).toInt64))), (0, .ref (bF 0)), (5, .int x5_2)]) hx hb dX7_checksumOfWires_45 hl (k := 3) rfl rfl (by decide) rfl (fun ls hl => ?_)
                refine lv_goto (tgt := 23) hx hb dX7_checksumOfWires_48 (by decide) ?_
                exact ih13 (((31 : Int64) * x3_9) + ((r25).toInt64)) (x6_10 + (1 : Int32)) hf H locs hP hD hS _ (lv_sub hl [2, 1, 3, 0] rfl)
          exact hL12 x3_1 (0 : Int32) hf H locs hP hD hS _ (lv_sub hl [1, 2, 3, 0] rfl)
    exact hL4 x1 (0 : Int32) hf H locs hP hD hS _ (lv_sub hl [2, 1, 0] rfl)
  rw [hH, hlo] at hW
  exact hW
def f_X7_checksumOfTests_L74 (vC : Vs) (vT : Vs) (vF_2 : Vs) (x5_8 : Int32) (self9 : Int64 → Int32 → Option (Int64 × Vs × Vs × Vs × Vs)) (self26 : Int64 → Int32 → Option (Int64 × Vs × Vs × Vs × Vs)) (x3_24 : Int64) (x6_25 : Int32) : Option (Int64 × Vs × Vs × Vs × Vs) :=
  if (vC.1 2) ≤ x6_25 then gd (inb x5_8 16) (o1 (f_J13_bitCount_95d88 (vF_2.2.2 9 (x5_8).toNatClampNeg)) (fun (r31 : Int32) => self9 (((31 : Int64) * x3_24) + ((r31).toInt64)) (x5_8 + (1 : Int32)))) else o1 (f_X6_noted vT x5_8 x6_25) (fun (r33 : Int32) => self26 (((31 : Int64) * x3_24) + ((r33).toInt64)) (x6_25 + (1 : Int32)))
def f_X7_checksumOfTests_L28 (vC : Vs) (vT : Vs) (vF_2 : Vs) (vG_4 : Vs) (x5_8 : Int32) (self9 : Int64 → Int32 → Option (Int64 × Vs × Vs × Vs × Vs)) (self20 : Int64 → Int32 → Option (Int64 × Vs × Vs × Vs × Vs)) (x3_18 : Int64) (x6_19 : Int32) : Option (Int64 × Vs × Vs × Vs × Vs) :=
  if (vC.1 1) ≤ x6_19 then lp (f_X7_checksumOfTests_L74 vC vT vF_2 x5_8 self9) (fun _ _ => none) FU x3_18 (0 : Int32) else o1 (f_X2_lane vG_4 x6_19 x5_8) (fun (r35 : Int32) => self20 (((31 : Int64) * x3_18) + ((r35).toInt64)) (x6_19 + (1 : Int32)))
def f_X7_checksumOfTests_L10 (vC : Vs) (vT : Vs) (vF_2 : Vs) (vRT_3 : Vs) (vG_4 : Vs) (vB_5 : Vs) (self9 : Int64 → Int32 → Option (Int64 × Vs × Vs × Vs × Vs)) (x3_7 : Int64) (x5_8 : Int32) : Option (Int64 × Vs × Vs × Vs × Vs) :=
  if (vT.1 0) ≤ x5_8 then some (x3_7, vF_2, vRT_3, vG_4, vB_5) else lp (f_X7_checksumOfTests_L28 vC vT vF_2 vG_4 x5_8 self9) (fun _ _ => none) FU x3_7 (0 : Int32)
def f_X7_checksumOfTests (vF : Vs) (vC : Vs) (vT : Vs) (nRT : Nat) (vRT : Vs) (vG : Vs) (vB : Vs) (x1 : Int64) : Option (Int64 × Vs × Vs × Vs × Vs) :=
  o5 (f_X7_listFoundByTests vF vC vT nRT vRT vG vB) (fun (r1 : Int64) (vF_2 : Vs) (vRT_3 : Vs) (vG_4 : Vs) (vB_5 : Vs) => lp (f_X7_checksumOfTests_L10 vC vT vF_2 vRT_3 vG_4 vB_5) (fun _ _ => none) FU x1 (0 : Int32))
abbrev wsX7_checksumOfTests : List Cond := .code yX7_checksumOfTests cX7_checksumOfTests 7 (some .long) :: UW
abbrev rmX7_checksumOfTests : Room := { frames := 5, cells := 0, slots := 0, locals := 124 }
set_option maxHeartbeats 4000000 in
set_option maxRecDepth 100000 in
theorem c_X7_checksumOfTests (l : Launch) (g : Gx) (bF : Nat → Nat) (qF0 : Nat) (qF2 : Nat) (qF3 : Nat) (vF : Vs) (bS : Nat → Nat) (bC : Nat → Nat) (vC : Vs) (bT : Nat → Nat) (vT : Vs) (bRT : Nat → Nat) (nRT : Nat) (vRT : Vs) (bG : Nat → Nat) (vG : Vs) (bB : Nat → Nat) (vB : Vs) (x1 : Int64) (r : Int64) (vF1 : Vs) (vRT1 : Vs) (vG1 : Vs) (vB1 : Vs) (hf : f_X7_checksumOfTests vF vC vT nRT vRT vG vB x1 = some (r, vF1, vRT1, vG1, vB1)) : CtJ l yX7_checksumOfTests wsX7_checksumOfTests rmX7_checksumOfTests g [.ref (bF 0), .long x1] (cF g bF qF0 (bS 0) qF2 qF3 (bRT 0) vF ++ (cS g bS (bC 0) (bT 0) ++ (cC g bC vC ++ (cT g bT vT ++ (cR g bRT nRT (bG 0) (bB 0) vRT ++ (cL g bG vG ++ (cL g bB vB))))))) (cF g bF qF0 (bS 0) qF2 qF3 (bRT 0) vF1 ++ (cS g bS (bC 0) (bT 0) ++ (cC g bC vC ++ (cT g bT vT ++ (cR g bRT nRT (bG 0) (bB 0) vRT1 ++ (cL g bG vG1 ++ (cL g bB vB1))))))) r 0 0 := by
  unfold CtJ
  intro sz
  refine Met.ofW (cc := cX7_checksumOfTests) (maxL := 7) (ret := (some .long)) (by decide) rfl ?_
  intro p e s m args below meth c s₁ B hml hv
  obtain ⟨rfl, hsz, hP, hK, hD0, hG⟩ := hv
  have hx := B.exec
  have hb := B.bytes
  have hr := B.returns
  have hts := atoms_spec (ws := wsX7_checksumOfTests) B.pre
  have hown : s.vm.findClass RX7 = some m.cls := findClass_of_methodNamed B.named
  have hlocks := B.notSynchronized
  subst hsz
  have hD := hD0.self (sz := s.heap.size)
  generalize hAe : va_A (cF g bF qF0 (bS 0) qF2 qF3 (bRT 0) vF ++ (cS g bS (bC 0) (bT 0) ++ (cC g bC vC ++ (cT g bT vT ++ (cR g bRT nRT (bG 0) (bB 0) vRT ++ (cL g bG vG ++ (cL g bB vB))))))) s.heap.size = A at hD hG ⊢
  have hA : ∀ q : Nat, s.heap.size ≤ q → A q := fun q h => by rw [← hAe]; exact Or.inr h
  clear hAe hD0
  have hS : va_S A s.heap s.heap [] := va_S.rf
  have hl := lv_entry ([.ref (bF 0), .long x1]) (n := 7) (Nat.le_of_ble_eq_true rfl)
  rw [lg_entry_eq]
  generalize (lg_sl ([.ref (bF 0), .long x1]) ++ List.replicate (7 - (lg_sl ([.ref (bF 0), .long x1])).length) Slot.unset).toArray = ls at hl ⊢
  have hl : lv_has ls 7 [(0, .ref (bF 0)), (1, .long x1)] := hl
  have htu : ∀ w ∈ UW, w.before _ s = true := fun w h => hts w (List.mem_cons_of_mem _ h)
  have k_2_19 := htu _ mw_2_19
  have k_1_153 := htu _ mw_1_153
  have k_1_129 := htu _ mw_1_129
  have k_1_150 := htu _ mw_1_150
  have k_1_60 := htu _ mw_1_60
  have k_1_65 := htu _ mw_1_65
  have k_3_42 := htu _ mw_3_42
  have k_2_27 := htu _ mw_2_27
  have k_2_22 := htu _ mw_2_22
  have k_1_239 := htu _ mw_1_239
  unfold f_X7_checksumOfTests at hf
  obtain ⟨H, hH⟩ : ∃ z, z = s.heap := ⟨_, rfl⟩
  obtain ⟨locs, hlo⟩ : ∃ z : List Loc, z = [] := ⟨_, rfl⟩
  have hS : va_S A s.heap H locs := by rw [hH, hlo]; exact hS
  rw [← hH] at hP
  have hW : W p l e (headSpec wsX7_checksumOfTests rmX7_checksumOfTests).room s m ([.ref (bF 0), .long x1] : List Value).toArray below meth c H locs 0 0 (MQ below (qJ g A (cF g bF qF0 (bS 0) qF2 qF3 (bRT 0) vF1 ++ (cS g bS (bC 0) (bT 0) ++ (cC g bC vC ++ (cT g bT vT ++ (cR g bRT nRT (bG 0) (bB 0) vRT1 ++ (cL g bG vG1 ++ (cL g bB vB1))))))) r) ([.ref (bF 0), .long x1] : List Value).toArray s 0 0 A) (F0 m 0 ls []) := by
    refine lv_aload_n hx hb dX7_checksumOfTests_0 rfl (lv_at hl 0 rfl) ?_
    obtain ⟨r1, vF_2, vRT_3, vG_4, vB_5, hg6, hf⟩ := o5_at hf
    refine k_vlW ⟨hx, hb, hml, hown, htu⟩ hK hP hD hS hA hG (c_X7_listFoundByTests l g bF qF0 qF2 qF3 vF bS bC vC bT vT bRT nRT vRT bG vG bB vB r1 vF_2 vRT_3 vG_4 vB_5 hg6) (cwV 0 htu (gU_V mw_2_153 hcX7_listFoundByTests) rfl rfl rfl hdX7_listFoundByTests ⟨Nat.le_of_ble_eq_true rfl, Nat.le_of_ble_eq_true rfl⟩) (q0 := 0) (ci := 7) (fs := fcF bF qF0 (bS 0) qF2 qF3 (bRT 0) vF) (q := (RX7, TX7, 12)) rfl rfl rfl (As := []) (rest := []) rfl rfl hl.1 (Nat.le_of_ble_eq_true rfl) dX7_checksumOfTests_1 (k1 := 0) (n1 := 0) rfl rfl ⟨Nat.zero_le _, Nat.zero_le _⟩ (fun H locs hP hD hS => ?_)
    refine lv_pop2_2 hx hb dX7_checksumOfTests_4 rfl ?_
    refine lv_lload_n hx hb dX7_checksumOfTests_5 rfl (lv_at hl 1 rfl) ?_
    refine lv_lstore_n (lv' := [(3, .long x1), (0, .ref (bF 0)), (1, .long x1)]) hx hb dX7_checksumOfTests_6 rfl hl (by decide) rfl (fun ls hl => ?_)
    refine lv_iconst (v := (0 : Int32)) hx hb dX7_checksumOfTests_7 (by decide) ?_
    refine lv_istore (lv' := [(5, .int (0 : Int32)), (3, .long x1), (0, .ref (bF 0)), (1, .long x1)]) hx hb dX7_checksumOfTests_8 hl (by decide) rfl (fun ls hl => ?_)
    have hL10 : ∀ (x3_7 : Int64) (x5_8 : Int32), lp (f_X7_checksumOfTests_L10 vC vT vF_2 vRT_3 vG_4 vB_5) (fun _ _ => none) FU x3_7 x5_8 = some (r, vF1, vRT1, vG1, vB1) → ∀ (H : Heap) (locs : List Loc), va_P g.1 vwCl (cF g bF qF0 (bS 0) qF2 qF3 (bRT 0) vF_2 ++ (cS g bS (bC 0) (bT 0) ++ (cC g bC vC ++ (cT g bT vT ++ (cR g bRT nRT (bG 0) (bB 0) vRT_3 ++ (cL g bG vG_4 ++ (cL g bB vB_5))))))) H → va_D A (cF g bF qF0 (bS 0) qF2 qF3 (bRT 0) vF_2 ++ (cS g bS (bC 0) (bT 0) ++ (cC g bC vC ++ (cT g bT vT ++ (cR g bRT nRT (bG 0) (bB 0) vRT_3 ++ (cL g bG vG_4 ++ (cL g bB vB_5))))))) → va_S A s.heap H locs → ∀ ls : Array Slot, lv_has ls 7 [(0, .ref (bF 0)), (3, .long x3_7), (5, .int x5_8)] → W p l e (headSpec wsX7_checksumOfTests rmX7_checksumOfTests).room s m ([.ref (bF 0), .long x1] : List Value).toArray below meth c H locs 0 0 (MQ below (qJ g A (cF g bF qF0 (bS 0) qF2 qF3 (bRT 0) vF1 ++ (cS g bS (bC 0) (bT 0) ++ (cC g bC vC ++ (cT g bT vT ++ (cR g bRT nRT (bG 0) (bB 0) vRT1 ++ (cL g bG vG1 ++ (cL g bB vB1))))))) r) ([.ref (bF 0), .long x1] : List Value).toArray s 0 0 A) (F0 m 10 ls []) := by
      refine lp_ind (T := Int64 → Int32 → Option (Int64 × Vs × Vs × Vs × Vs)) (fun self9 => ∀ (x3_7 : Int64) (x5_8 : Int32), self9 x3_7 x5_8 = some (r, vF1, vRT1, vG1, vB1) → ∀ (H : Heap) (locs : List Loc), va_P g.1 vwCl (cF g bF qF0 (bS 0) qF2 qF3 (bRT 0) vF_2 ++ (cS g bS (bC 0) (bT 0) ++ (cC g bC vC ++ (cT g bT vT ++ (cR g bRT nRT (bG 0) (bB 0) vRT_3 ++ (cL g bG vG_4 ++ (cL g bB vB_5))))))) H → va_D A (cF g bF qF0 (bS 0) qF2 qF3 (bRT 0) vF_2 ++ (cS g bS (bC 0) (bT 0) ++ (cC g bC vC ++ (cT g bT vT ++ (cR g bRT nRT (bG 0) (bB 0) vRT_3 ++ (cL g bG vG_4 ++ (cL g bB vB_5))))))) → va_S A s.heap H locs → ∀ ls : Array Slot, lv_has ls 7 [(0, .ref (bF 0)), (3, .long x3_7), (5, .int x5_8)] → W p l e (headSpec wsX7_checksumOfTests rmX7_checksumOfTests).room s m ([.ref (bF 0), .long x1] : List Value).toArray below meth c H locs 0 0 (MQ below (qJ g A (cF g bF qF0 (bS 0) qF2 qF3 (bRT 0) vF1 ++ (cS g bS (bC 0) (bT 0) ++ (cC g bC vC ++ (cT g bT vT ++ (cR g bRT nRT (bG 0) (bB 0) vRT1 ++ (cL g bG vG1 ++ (cL g bB vB1))))))) r) ([.ref (bF 0), .long x1] : List Value).toArray s 0 0 A) (F0 m 10 ls [])) ?_ ?_ FU
      · intro x3_7 x5_8 hf; cases hf
      · intro self9 ih11 x3_7 x5_8 hf H locs hP hD hS ls hl
        unfold f_X7_checksumOfTests_L10 at hf
        refine lv_iload hx hb dX7_checksumOfTests_10 (lv_at hl 2 rfl) ?_
        refine lv_aload_n hx hb dX7_checksumOfTests_12 rfl (lv_at hl 0 rfl) ?_
        refine va_get (D := g.1) (ci := 7) (fs := fcF bF qF0 (bS 0) qF2 qF3 (bRT 0) vF_2) (v := .ref (bS 0)) (C := RX7) (T := TX7) (N := 12) hx hb htu hinX7 hown hK hP 0 rfl rfl 1 (by decide) k_2_19 (fun _ h9 => h9) rfl dX7_checksumOfTests_13 ?_
        refine va_get (D := g.1) (ci := 4) (fs := fcS bS (bC 0) (bT 0)) (v := .ref (bT 0)) (C := RX4) (T := TX4) (N := 2) hx hb htu hinX4 hown hK hP 6 rfl rfl 1 (by decide) k_1_153 (fun _ h9 => h9) rfl dX7_checksumOfTests_16 ?_
        refine va_get (D := g.1) (ci := 6) (fs := fcT bT vT) (v := .int (vT.1 0)) (C := RX6) (T := TX6) (N := 5) hx hb htu hinX6 hown hK hP 18 rfl rfl 0 (by decide) k_1_129 (fun _ h9 => h9) rfl dX7_checksumOfTests_19 ?_
        refine lv_icmp_ge (tgt := 141) hx hb dX7_checksumOfTests_22 (by decide) (fun c12 => ?_) (fun c12 => ?_)
        · have hf := it_t hf c12
          refine lv_lload_n hx hb dX7_checksumOfTests_141 rfl (lv_at hl 1 rfl) ?_
          obtain ⟨e13, e14, e15, e16, e17⟩ := kp_5 hf
          rw [e14] at hP hD
          rw [e15] at hP hD
          rw [e16] at hP hD
          rw [e17] at hP hD
          exact k_lret hx hb hr hlocks hK hP hD hS e13 dX7_checksumOfTests_142
        · have hf := it_f hf c12
          refine lv_iconst (v := (0 : Int32)) hx hb dX7_checksumOfTests_25 (by decide) ?_
          refine lv_istore (lv' := [(6, .int (0 : Int32)), (0, .ref (bF 0)), (3, .long x3_7), (5, .int x5_8)]) hx hb dX7_checksumOfTests_26 hl (by decide) rfl (fun ls hl => ?_)
          have hL21 : ∀ (x3_18 : Int64) (x6_19 : Int32), lp (f_X7_checksumOfTests_L28 vC vT vF_2 vG_4 x5_8 self9) (fun _ _ => none) FU x3_18 x6_19 = some (r, vF1, vRT1, vG1, vB1) → ∀ (H : Heap) (locs : List Loc), va_P g.1 vwCl (cF g bF qF0 (bS 0) qF2 qF3 (bRT 0) vF_2 ++ (cS g bS (bC 0) (bT 0) ++ (cC g bC vC ++ (cT g bT vT ++ (cR g bRT nRT (bG 0) (bB 0) vRT_3 ++ (cL g bG vG_4 ++ (cL g bB vB_5))))))) H → va_D A (cF g bF qF0 (bS 0) qF2 qF3 (bRT 0) vF_2 ++ (cS g bS (bC 0) (bT 0) ++ (cC g bC vC ++ (cT g bT vT ++ (cR g bRT nRT (bG 0) (bB 0) vRT_3 ++ (cL g bG vG_4 ++ (cL g bB vB_5))))))) → va_S A s.heap H locs → ∀ ls : Array Slot, lv_has ls 7 [(0, .ref (bF 0)), (3, .long x3_18), (5, .int x5_8), (6, .int x6_19)] → W p l e (headSpec wsX7_checksumOfTests rmX7_checksumOfTests).room s m ([.ref (bF 0), .long x1] : List Value).toArray below meth c H locs 0 0 (MQ below (qJ g A (cF g bF qF0 (bS 0) qF2 qF3 (bRT 0) vF1 ++ (cS g bS (bC 0) (bT 0) ++ (cC g bC vC ++ (cT g bT vT ++ (cR g bRT nRT (bG 0) (bB 0) vRT1 ++ (cL g bG vG1 ++ (cL g bB vB1))))))) r) ([.ref (bF 0), .long x1] : List Value).toArray s 0 0 A) (F0 m 28 ls []) := by
            refine lp_ind (T := Int64 → Int32 → Option (Int64 × Vs × Vs × Vs × Vs)) (fun self20 => ∀ (x3_18 : Int64) (x6_19 : Int32), self20 x3_18 x6_19 = some (r, vF1, vRT1, vG1, vB1) → ∀ (H : Heap) (locs : List Loc), va_P g.1 vwCl (cF g bF qF0 (bS 0) qF2 qF3 (bRT 0) vF_2 ++ (cS g bS (bC 0) (bT 0) ++ (cC g bC vC ++ (cT g bT vT ++ (cR g bRT nRT (bG 0) (bB 0) vRT_3 ++ (cL g bG vG_4 ++ (cL g bB vB_5))))))) H → va_D A (cF g bF qF0 (bS 0) qF2 qF3 (bRT 0) vF_2 ++ (cS g bS (bC 0) (bT 0) ++ (cC g bC vC ++ (cT g bT vT ++ (cR g bRT nRT (bG 0) (bB 0) vRT_3 ++ (cL g bG vG_4 ++ (cL g bB vB_5))))))) → va_S A s.heap H locs → ∀ ls : Array Slot, lv_has ls 7 [(0, .ref (bF 0)), (3, .long x3_18), (5, .int x5_8), (6, .int x6_19)] → W p l e (headSpec wsX7_checksumOfTests rmX7_checksumOfTests).room s m ([.ref (bF 0), .long x1] : List Value).toArray below meth c H locs 0 0 (MQ below (qJ g A (cF g bF qF0 (bS 0) qF2 qF3 (bRT 0) vF1 ++ (cS g bS (bC 0) (bT 0) ++ (cC g bC vC ++ (cT g bT vT ++ (cR g bRT nRT (bG 0) (bB 0) vRT1 ++ (cL g bG vG1 ++ (cL g bB vB1))))))) r) ([.ref (bF 0), .long x1] : List Value).toArray s 0 0 A) (F0 m 28 ls [])) ?_ ?_ FU
            · intro x3_18 x6_19 hf; cases hf
            · intro self20 ih22 x3_18 x6_19 hf H locs hP hD hS ls hl
              unfold f_X7_checksumOfTests_L28 at hf
              refine lv_iload hx hb dX7_checksumOfTests_28 (lv_at hl 3 rfl) ?_
              refine lv_aload_n hx hb dX7_checksumOfTests_30 rfl (lv_at hl 0 rfl) ?_
              refine va_get (D := g.1) (ci := 7) (fs := fcF bF qF0 (bS 0) qF2 qF3 (bRT 0) vF_2) (v := .ref (bS 0)) (C := RX7) (T := TX7) (N := 12) hx hb htu hinX7 hown hK hP 0 rfl rfl 1 (by decide) k_2_19 (fun _ h9 => h9) rfl dX7_checksumOfTests_31 ?_
              refine va_get (D := g.1) (ci := 4) (fs := fcS bS (bC 0) (bT 0)) (v := .ref (bC 0)) (C := RX4) (T := TX4) (N := 2) hx hb htu hinX4 hown hK hP 6 rfl rfl 0 (by decide) k_1_150 (fun _ h9 => h9) rfl dX7_checksumOfTests_34 ?_
              refine va_get (D := g.1) (ci := 0) (fs := fcC bC vC) (v := .int (vC.1 1)) (C := RX0) (T := TX0) (N := 14) hx hb htu hinX0 hown hK hP 7 rfl rfl 1 (by decide) k_1_60 (fun _ h9 => h9) rfl dX7_checksumOfTests_37 ?_
              refine lv_icmp_ge (tgt := 71) hx hb dX7_checksumOfTests_40 (by decide) (fun c23 => ?_) (fun c23 => ?_)
              · have hf := it_t hf c23
                refine lv_iconst (v := (0 : Int32)) hx hb dX7_checksumOfTests_71 (by decide) ?_
                refine lv_istore (lv' := [(6, .int (0 : Int32)), (0, .ref (bF 0)), (3, .long x3_18), (5, .int x5_8)]) hx hb dX7_checksumOfTests_72 hl (by decide) rfl (fun ls hl => ?_)
                have hL27 : ∀ (x3_24 : Int64) (x6_25 : Int32), lp (f_X7_checksumOfTests_L74 vC vT vF_2 x5_8 self9) (fun _ _ => none) FU x3_24 x6_25 = some (r, vF1, vRT1, vG1, vB1) → ∀ (H : Heap) (locs : List Loc), va_P g.1 vwCl (cF g bF qF0 (bS 0) qF2 qF3 (bRT 0) vF_2 ++ (cS g bS (bC 0) (bT 0) ++ (cC g bC vC ++ (cT g bT vT ++ (cR g bRT nRT (bG 0) (bB 0) vRT_3 ++ (cL g bG vG_4 ++ (cL g bB vB_5))))))) H → va_D A (cF g bF qF0 (bS 0) qF2 qF3 (bRT 0) vF_2 ++ (cS g bS (bC 0) (bT 0) ++ (cC g bC vC ++ (cT g bT vT ++ (cR g bRT nRT (bG 0) (bB 0) vRT_3 ++ (cL g bG vG_4 ++ (cL g bB vB_5))))))) → va_S A s.heap H locs → ∀ ls : Array Slot, lv_has ls 7 [(0, .ref (bF 0)), (3, .long x3_24), (5, .int x5_8), (6, .int x6_25)] → W p l e (headSpec wsX7_checksumOfTests rmX7_checksumOfTests).room s m ([.ref (bF 0), .long x1] : List Value).toArray below meth c H locs 0 0 (MQ below (qJ g A (cF g bF qF0 (bS 0) qF2 qF3 (bRT 0) vF1 ++ (cS g bS (bC 0) (bT 0) ++ (cC g bC vC ++ (cT g bT vT ++ (cR g bRT nRT (bG 0) (bB 0) vRT1 ++ (cL g bG vG1 ++ (cL g bB vB1))))))) r) ([.ref (bF 0), .long x1] : List Value).toArray s 0 0 A) (F0 m 74 ls []) := by
                  refine lp_ind (T := Int64 → Int32 → Option (Int64 × Vs × Vs × Vs × Vs)) (fun self26 => ∀ (x3_24 : Int64) (x6_25 : Int32), self26 x3_24 x6_25 = some (r, vF1, vRT1, vG1, vB1) → ∀ (H : Heap) (locs : List Loc), va_P g.1 vwCl (cF g bF qF0 (bS 0) qF2 qF3 (bRT 0) vF_2 ++ (cS g bS (bC 0) (bT 0) ++ (cC g bC vC ++ (cT g bT vT ++ (cR g bRT nRT (bG 0) (bB 0) vRT_3 ++ (cL g bG vG_4 ++ (cL g bB vB_5))))))) H → va_D A (cF g bF qF0 (bS 0) qF2 qF3 (bRT 0) vF_2 ++ (cS g bS (bC 0) (bT 0) ++ (cC g bC vC ++ (cT g bT vT ++ (cR g bRT nRT (bG 0) (bB 0) vRT_3 ++ (cL g bG vG_4 ++ (cL g bB vB_5))))))) → va_S A s.heap H locs → ∀ ls : Array Slot, lv_has ls 7 [(0, .ref (bF 0)), (3, .long x3_24), (5, .int x5_8), (6, .int x6_25)] → W p l e (headSpec wsX7_checksumOfTests rmX7_checksumOfTests).room s m ([.ref (bF 0), .long x1] : List Value).toArray below meth c H locs 0 0 (MQ below (qJ g A (cF g bF qF0 (bS 0) qF2 qF3 (bRT 0) vF1 ++ (cS g bS (bC 0) (bT 0) ++ (cC g bC vC ++ (cT g bT vT ++ (cR g bRT nRT (bG 0) (bB 0) vRT1 ++ (cL g bG vG1 ++ (cL g bB vB1))))))) r) ([.ref (bF 0), .long x1] : List Value).toArray s 0 0 A) (F0 m 74 ls [])) ?_ ?_ FU
                  · intro x3_24 x6_25 hf; cases hf
                  · intro self26 ih28 x3_24 x6_25 hf H locs hP hD hS ls hl
                    unfold f_X7_checksumOfTests_L74 at hf
                    refine lv_iload hx hb dX7_checksumOfTests_74 (lv_at hl 3 rfl) ?_
                    refine lv_aload_n hx hb dX7_checksumOfTests_76 rfl (lv_at hl 0 rfl) ?_
                    refine va_get (D := g.1) (ci := 7) (fs := fcF bF qF0 (bS 0) qF2 qF3 (bRT 0) vF_2) (v := .ref (bS 0)) (C := RX7) (T := TX7) (N := 12) hx hb htu hinX7 hown hK hP 0 rfl rfl 1 (by decide) k_2_19 (fun _ h9 => h9) rfl dX7_checksumOfTests_77 ?_
                    refine va_get (D := g.1) (ci := 4) (fs := fcS bS (bC 0) (bT 0)) (v := .ref (bC 0)) (C := RX4) (T := TX4) (N := 2) hx hb htu hinX4 hown hK hP 6 rfl rfl 0 (by decide) k_1_150 (fun _ h9 => h9) rfl dX7_checksumOfTests_80 ?_
                    refine va_get (D := g.1) (ci := 0) (fs := fcC bC vC) (v := .int (vC.1 2)) (C := RX0) (T := TX0) (N := 14) hx hb htu hinX0 hown hK hP 7 rfl rfl 2 (by decide) k_1_65 (fun _ h9 => h9) rfl dX7_checksumOfTests_83 ?_
                    refine lv_icmp_ge (tgt := 117) hx hb dX7_checksumOfTests_86 (by decide) (fun c29 => ?_) (fun c29 => ?_)
                    · have hf := it_t hf c29
                      refine lv_ldc2 (v := (31 : Int64)) hx hb hown k_3_42 dX7_checksumOfTests_117 ?_
                      refine lv_lload_n hx hb dX7_checksumOfTests_120 rfl (lv_at hl 1 rfl) ?_
                      refine lv_lmul hx hb dX7_checksumOfTests_121 ?_
                      refine lv_aload_n hx hb dX7_checksumOfTests_122 rfl (lv_at hl 0 rfl) ?_
                      refine va_get (D := g.1) (ci := 7) (fs := fcF bF qF0 (bS 0) qF2 qF3 (bRT 0) vF_2) (v := .ref (bF 10)) (C := RX7) (T := TX7) (N := 12) hx hb htu hinX7 hown hK hP 0 rfl rfl 9 (by decide) k_2_27 (fun _ h9 => h9) rfl dX7_checksumOfTests_123 ?_
                      refine lv_iload hx hb dX7_checksumOfTests_126 (lv_at hl 2 rfl) ?_
                      obtain ⟨h30, hf⟩ := gd_in hf
                      refine va_lald (D := g.1) (f := (vF_2.2.2 9)) hx hb hK hP 3 1 rfl rfl h30 dX7_checksumOfTests_128 ?_
                      obtain ⟨r31, hg32, hf⟩ := o1_at hf
                      refine k_si0 ⟨hx, hb, hml, hown, htu⟩ hK hP hD hS hA hG (c_J13_bitCount_95d88 l g (vF_2.2.2 9 (x5_8).toNatClampNeg) r31 hg32) (va_cwS 1 htu (gU_S mw_2_171 hcJ13_bitCount_95d88) rfl rfl rfl hdJ13_bitCount_95d88 ⟨Nat.le_of_ble_eq_true rfl, Nat.le_of_ble_eq_true rfl⟩) (As := [.long (vF_2.2.2 9 (x5_8).toNatClampNeg)]) (rest := [.long ((31 : Int64) * x3_24)]) rfl rfl hl.1 (Nat.le_of_ble_eq_true rfl) dX7_checksumOfTests_129 (k1 := 0) (n1 := 0) rfl rfl ⟨Nat.zero_le _, Nat.zero_le _⟩ (fun H locs hP hD hS => ?_)
                      refine lv_i2l (v := (r31).toInt64) hx hb dX7_checksumOfTests_132 rfl ?_
                      refine lv_ladd hx hb dX7_checksumOfTests_133 ?_
                      refine lv_lstore_n (lv' := [(3, .long (((31 : Int64) * x3_24) + ((r31).toInt64))), (0, .ref (bF 0)), (5, .int x5_8), (6, .int x6_25)]) hx hb dX7_checksumOfTests_134 rfl hl (by decide) rfl (fun ls hl => ?_)
                      refine lv_iinc (v := (x5_8 + (1 : Int32))) (lv' := [(5, .int (x5_8 + (1 : Int32))), (3, .long (((31 : Int64) * x3_24) + ((r31).toInt64))), (0, .ref (bF 0)), (6, .int x6_25)]) hx hb dX7_checksumOfTests_135 hl (k := 2) rfl rfl (by decide) rfl (fun ls hl => ?_)
                      refine lv_goto (tgt := 10) hx hb dX7_checksumOfTests_138 (by decide) ?_
                      exact ih11 (((31 : Int64) * x3_24) + ((r31).toInt64)) (x5_8 + (1 : Int32)) hf H locs hP hD hS _ (lv_sub hl [2, 1, 0] rfl)
                    · have hf := it_f hf c29
                      refine lv_ldc2 (v := (31 : Int64)) hx hb hown k_3_42 dX7_checksumOfTests_89 ?_
                      refine lv_lload_n hx hb dX7_checksumOfTests_92 rfl (lv_at hl 1 rfl) ?_
                      refine lv_lmul hx hb dX7_checksumOfTests_93 ?_
                      refine lv_aload_n hx hb dX7_checksumOfTests_94 rfl (lv_at hl 0 rfl) ?_
                      refine va_get (D := g.1) (ci := 7) (fs := fcF bF qF0 (bS 0) qF2 qF3 (bRT 0) vF_2) (v := .ref (bS 0)) (C := RX7) (T := TX7) (N := 12) hx hb htu hinX7 hown hK hP 0 rfl rfl 1 (by decide) k_2_19 (fun _ h9 => h9) rfl dX7_checksumOfTests_95 ?_
                      refine va_get (D := g.1) (ci := 4) (fs := fcS bS (bC 0) (bT 0)) (v := .ref (bT 0)) (C := RX4) (T := TX4) (N := 2) hx hb htu hinX4 hown hK hP 6 rfl rfl 1 (by decide) k_1_153 (fun _ h9 => h9) rfl dX7_checksumOfTests_98 ?_
                      refine lv_iload hx hb dX7_checksumOfTests_101 (lv_at hl 2 rfl) ?_
                      refine lv_iload hx hb dX7_checksumOfTests_103 (lv_at hl 3 rfl) ?_
                      obtain ⟨r33, hg34, hf⟩ := o1_at hf
                      refine k_viP ⟨hx, hb, hml, hown, htu⟩ hK hP hD hS hA hG (c_X6_noted l g bT vT x5_8 x6_25 r33 hg34) (cwV 2 htu (gU_V mw_3_162 hcX6_noted) rfl rfl rfl hdX6_noted ⟨Nat.le_of_ble_eq_true rfl, Nat.le_of_ble_eq_true rfl⟩) (q0 := 18) (ci := 6) (fs := fcT bT vT) (q := (RX6, TX6, 5)) rfl rfl rfl (wr := (cF g bF qF0 (bS 0) qF2 qF3 (bRT 0) vF_2 ++ (cS g bS (bC 0) (bT 0) ++ (cC g bC vC ++ (cR g bRT nRT (bG 0) (bB 0) vRT_3 ++ (cL g bG vG_4 ++ (cL g bB vB_5))))))) (w2 := cF g bF qF0 (bS 0) qF2 qF3 (bRT 0) vF_2 ++ (cS g bS (bC 0) (bT 0) ++ (cC g bC vC ++ (cT g bT vT ++ (cR g bRT nRT (bG 0) (bB 0) vRT_3 ++ (cL g bG vG_4 ++ (cL g bB vB_5))))))) [18, 19, 20, 21, 22] [0, 1, 2, 3, 4, 5, 6, 7, 8, 9, 10, 11, 12, 13, 14, 15, 16, 17, 23, 24, 25, 26, 27, 28, 29, 30, 31] [0, 1, 2, 3, 4, 5, 6, 7, 8, 9, 10, 11, 12, 13, 14, 15, 16, 17, 27, 28, 29, 30, 31, 18, 19, 20, 21, 22, 23, 24, 25, 26] rfl rfl (by decide) (by decide) (by decide) rfl rfl (by decide) (As := [.int x5_8, .int x6_25]) (rest := [.long ((31 : Int64) * x3_24)]) rfl rfl hl.1 (Nat.le_of_ble_eq_true rfl) dX7_checksumOfTests_105 (k1 := 0) (n1 := 0) rfl rfl ⟨Nat.zero_le _, Nat.zero_le _⟩ (fun H locs hP hD hS => ?_)
                      refine lv_i2l (v := (r33).toInt64) hx hb dX7_checksumOfTests_108 rfl ?_
                      refine lv_ladd hx hb dX7_checksumOfTests_109 ?_
                      refine lv_lstore_n (lv' := [(3, .long (((31 : Int64) * x3_24) + ((r33).toInt64))), (0, .ref (bF 0)), (5, .int x5_8), (6, .int x6_25)]) hx hb dX7_checksumOfTests_110 rfl hl (by decide) rfl (fun ls hl => ?_)
                      refine lv_iinc (v := (x6_25 + (1 : Int32))) (lv' := [(6, .int (x6_25 + (1 : Int32))), (3, .long (((31 : Int64) * x3_24) + ((r33).toInt64))), (0, .ref (bF 0)), (5, .int x5_8)]) hx hb dX7_checksumOfTests_111 hl (k := 3) rfl rfl (by decide) rfl (fun ls hl => ?_)
                      refine lv_goto (tgt := 74) hx hb dX7_checksumOfTests_114 (by decide) ?_
                      exact ih28 (((31 : Int64) * x3_24) + ((r33).toInt64)) (x6_25 + (1 : Int32)) hf H locs hP hD hS _ (lv_sub hl [2, 1, 3, 0] rfl)
                exact hL27 x3_18 (0 : Int32) hf H locs hP hD hS _ (lv_sub hl [1, 2, 3, 0] rfl)
              · have hf := it_f hf c23
                refine lv_ldc2 (v := (31 : Int64)) hx hb hown k_3_42 dX7_checksumOfTests_43 ?_
                refine lv_lload_n hx hb dX7_checksumOfTests_46 rfl (lv_at hl 1 rfl) ?_
                refine lv_lmul hx hb dX7_checksumOfTests_47 ?_
                refine lv_aload_n hx hb dX7_checksumOfTests_48 rfl (lv_at hl 0 rfl) ?_
                refine va_get (D := g.1) (ci := 7) (fs := fcF bF qF0 (bS 0) qF2 qF3 (bRT 0) vF_2) (v := .ref (bRT 0)) (C := RX7) (T := TX7) (N := 12) hx hb htu hinX7 hown hK hP 0 rfl rfl 4 (by decide) k_2_22 (fun _ h9 => h9) rfl dX7_checksumOfTests_49 ?_
                refine va_get (D := g.1) (ci := 3) (fs := fcR bRT (bG 0) (bB 0) vRT_3) (v := .ref (bG 0)) (C := RX3) (T := TX3) (N := 5) hx hb htu hinX3 hown hK hP 23 rfl rfl 0 (by decide) k_1_239 (fun _ h9 => h9) rfl dX7_checksumOfTests_52 ?_
                refine lv_iload hx hb dX7_checksumOfTests_55 (lv_at hl 3 rfl) ?_
                refine lv_iload hx hb dX7_checksumOfTests_57 (lv_at hl 2 rfl) ?_
                obtain ⟨r35, hg36, hf⟩ := o1_at hf
                refine k_viP ⟨hx, hb, hml, hown, htu⟩ hK hP hD hS hA hG (c_X2_lane l g bG vG_4 x6_19 x5_8 r35 hg36) (cwV 2 htu (gU_V mw_3_157 hcX2_lane) rfl rfl rfl hdX2_lane ⟨Nat.le_of_ble_eq_true rfl, Nat.le_of_ble_eq_true rfl⟩) (q0 := 26) (ci := 2) (fs := fcL bG vG_4) (q := (RX2, TX2, 2)) rfl rfl rfl (wr := (cF g bF qF0 (bS 0) qF2 qF3 (bRT 0) vF_2 ++ (cS g bS (bC 0) (bT 0) ++ (cC g bC vC ++ (cT g bT vT ++ (cR g bRT nRT (bG 0) (bB 0) vRT_3 ++ (cL g bB vB_5))))))) (w2 := cF g bF qF0 (bS 0) qF2 qF3 (bRT 0) vF_2 ++ (cS g bS (bC 0) (bT 0) ++ (cC g bC vC ++ (cT g bT vT ++ (cR g bRT nRT (bG 0) (bB 0) vRT_3 ++ (cL g bG vG_4 ++ (cL g bB vB_5))))))) [26, 27, 28] [0, 1, 2, 3, 4, 5, 6, 7, 8, 9, 10, 11, 12, 13, 14, 15, 16, 17, 18, 19, 20, 21, 22, 23, 24, 25, 29, 30, 31] [0, 1, 2, 3, 4, 5, 6, 7, 8, 9, 10, 11, 12, 13, 14, 15, 16, 17, 18, 19, 20, 21, 22, 23, 24, 25, 29, 30, 31, 26, 27, 28] rfl rfl (by decide) (by decide) (by decide) rfl rfl (by decide) (As := [.int x6_19, .int x5_8]) (rest := [.long ((31 : Int64) * x3_18)]) rfl rfl hl.1 (Nat.le_of_ble_eq_true rfl) dX7_checksumOfTests_59 (k1 := 0) (n1 := 0) rfl rfl ⟨Nat.zero_le _, Nat.zero_le _⟩ (fun H locs hP hD hS => ?_)
                refine lv_i2l (v := (r35).toInt64) hx hb dX7_checksumOfTests_62 rfl ?_
                refine lv_ladd hx hb dX7_checksumOfTests_63 ?_
                refine lv_lstore_n (lv' := [(3, .long (((31 : Int64) * x3_18) + ((r35).toInt64))), (0, .ref (bF 0)), (5, .int x5_8), (6, .int x6_19)]) hx hb dX7_checksumOfTests_64 rfl hl (by decide) rfl (fun ls hl => ?_)
                refine lv_iinc (v := (x6_19 + (1 : Int32))) (lv' := [(6, .int (x6_19 + (1 : Int32))), (3, .long (((31 : Int64) * x3_18) + ((r35).toInt64))), (0, .ref (bF 0)), (5, .int x5_8)]) hx hb dX7_checksumOfTests_65 hl (k := 3) rfl rfl (by decide) rfl (fun ls hl => ?_)
                refine lv_goto (tgt := 28) hx hb dX7_checksumOfTests_68 (by decide) ?_
                exact ih22 (((31 : Int64) * x3_18) + ((r35).toInt64)) (x6_19 + (1 : Int32)) hf H locs hP hD hS _ (lv_sub hl [2, 1, 3, 0] rfl)
          exact hL21 x3_7 (0 : Int32) hf H locs hP hD hS _ (lv_sub hl [1, 2, 3, 0] rfl)
    exact hL10 x1 (0 : Int32) hf H locs hP hD hS _ (lv_sub hl [2, 1, 0] rfl)
  rw [hH, hlo] at hW
  exact hW
def f_X7_checksum_L4 (vC : Vs) (vT : Vs) (nRT : Nat) (self7 : Int64 → Int32 → Vs → Vs → Vs → Vs → Option (Nat × Int64 × Vs × Vs × Vs × Vs)) (x1_1 : Int64) (x3_2 : Int32) (vF_3 : Vs) (vRT_4 : Vs) (vG_5 : Vs) (vB_6 : Vs) : Option (Nat × Int64 × Vs × Vs × Vs × Vs) :=
  if (8 : Int32) < x3_2 then o2 (f_X7_checksumOfWires vF_3 vC x1_1) (fun (c11 : Nat) (r12 : Int64) => if c11 = 0 then (o5 (f_X7_checksumOfTests vF_3 vC vT nRT vRT_4 vG_5 vB_6 r12) (fun (r14 : Int64) (vF_15 : Vs) (vRT_16 : Vs) (vG_17 : Vs) (vB_18 : Vs) => o5 (f_X7_listFitting vF_15 vC vT nRT vRT_16 vG_17 vB_18) (fun (r20 : Int32) (vF_21 : Vs) (vRT_22 : Vs) (vG_23 : Vs) (vB_24 : Vs) => some (0, (((31 : Int64) * r14) + ((r20).toInt64)), vF_21, vRT_22, vG_23, vB_24)))) else some (c11, (0 : Int64), vF_3, vRT_4, vG_5, vB_6)) else o6 (f_X7_state vF_3 vC vT nRT vRT_4 vG_5 vB_6 x3_2) (fun (c32 : Nat) (r33 : Int32) (vF_34 : Vs) (vRT_35 : Vs) (vG_36 : Vs) (vB_37 : Vs) => if c32 = 0 then (self7 (((31 : Int64) * x1_1) + ((r33).toInt64)) (x3_2 + (1 : Int32)) vF_34 vRT_35 vG_36 vB_37) else some (c32, (0 : Int64), vF_34, vRT_35, vG_36, vB_37))
def f_X7_checksum (vF : Vs) (vC : Vs) (vT : Vs) (nRT : Nat) (vRT : Vs) (vG : Vs) (vB : Vs) : Option (Nat × Int64 × Vs × Vs × Vs × Vs) :=
  lp (f_X7_checksum_L4 vC vT nRT) (fun _ _ _ _ _ _ => none) FU (0 : Int64) (0 : Int32) vF vRT vG vB
abbrev wsX7_checksum : List Cond := .code yX7_checksum cX7_checksum 4 (some .long) :: UW
abbrev rmX7_checksum : Room := { frames := 6, cells := 0, slots := 0, locals := 150 }
set_option maxHeartbeats 4000000 in
set_option maxRecDepth 100000 in
theorem c_X7_checksum (l : Launch) (g : Gx) (bF : Nat → Nat) (qF0 : Nat) (qF2 : Nat) (qF3 : Nat) (vF : Vs) (bS : Nat → Nat) (bC : Nat → Nat) (vC : Vs) (bT : Nat → Nat) (vT : Vs) (bRT : Nat → Nat) (nRT : Nat) (vRT : Vs) (bG : Nat → Nat) (vG : Vs) (bB : Nat → Nat) (vB : Vs) (r : Int64) (vF1 : Vs) (vRT1 : Vs) (vG1 : Vs) (vB1 : Vs) (hf : f_X7_checksum vF vC vT nRT vRT vG vB = some (0, r, vF1, vRT1, vG1, vB1)) : CtJ l yX7_checksum wsX7_checksum rmX7_checksum g [.ref (bF 0)] (cF g bF qF0 (bS 0) qF2 qF3 (bRT 0) vF ++ (cS g bS (bC 0) (bT 0) ++ (cC g bC vC ++ (cT g bT vT ++ (cR g bRT nRT (bG 0) (bB 0) vRT ++ (cL g bG vG ++ (cL g bB vB))))))) (cF g bF qF0 (bS 0) qF2 qF3 (bRT 0) vF1 ++ (cS g bS (bC 0) (bT 0) ++ (cC g bC vC ++ (cT g bT vT ++ (cR g bRT nRT (bG 0) (bB 0) vRT1 ++ (cL g bG vG1 ++ (cL g bB vB1))))))) r 0 0 := by
  unfold CtJ
  intro sz
  refine Met.ofW (cc := cX7_checksum) (maxL := 4) (ret := (some .long)) (by decide) rfl ?_
  intro p e s m args below meth c s₁ B hml hv
  obtain ⟨rfl, hsz, hP, hK, hD0, hG⟩ := hv
  have hx := B.exec
  have hb := B.bytes
  have hr := B.returns
  have hts := atoms_spec (ws := wsX7_checksum) B.pre
  have hown : s.vm.findClass RX7 = some m.cls := findClass_of_methodNamed B.named
  have hlocks := B.notSynchronized
  subst hsz
  have hD := hD0.self (sz := s.heap.size)
  generalize hAe : va_A (cF g bF qF0 (bS 0) qF2 qF3 (bRT 0) vF ++ (cS g bS (bC 0) (bT 0) ++ (cC g bC vC ++ (cT g bT vT ++ (cR g bRT nRT (bG 0) (bB 0) vRT ++ (cL g bG vG ++ (cL g bB vB))))))) s.heap.size = A at hD hG ⊢
  have hA : ∀ q : Nat, s.heap.size ≤ q → A q := fun q h => by rw [← hAe]; exact Or.inr h
  clear hAe hD0
  have hS : va_S A s.heap s.heap [] := va_S.rf
  have hl := lv_entry ([.ref (bF 0)]) (n := 4) (Nat.le_of_ble_eq_true rfl)
  rw [lg_entry_eq]
  generalize (lg_sl ([.ref (bF 0)]) ++ List.replicate (4 - (lg_sl ([.ref (bF 0)])).length) Slot.unset).toArray = ls at hl ⊢
  have hl : lv_has ls 4 [(0, .ref (bF 0))] := hl
  have htu : ∀ w ∈ UW, w.before _ s = true := fun w h => hts w (List.mem_cons_of_mem _ h)
  have k_3_42 := htu _ mw_3_42
  unfold f_X7_checksum at hf
  obtain ⟨H, hH⟩ : ∃ z, z = s.heap := ⟨_, rfl⟩
  obtain ⟨locs, hlo⟩ : ∃ z : List Loc, z = [] := ⟨_, rfl⟩
  have hS : va_S A s.heap H locs := by rw [hH, hlo]; exact hS
  rw [← hH] at hP
  have hW : W p l e (headSpec wsX7_checksum rmX7_checksum).room s m ([.ref (bF 0)] : List Value).toArray below meth c H locs 0 0 (MQ below (qJ g A (cF g bF qF0 (bS 0) qF2 qF3 (bRT 0) vF1 ++ (cS g bS (bC 0) (bT 0) ++ (cC g bC vC ++ (cT g bT vT ++ (cR g bRT nRT (bG 0) (bB 0) vRT1 ++ (cL g bG vG1 ++ (cL g bB vB1))))))) r) ([.ref (bF 0)] : List Value).toArray s 0 0 A) (F0 m 0 ls []) := by
    refine lv_lconst (v := (0 : Int64)) hx hb dX7_checksum_0 (by decide) ?_
    refine lv_lstore_n (lv' := [(1, .long (0 : Int64)), (0, .ref (bF 0))]) hx hb dX7_checksum_1 rfl hl (by decide) rfl (fun ls hl => ?_)
    refine lv_iconst (v := (0 : Int32)) hx hb dX7_checksum_2 (by decide) ?_
    refine lv_istore_n (lv' := [(3, .int (0 : Int32)), (1, .long (0 : Int64)), (0, .ref (bF 0))]) hx hb dX7_checksum_3 rfl hl (by decide) rfl (fun ls hl => ?_)
    have hL8 : ∀ (x1_1 : Int64) (x3_2 : Int32) (vF_3 : Vs) (vRT_4 : Vs) (vG_5 : Vs) (vB_6 : Vs), lp (f_X7_checksum_L4 vC vT nRT) (fun _ _ _ _ _ _ => none) FU x1_1 x3_2 vF_3 vRT_4 vG_5 vB_6 = some (0, r, vF1, vRT1, vG1, vB1) → ∀ (H : Heap) (locs : List Loc), va_P g.1 vwCl (cF g bF qF0 (bS 0) qF2 qF3 (bRT 0) vF_3 ++ (cS g bS (bC 0) (bT 0) ++ (cC g bC vC ++ (cT g bT vT ++ (cR g bRT nRT (bG 0) (bB 0) vRT_4 ++ (cL g bG vG_5 ++ (cL g bB vB_6))))))) H → va_D A (cF g bF qF0 (bS 0) qF2 qF3 (bRT 0) vF_3 ++ (cS g bS (bC 0) (bT 0) ++ (cC g bC vC ++ (cT g bT vT ++ (cR g bRT nRT (bG 0) (bB 0) vRT_4 ++ (cL g bG vG_5 ++ (cL g bB vB_6))))))) → va_S A s.heap H locs → ∀ ls : Array Slot, lv_has ls 4 [(0, .ref (bF 0)), (1, .long x1_1), (3, .int x3_2)] → W p l e (headSpec wsX7_checksum rmX7_checksum).room s m ([.ref (bF 0)] : List Value).toArray below meth c H locs 0 0 (MQ below (qJ g A (cF g bF qF0 (bS 0) qF2 qF3 (bRT 0) vF1 ++ (cS g bS (bC 0) (bT 0) ++ (cC g bC vC ++ (cT g bT vT ++ (cR g bRT nRT (bG 0) (bB 0) vRT1 ++ (cL g bG vG1 ++ (cL g bB vB1))))))) r) ([.ref (bF 0)] : List Value).toArray s 0 0 A) (F0 m 4 ls []) := by
      refine lp_ind (T := Int64 → Int32 → Vs → Vs → Vs → Vs → Option (Nat × Int64 × Vs × Vs × Vs × Vs)) (fun self7 => ∀ (x1_1 : Int64) (x3_2 : Int32) (vF_3 : Vs) (vRT_4 : Vs) (vG_5 : Vs) (vB_6 : Vs), self7 x1_1 x3_2 vF_3 vRT_4 vG_5 vB_6 = some (0, r, vF1, vRT1, vG1, vB1) → ∀ (H : Heap) (locs : List Loc), va_P g.1 vwCl (cF g bF qF0 (bS 0) qF2 qF3 (bRT 0) vF_3 ++ (cS g bS (bC 0) (bT 0) ++ (cC g bC vC ++ (cT g bT vT ++ (cR g bRT nRT (bG 0) (bB 0) vRT_4 ++ (cL g bG vG_5 ++ (cL g bB vB_6))))))) H → va_D A (cF g bF qF0 (bS 0) qF2 qF3 (bRT 0) vF_3 ++ (cS g bS (bC 0) (bT 0) ++ (cC g bC vC ++ (cT g bT vT ++ (cR g bRT nRT (bG 0) (bB 0) vRT_4 ++ (cL g bG vG_5 ++ (cL g bB vB_6))))))) → va_S A s.heap H locs → ∀ ls : Array Slot, lv_has ls 4 [(0, .ref (bF 0)), (1, .long x1_1), (3, .int x3_2)] → W p l e (headSpec wsX7_checksum rmX7_checksum).room s m ([.ref (bF 0)] : List Value).toArray below meth c H locs 0 0 (MQ below (qJ g A (cF g bF qF0 (bS 0) qF2 qF3 (bRT 0) vF1 ++ (cS g bS (bC 0) (bT 0) ++ (cC g bC vC ++ (cT g bT vT ++ (cR g bRT nRT (bG 0) (bB 0) vRT1 ++ (cL g bG vG1 ++ (cL g bB vB1))))))) r) ([.ref (bF 0)] : List Value).toArray s 0 0 A) (F0 m 4 ls [])) ?_ ?_ FU
      · intro x1_1 x3_2 vF_3 vRT_4 vG_5 vB_6 hf; cases hf
      · intro self7 ih9 x1_1 x3_2 vF_3 vRT_4 vG_5 vB_6 hf H locs hP hD hS ls hl
        unfold f_X7_checksum_L4 at hf
        refine lv_iload_n hx hb dX7_checksum_4 rfl (lv_at hl 2 rfl) ?_
        refine lv_bipush (v := (8 : Int32)) hx hb dX7_checksum_5 (by decide) ?_
        refine lv_icmp_gt (tgt := 29) hx hb dX7_checksum_7 (by decide) (fun c10 => ?_) (fun c10 => ?_)
        · have hf := it_t hf c10
          refine lv_aload_n hx hb dX7_checksum_29 rfl (lv_at hl 0 rfl) ?_
          refine lv_lload_n hx hb dX7_checksum_30 rfl (lv_at hl 1 rfl) ?_
          obtain ⟨c11, r12, hg13, hf⟩ := o2_at hf
          have hc11 : c11 = 0 := Classical.byContradiction (fun h9 => h9 (kp_6 (it_f hf h9)).1)
          have hf := it_t hf hc11
          rw [hc11] at hg13
          refine k_vlP ⟨hx, hb, hml, hown, htu⟩ hK hP hD hS hA hG (c_X7_checksumOfWires l g bF qF0 qF2 qF3 (bRT 0) vF_3 bS (bT 0) bC vC x1_1 r12 hg13) (cwV 1 htu (gU_V mw_3_121 hcX7_checksumOfWires) rfl rfl rfl hdX7_checksumOfWires ⟨Nat.le_of_ble_eq_true rfl, Nat.le_of_ble_eq_true rfl⟩) (q0 := 0) (ci := 7) (fs := fcF bF qF0 (bS 0) qF2 qF3 (bRT 0) vF_3) (q := (RX7, TX7, 12)) rfl rfl rfl (wr := (cT g bT vT ++ (cR g bRT nRT (bG 0) (bB 0) vRT_4 ++ (cL g bG vG_5 ++ (cL g bB vB_6))))) (w2 := cF g bF qF0 (bS 0) qF2 qF3 (bRT 0) vF_3 ++ (cS g bS (bC 0) (bT 0) ++ (cC g bC vC ++ (cT g bT vT ++ (cR g bRT nRT (bG 0) (bB 0) vRT_4 ++ (cL g bG vG_5 ++ (cL g bB vB_6))))))) [0, 1, 2, 3, 4, 5, 6, 7, 8, 9, 10, 11, 12, 13, 14, 15, 16, 17] [18, 19, 20, 21, 22, 23, 24, 25, 26, 27, 28, 29, 30, 31] [14, 15, 16, 17, 18, 19, 20, 21, 22, 23, 24, 25, 26, 27, 28, 29, 30, 31, 0, 1, 2, 3, 4, 5, 6, 7, 8, 9, 10, 11, 12, 13] rfl rfl (by decide) (by decide) (by decide) rfl rfl (by decide) (As := [.long x1_1]) (rest := []) rfl rfl hl.1 (Nat.le_of_ble_eq_true rfl) dX7_checksum_31 (k1 := 0) (n1 := 0) rfl rfl ⟨Nat.zero_le _, Nat.zero_le _⟩ (fun H locs hP hD hS => ?_)
          refine lv_lstore_n (lv' := [(1, .long r12), (0, .ref (bF 0)), (3, .int x3_2)]) hx hb dX7_checksum_34 rfl hl (by decide) rfl (fun ls hl => ?_)
          refine lv_aload_n hx hb dX7_checksum_35 rfl (lv_at hl 1 rfl) ?_
          refine lv_lload_n hx hb dX7_checksum_36 rfl (lv_at hl 0 rfl) ?_
          obtain ⟨r14, vF_15, vRT_16, vG_17, vB_18, hg19, hf⟩ := o5_at hf
          refine k_vlW ⟨hx, hb, hml, hown, htu⟩ hK hP hD hS hA hG (c_X7_checksumOfTests l g bF qF0 qF2 qF3 vF_3 bS bC vC bT vT bRT nRT vRT_4 bG vG_5 bB vB_6 r12 r14 vF_15 vRT_16 vG_17 vB_18 hg19) (cwV 1 htu (gU_V mw_3_153 hcX7_checksumOfTests) rfl rfl rfl hdX7_checksumOfTests ⟨Nat.le_of_ble_eq_true rfl, Nat.le_of_ble_eq_true rfl⟩) (q0 := 0) (ci := 7) (fs := fcF bF qF0 (bS 0) qF2 qF3 (bRT 0) vF_3) (q := (RX7, TX7, 12)) rfl rfl rfl (As := [.long r12]) (rest := []) rfl rfl hl.1 (Nat.le_of_ble_eq_true rfl) dX7_checksum_37 (k1 := 0) (n1 := 0) rfl rfl ⟨Nat.zero_le _, Nat.zero_le _⟩ (fun H locs hP hD hS => ?_)
          refine lv_lstore_n (lv' := [(1, .long r14), (0, .ref (bF 0)), (3, .int x3_2)]) hx hb dX7_checksum_40 rfl hl (by decide) rfl (fun ls hl => ?_)
          refine lv_ldc2 (v := (31 : Int64)) hx hb hown k_3_42 dX7_checksum_41 ?_
          refine lv_lload_n hx hb dX7_checksum_44 rfl (lv_at hl 0 rfl) ?_
          refine lv_lmul hx hb dX7_checksum_45 ?_
          refine lv_aload_n hx hb dX7_checksum_46 rfl (lv_at hl 1 rfl) ?_
          obtain ⟨r20, vF_21, vRT_22, vG_23, vB_24, hg25, hf⟩ := o5_at hf
          refine k_viW ⟨hx, hb, hml, hown, htu⟩ hK hP hD hS hA hG (c_X7_listFitting l g bF qF0 qF2 qF3 vF_15 bS bC vC bT vT bRT nRT vRT_16 bG vG_17 bB vB_18 r20 vF_21 vRT_22 vG_23 vB_24 hg25) (cwV 0 htu (gU_V mw_2_184 hcX7_listFitting) rfl rfl rfl hdX7_listFitting ⟨Nat.le_of_ble_eq_true rfl, Nat.le_of_ble_eq_true rfl⟩) (q0 := 0) (ci := 7) (fs := fcF bF qF0 (bS 0) qF2 qF3 (bRT 0) vF_15) (q := (RX7, TX7, 12)) rfl rfl rfl (As := []) (rest := [.long ((31 : Int64) * r14)]) rfl rfl hl.1 (Nat.le_of_ble_eq_true rfl) dX7_checksum_47 (k1 := 0) (n1 := 0) rfl rfl ⟨Nat.zero_le _, Nat.zero_le _⟩ (fun H locs hP hD hS => ?_)
          refine lv_i2l (v := (r20).toInt64) hx hb dX7_checksum_50 rfl ?_
          refine lv_ladd hx hb dX7_checksum_51 ?_
          obtain ⟨e26, e27, e28, e29, e30, e31⟩ := kp_6 hf
          rw [e28] at hP hD
          rw [e29] at hP hD
          rw [e30] at hP hD
          rw [e31] at hP hD
          exact k_lret hx hb hr hlocks hK hP hD hS e27 dX7_checksum_52
        · have hf := it_f hf c10
          refine lv_ldc2 (v := (31 : Int64)) hx hb hown k_3_42 dX7_checksum_10 ?_
          refine lv_lload_n hx hb dX7_checksum_13 rfl (lv_at hl 1 rfl) ?_
          refine lv_lmul hx hb dX7_checksum_14 ?_
          refine lv_aload_n hx hb dX7_checksum_15 rfl (lv_at hl 0 rfl) ?_
          refine lv_iload_n hx hb dX7_checksum_16 rfl (lv_at hl 2 rfl) ?_
          obtain ⟨c32, r33, vF_34, vRT_35, vG_36, vB_37, hg38, hf⟩ := o6_at hf
          have hc32 : c32 = 0 := Classical.byContradiction (fun h9 => h9 (kp_6 (it_f hf h9)).1)
          have hf := it_t hf hc32
          rw [hc32] at hg38
          refine k_viW ⟨hx, hb, hml, hown, htu⟩ hK hP hD hS hA hG (c_X7_state l g bF qF0 qF2 qF3 vF_3 bS bC vC bT vT bRT nRT vRT_4 bG vG_5 bB vB_6 x3_2 r33 vF_34 vRT_35 vG_36 vB_37 hg38) (cwV 1 htu (gU_V mw_3_43 hcX7_state) rfl rfl rfl hdX7_state ⟨Nat.le_of_ble_eq_true rfl, Nat.le_of_ble_eq_true rfl⟩) (q0 := 0) (ci := 7) (fs := fcF bF qF0 (bS 0) qF2 qF3 (bRT 0) vF_3) (q := (RX7, TX7, 12)) rfl rfl rfl (As := [.int x3_2]) (rest := [.long ((31 : Int64) * x1_1)]) rfl rfl hl.1 (Nat.le_of_ble_eq_true rfl) dX7_checksum_17 (k1 := 0) (n1 := 0) rfl rfl ⟨Nat.zero_le _, Nat.zero_le _⟩ (fun H locs hP hD hS => ?_)
          refine lv_i2l (v := (r33).toInt64) hx hb dX7_checksum_20 rfl ?_
          refine lv_ladd hx hb dX7_checksum_21 ?_
          refine lv_lstore_n (lv' := [(1, .long (((31 : Int64) * x1_1) + ((r33).toInt64))), (0, .ref (bF 0)), (3, .int x3_2)]) hx hb dX7_checksum_22 rfl hl (by decide) rfl (fun ls hl => ?_)
          refine lv_iinc (v := (x3_2 + (1 : Int32))) (lv' := [(3, .int (x3_2 + (1 : Int32))), (1, .long (((31 : Int64) * x1_1) + ((r33).toInt64))), (0, .ref (bF 0))]) hx hb dX7_checksum_23 hl (k := 2) rfl rfl (by decide) rfl (fun ls hl => ?_)
          refine lv_goto (tgt := 4) hx hb dX7_checksum_26 (by decide) ?_
          exact ih9 (((31 : Int64) * x1_1) + ((r33).toInt64)) (x3_2 + (1 : Int32)) vF_34 vRT_35 vG_36 vB_37 hf H locs hP hD hS _ (lv_sub hl [2, 1, 0] rfl)
    exact hL8 (0 : Int64) (0 : Int32) vF vRT vG vB hf H locs hP hD hS _ (lv_sub hl [2, 1, 0] rfl)
  rw [hH, hlo] at hW
  exact hW
abbrev rtX7_checksum : Room := { frames := 11, cells := 1, slots := 6, locals := 189 }
set_option maxHeartbeats 4000000 in
set_option maxRecDepth 100000 in
theorem t_X7_checksum (l : Launch) (hst : l.stackTraces = false) (g : Gx) (bF : Nat → Nat) (qF0 : Nat) (qF2 : Nat) (qF3 : Nat) (vF : Vs) (bS : Nat → Nat) (bC : Nat → Nat) (vC : Vs) (bT : Nat → Nat) (vT : Vs) (bRT : Nat → Nat) (nRT : Nat) (vRT : Vs) (bG : Nat → Nat) (vG : Vs) (bB : Nat → Nat) (vB : Vs) (r : Int64) (vF1 : Vs) (vRT1 : Vs) (vG1 : Vs) (vB1 : Vs) (ek : Nat) (hf : f_X7_checksum vF vC vT nRT vRT vG vB = some (ek, r, vF1, vRT1, vG1, vB1)) (hek : ¬ ek = 0) : CtXJ l yX7_checksum wsX7_checksum rtX7_checksum g [.ref (bF 0)] (cF g bF qF0 (bS 0) qF2 qF3 (bRT 0) vF ++ (cS g bS (bC 0) (bT 0) ++ (cC g bC vC ++ (cT g bT vT ++ (cR g bRT nRT (bG 0) (bB 0) vRT ++ (cL g bG vG ++ (cL g bB vB))))))) (cF g bF qF0 (bS 0) qF2 qF3 (bRT 0) vF1 ++ (cS g bS (bC 0) (bT 0) ++ (cC g bC vC ++ (cT g bT vT ++ (cR g bRT nRT (bG 0) (bB 0) vRT1 ++ (cL g bG vG1 ++ (cL g bB vB1))))))) (exN ek) 1 6 := by
  unfold CtXJ
  intro sz
  refine vx_ofW (cc := cX7_checksum) (maxL := 4) (ret := (some .long)) (by decide) rfl ?_
  intro p e s m args below meth c s₁ B hml hT hv
  obtain ⟨rfl, hsz, hP, hK, hD0, hG⟩ := hv
  have hx := B.exec
  have hb := B.bytes
  have hr := B.returns
  have hts := atoms_spec (ws := wsX7_checksum) B.pre
  have hown : s.vm.findClass RX7 = some m.cls := findClass_of_methodNamed B.named
  have hlocks := B.notSynchronized
  subst hsz
  have hD := hD0.self (sz := s.heap.size)
  generalize hAe : va_A (cF g bF qF0 (bS 0) qF2 qF3 (bRT 0) vF ++ (cS g bS (bC 0) (bT 0) ++ (cC g bC vC ++ (cT g bT vT ++ (cR g bRT nRT (bG 0) (bB 0) vRT ++ (cL g bG vG ++ (cL g bB vB))))))) s.heap.size = A at hD hG ⊢
  have hA : ∀ q : Nat, s.heap.size ≤ q → A q := fun q h => by rw [← hAe]; exact Or.inr h
  clear hAe hD0
  have hS : va_S A s.heap s.heap [] := va_S.rf
  have hl := lv_entry ([.ref (bF 0)]) (n := 4) (Nat.le_of_ble_eq_true rfl)
  rw [lg_entry_eq]
  generalize (lg_sl ([.ref (bF 0)]) ++ List.replicate (4 - (lg_sl ([.ref (bF 0)])).length) Slot.unset).toArray = ls at hl ⊢
  have hl : lv_has ls 4 [(0, .ref (bF 0))] := hl
  have htu : ∀ w ∈ UW, w.before _ s = true := fun w h => hts w (List.mem_cons_of_mem _ h)
  have k_3_42 := htu _ mw_3_42
  unfold f_X7_checksum at hf
  obtain ⟨H, hH⟩ : ∃ z, z = s.heap := ⟨_, rfl⟩
  obtain ⟨locs, hlo⟩ : ∃ z : List Loc, z = [] := ⟨_, rfl⟩
  have hS : va_S A s.heap H locs := by rw [hH, hlo]; exact hS
  rw [← hH] at hP
  have hW : W p l e (headSpec wsX7_checksum rtX7_checksum).room s m ([.ref (bF 0)] : List Value).toArray below meth c H locs 0 0 (vx_MQ below (nJ0 A) (xE g A (cF g bF qF0 (bS 0) qF2 qF3 (bRT 0) vF1 ++ (cS g bS (bC 0) (bT 0) ++ (cC g bC vC ++ (cT g bT vT ++ (cR g bRT nRT (bG 0) (bB 0) vRT1 ++ (cL g bG vG1 ++ (cL g bB vB1))))))) (exN ek)) ([.ref (bF 0)] : List Value).toArray s 1 6 A) (F0 m 0 ls []) := by
    refine lv_lconst (v := (0 : Int64)) hx hb dX7_checksum_0 (by decide) ?_
    refine lv_lstore_n (lv' := [(1, .long (0 : Int64)), (0, .ref (bF 0))]) hx hb dX7_checksum_1 rfl hl (by decide) rfl (fun ls hl => ?_)
    refine lv_iconst (v := (0 : Int32)) hx hb dX7_checksum_2 (by decide) ?_
    refine lv_istore_n (lv' := [(3, .int (0 : Int32)), (1, .long (0 : Int64)), (0, .ref (bF 0))]) hx hb dX7_checksum_3 rfl hl (by decide) rfl (fun ls hl => ?_)
    have hL8 : ∀ (x1_1 : Int64) (x3_2 : Int32) (vF_3 : Vs) (vRT_4 : Vs) (vG_5 : Vs) (vB_6 : Vs), lp (f_X7_checksum_L4 vC vT nRT) (fun _ _ _ _ _ _ => none) FU x1_1 x3_2 vF_3 vRT_4 vG_5 vB_6 = some (ek, r, vF1, vRT1, vG1, vB1) → ∀ (H : Heap) (locs : List Loc), va_P g.1 vwCl (cF g bF qF0 (bS 0) qF2 qF3 (bRT 0) vF_3 ++ (cS g bS (bC 0) (bT 0) ++ (cC g bC vC ++ (cT g bT vT ++ (cR g bRT nRT (bG 0) (bB 0) vRT_4 ++ (cL g bG vG_5 ++ (cL g bB vB_6))))))) H → va_D A (cF g bF qF0 (bS 0) qF2 qF3 (bRT 0) vF_3 ++ (cS g bS (bC 0) (bT 0) ++ (cC g bC vC ++ (cT g bT vT ++ (cR g bRT nRT (bG 0) (bB 0) vRT_4 ++ (cL g bG vG_5 ++ (cL g bB vB_6))))))) → va_S A s.heap H locs → ∀ ls : Array Slot, lv_has ls 4 [(0, .ref (bF 0)), (1, .long x1_1), (3, .int x3_2)] → W p l e (headSpec wsX7_checksum rtX7_checksum).room s m ([.ref (bF 0)] : List Value).toArray below meth c H locs 0 0 (vx_MQ below (nJ0 A) (xE g A (cF g bF qF0 (bS 0) qF2 qF3 (bRT 0) vF1 ++ (cS g bS (bC 0) (bT 0) ++ (cC g bC vC ++ (cT g bT vT ++ (cR g bRT nRT (bG 0) (bB 0) vRT1 ++ (cL g bG vG1 ++ (cL g bB vB1))))))) (exN ek)) ([.ref (bF 0)] : List Value).toArray s 1 6 A) (F0 m 4 ls []) := by
      refine lp_ind (T := Int64 → Int32 → Vs → Vs → Vs → Vs → Option (Nat × Int64 × Vs × Vs × Vs × Vs)) (fun self7 => ∀ (x1_1 : Int64) (x3_2 : Int32) (vF_3 : Vs) (vRT_4 : Vs) (vG_5 : Vs) (vB_6 : Vs), self7 x1_1 x3_2 vF_3 vRT_4 vG_5 vB_6 = some (ek, r, vF1, vRT1, vG1, vB1) → ∀ (H : Heap) (locs : List Loc), va_P g.1 vwCl (cF g bF qF0 (bS 0) qF2 qF3 (bRT 0) vF_3 ++ (cS g bS (bC 0) (bT 0) ++ (cC g bC vC ++ (cT g bT vT ++ (cR g bRT nRT (bG 0) (bB 0) vRT_4 ++ (cL g bG vG_5 ++ (cL g bB vB_6))))))) H → va_D A (cF g bF qF0 (bS 0) qF2 qF3 (bRT 0) vF_3 ++ (cS g bS (bC 0) (bT 0) ++ (cC g bC vC ++ (cT g bT vT ++ (cR g bRT nRT (bG 0) (bB 0) vRT_4 ++ (cL g bG vG_5 ++ (cL g bB vB_6))))))) → va_S A s.heap H locs → ∀ ls : Array Slot, lv_has ls 4 [(0, .ref (bF 0)), (1, .long x1_1), (3, .int x3_2)] → W p l e (headSpec wsX7_checksum rtX7_checksum).room s m ([.ref (bF 0)] : List Value).toArray below meth c H locs 0 0 (vx_MQ below (nJ0 A) (xE g A (cF g bF qF0 (bS 0) qF2 qF3 (bRT 0) vF1 ++ (cS g bS (bC 0) (bT 0) ++ (cC g bC vC ++ (cT g bT vT ++ (cR g bRT nRT (bG 0) (bB 0) vRT1 ++ (cL g bG vG1 ++ (cL g bB vB1))))))) (exN ek)) ([.ref (bF 0)] : List Value).toArray s 1 6 A) (F0 m 4 ls [])) ?_ ?_ FU
      · intro x1_1 x3_2 vF_3 vRT_4 vG_5 vB_6 hf; cases hf
      · intro self7 ih9 x1_1 x3_2 vF_3 vRT_4 vG_5 vB_6 hf H locs hP hD hS ls hl
        unfold f_X7_checksum_L4 at hf
        refine lv_iload_n hx hb dX7_checksum_4 rfl (lv_at hl 2 rfl) ?_
        refine lv_bipush (v := (8 : Int32)) hx hb dX7_checksum_5 (by decide) ?_
        refine lv_icmp_gt (tgt := 29) hx hb dX7_checksum_7 (by decide) (fun c10 => ?_) (fun c10 => ?_)
        · have hf := it_t hf c10
          refine lv_aload_n hx hb dX7_checksum_29 rfl (lv_at hl 0 rfl) ?_
          refine lv_lload_n hx hb dX7_checksum_30 rfl (lv_at hl 1 rfl) ?_
          obtain ⟨c11, r12, hg13, hf⟩ := o2_at hf
          rcases Classical.em (¬ c11 = 0) with hc11 | hc11
          · have hf := it_f hf hc11
            obtain ⟨rfl, rfl, rfl, rfl, rfl, rfl⟩ := kp_6 hf
            exact kx_vlP ⟨hx, hb, hml, hown, htu⟩ hK hP hD hS hA hG (t_X7_checksumOfWires l hst g bF qF0 qF2 qF3 (bRT 0) vF_3 bS (bT 0) bC vC x1_1 r12 c11 hg13 hc11) (cwV 1 htu (gU_V mw_3_121 hcX7_checksumOfWires) rfl rfl rfl hdX7_checksumOfWires ⟨Nat.le_of_ble_eq_true rfl, Nat.le_of_ble_eq_true rfl⟩) (q0 := 0) (ci := 7) (fs := fcF bF qF0 (bS 0) qF2 qF3 (bRT 0) vF_3) (q := (RX7, TX7, 12)) rfl rfl rfl (wr := (cT g bT vT ++ (cR g bRT nRT (bG 0) (bB 0) vRT_4 ++ (cL g bG vG_5 ++ (cL g bB vB_6))))) (w2 := cF g bF qF0 (bS 0) qF2 qF3 (bRT 0) vF_3 ++ (cS g bS (bC 0) (bT 0) ++ (cC g bC vC ++ (cT g bT vT ++ (cR g bRT nRT (bG 0) (bB 0) vRT_4 ++ (cL g bG vG_5 ++ (cL g bB vB_6))))))) [0, 1, 2, 3, 4, 5, 6, 7, 8, 9, 10, 11, 12, 13, 14, 15, 16, 17] [18, 19, 20, 21, 22, 23, 24, 25, 26, 27, 28, 29, 30, 31] [14, 15, 16, 17, 18, 19, 20, 21, 22, 23, 24, 25, 26, 27, 28, 29, 30, 31, 0, 1, 2, 3, 4, 5, 6, 7, 8, 9, 10, 11, 12, 13] rfl rfl (by decide) (by decide) (by decide) rfl rfl (by decide) (As := [.long x1_1]) (rest := []) rfl rfl hl.1 (Nat.le_of_ble_eq_true rfl) dX7_checksum_31 ⟨Nat.le_refl _, Nat.le_refl _⟩ ⟨Nat.le_refl _, Nat.le_refl _⟩ hT hlocks
          have hc11 := Classical.not_not.mp hc11
          have hf := it_t hf hc11
          rw [hc11] at hg13
          refine k_vlP ⟨hx, hb, hml, hown, htu⟩ hK hP hD hS hA hG (c_X7_checksumOfWires l g bF qF0 qF2 qF3 (bRT 0) vF_3 bS (bT 0) bC vC x1_1 r12 hg13) (cwV 1 htu (gU_V mw_3_121 hcX7_checksumOfWires) rfl rfl rfl hdX7_checksumOfWires ⟨Nat.le_of_ble_eq_true rfl, Nat.le_of_ble_eq_true rfl⟩) (q0 := 0) (ci := 7) (fs := fcF bF qF0 (bS 0) qF2 qF3 (bRT 0) vF_3) (q := (RX7, TX7, 12)) rfl rfl rfl (wr := (cT g bT vT ++ (cR g bRT nRT (bG 0) (bB 0) vRT_4 ++ (cL g bG vG_5 ++ (cL g bB vB_6))))) (w2 := cF g bF qF0 (bS 0) qF2 qF3 (bRT 0) vF_3 ++ (cS g bS (bC 0) (bT 0) ++ (cC g bC vC ++ (cT g bT vT ++ (cR g bRT nRT (bG 0) (bB 0) vRT_4 ++ (cL g bG vG_5 ++ (cL g bB vB_6))))))) [0, 1, 2, 3, 4, 5, 6, 7, 8, 9, 10, 11, 12, 13, 14, 15, 16, 17] [18, 19, 20, 21, 22, 23, 24, 25, 26, 27, 28, 29, 30, 31] [14, 15, 16, 17, 18, 19, 20, 21, 22, 23, 24, 25, 26, 27, 28, 29, 30, 31, 0, 1, 2, 3, 4, 5, 6, 7, 8, 9, 10, 11, 12, 13] rfl rfl (by decide) (by decide) (by decide) rfl rfl (by decide) (As := [.long x1_1]) (rest := []) rfl rfl hl.1 (Nat.le_of_ble_eq_true rfl) dX7_checksum_31 (k1 := 0) (n1 := 0) rfl rfl ⟨Nat.zero_le _, Nat.zero_le _⟩ (fun H locs hP hD hS => ?_)
          refine lv_lstore_n (lv' := [(1, .long r12), (0, .ref (bF 0)), (3, .int x3_2)]) hx hb dX7_checksum_34 rfl hl (by decide) rfl (fun ls hl => ?_)
          refine lv_aload_n hx hb dX7_checksum_35 rfl (lv_at hl 1 rfl) ?_
          refine lv_lload_n hx hb dX7_checksum_36 rfl (lv_at hl 0 rfl) ?_
          obtain ⟨r14, vF_15, vRT_16, vG_17, vB_18, hg19, hf⟩ := o5_at hf
          refine k_vlW ⟨hx, hb, hml, hown, htu⟩ hK hP hD hS hA hG (c_X7_checksumOfTests l g bF qF0 qF2 qF3 vF_3 bS bC vC bT vT bRT nRT vRT_4 bG vG_5 bB vB_6 r12 r14 vF_15 vRT_16 vG_17 vB_18 hg19) (cwV 1 htu (gU_V mw_3_153 hcX7_checksumOfTests) rfl rfl rfl hdX7_checksumOfTests ⟨Nat.le_of_ble_eq_true rfl, Nat.le_of_ble_eq_true rfl⟩) (q0 := 0) (ci := 7) (fs := fcF bF qF0 (bS 0) qF2 qF3 (bRT 0) vF_3) (q := (RX7, TX7, 12)) rfl rfl rfl (As := [.long r12]) (rest := []) rfl rfl hl.1 (Nat.le_of_ble_eq_true rfl) dX7_checksum_37 (k1 := 0) (n1 := 0) rfl rfl ⟨Nat.zero_le _, Nat.zero_le _⟩ (fun H locs hP hD hS => ?_)
          refine lv_lstore_n (lv' := [(1, .long r14), (0, .ref (bF 0)), (3, .int x3_2)]) hx hb dX7_checksum_40 rfl hl (by decide) rfl (fun ls hl => ?_)
          refine lv_ldc2 (v := (31 : Int64)) hx hb hown k_3_42 dX7_checksum_41 ?_
          refine lv_lload_n hx hb dX7_checksum_44 rfl (lv_at hl 0 rfl) ?_
          refine lv_lmul hx hb dX7_checksum_45 ?_
          refine lv_aload_n hx hb dX7_checksum_46 rfl (lv_at hl 1 rfl) ?_
          obtain ⟨r20, vF_21, vRT_22, vG_23, vB_24, hg25, hf⟩ := o5_at hf
          refine k_viW ⟨hx, hb, hml, hown, htu⟩ hK hP hD hS hA hG (c_X7_listFitting l g bF qF0 qF2 qF3 vF_15 bS bC vC bT vT bRT nRT vRT_16 bG vG_17 bB vB_18 r20 vF_21 vRT_22 vG_23 vB_24 hg25) (cwV 0 htu (gU_V mw_2_184 hcX7_listFitting) rfl rfl rfl hdX7_listFitting ⟨Nat.le_of_ble_eq_true rfl, Nat.le_of_ble_eq_true rfl⟩) (q0 := 0) (ci := 7) (fs := fcF bF qF0 (bS 0) qF2 qF3 (bRT 0) vF_15) (q := (RX7, TX7, 12)) rfl rfl rfl (As := []) (rest := [.long ((31 : Int64) * r14)]) rfl rfl hl.1 (Nat.le_of_ble_eq_true rfl) dX7_checksum_47 (k1 := 0) (n1 := 0) rfl rfl ⟨Nat.zero_le _, Nat.zero_le _⟩ (fun H locs hP hD hS => ?_)
          refine lv_i2l (v := (r20).toInt64) hx hb dX7_checksum_50 rfl ?_
          refine lv_ladd hx hb dX7_checksum_51 ?_
          exact absurd (kp_6 hf).1.symm hek
        · have hf := it_f hf c10
          refine lv_ldc2 (v := (31 : Int64)) hx hb hown k_3_42 dX7_checksum_10 ?_
          refine lv_lload_n hx hb dX7_checksum_13 rfl (lv_at hl 1 rfl) ?_
          refine lv_lmul hx hb dX7_checksum_14 ?_
          refine lv_aload_n hx hb dX7_checksum_15 rfl (lv_at hl 0 rfl) ?_
          refine lv_iload_n hx hb dX7_checksum_16 rfl (lv_at hl 2 rfl) ?_
          obtain ⟨c32, r33, vF_34, vRT_35, vG_36, vB_37, hg38, hf⟩ := o6_at hf
          rcases Classical.em (¬ c32 = 0) with hc32 | hc32
          · have hf := it_f hf hc32
            obtain ⟨rfl, rfl, rfl, rfl, rfl, rfl⟩ := kp_6 hf
            exact kx_viW ⟨hx, hb, hml, hown, htu⟩ hK hP hD hS hA hG (t_X7_state l hst g bF qF0 qF2 qF3 vF_3 bS bC vC bT vT bRT nRT vRT_4 bG vG_5 bB vB_6 x3_2 r33 vF_34 vRT_35 vG_36 vB_37 c32 hg38 hc32) (cwV 1 htu (gU_V mw_3_43 hcX7_state) rfl rfl rfl hdX7_state ⟨Nat.le_of_ble_eq_true rfl, Nat.le_of_ble_eq_true rfl⟩) (q0 := 0) (ci := 7) (fs := fcF bF qF0 (bS 0) qF2 qF3 (bRT 0) vF_3) (q := (RX7, TX7, 12)) rfl rfl rfl (As := [.int x3_2]) (rest := [.long ((31 : Int64) * x1_1)]) rfl rfl hl.1 (Nat.le_of_ble_eq_true rfl) dX7_checksum_17 ⟨Nat.le_refl _, Nat.le_refl _⟩ ⟨Nat.le_refl _, Nat.le_refl _⟩ hT hlocks
          have hc32 := Classical.not_not.mp hc32
          have hf := it_t hf hc32
          rw [hc32] at hg38
          refine k_viW ⟨hx, hb, hml, hown, htu⟩ hK hP hD hS hA hG (c_X7_state l g bF qF0 qF2 qF3 vF_3 bS bC vC bT vT bRT nRT vRT_4 bG vG_5 bB vB_6 x3_2 r33 vF_34 vRT_35 vG_36 vB_37 hg38) (cwV 1 htu (gU_V mw_3_43 hcX7_state) rfl rfl rfl hdX7_state ⟨Nat.le_of_ble_eq_true rfl, Nat.le_of_ble_eq_true rfl⟩) (q0 := 0) (ci := 7) (fs := fcF bF qF0 (bS 0) qF2 qF3 (bRT 0) vF_3) (q := (RX7, TX7, 12)) rfl rfl rfl (As := [.int x3_2]) (rest := [.long ((31 : Int64) * x1_1)]) rfl rfl hl.1 (Nat.le_of_ble_eq_true rfl) dX7_checksum_17 (k1 := 0) (n1 := 0) rfl rfl ⟨Nat.zero_le _, Nat.zero_le _⟩ (fun H locs hP hD hS => ?_)
          refine lv_i2l (v := (r33).toInt64) hx hb dX7_checksum_20 rfl ?_
          refine lv_ladd hx hb dX7_checksum_21 ?_
          refine lv_lstore_n (lv' := [(1, .long (((31 : Int64) * x1_1) + ((r33).toInt64))), (0, .ref (bF 0)), (3, .int x3_2)]) hx hb dX7_checksum_22 rfl hl (by decide) rfl (fun ls hl => ?_)
          refine lv_iinc (v := (x3_2 + (1 : Int32))) (lv' := [(3, .int (x3_2 + (1 : Int32))), (1, .long (((31 : Int64) * x1_1) + ((r33).toInt64))), (0, .ref (bF 0))]) hx hb dX7_checksum_23 hl (k := 2) rfl rfl (by decide) rfl (fun ls hl => ?_)
          refine lv_goto (tgt := 4) hx hb dX7_checksum_26 (by decide) ?_
          exact ih9 (((31 : Int64) * x1_1) + ((r33).toInt64)) (x3_2 + (1 : Int32)) vF_34 vRT_35 vG_36 vB_37 hf H locs hP hD hS _ (lv_sub hl [2, 1, 0] rfl)
    exact hL8 (0 : Int64) (0 : Int32) vF vRT vG vB hf H locs hP hD hS _ (lv_sub hl [2, 1, 0] rfl)
  rw [hH, hlo] at hW
  exact hW
def f_X7_append (vF : Vs) (vD : Vs) (x1 : Int32) (x2 : Int32) (x3 : Int32) (x4 : Int32) (x5 : Int32) : Option (Int32 × Vs) :=
  if ((vD.1 1) + (20 : Int32)) ≤ (800 : Int32) then o1 (f_X5_putBytes vD x1) (fun (vD_2 : Vs) => o1 (f_X5_putBytes vD_2 x2) (fun (vD_4 : Vs) => o1 (f_X5_putBytes vD_4 x3) (fun (vD_6 : Vs) => o1 (f_X5_putBytes vD_6 x4) (fun (vD_8 : Vs) => o1 (f_X5_putBytes vD_8 x5) (fun (vD_10 : Vs) => some ((vD_10.1 1), vD_10)))))) else some ((-1 : Int32), vD)
abbrev wsX7_append : List Cond := .code yX7_append cX7_append 6 (some .int) :: UW
abbrev rmX7_append : Room := { frames := 1, cells := 0, slots := 0, locals := 22 }
set_option maxHeartbeats 4000000 in
set_option maxRecDepth 100000 in
theorem c_X7_append (l : Launch) (g : Gx) (bF : Nat → Nat) (qF1 : Nat) (qF2 : Nat) (qF3 : Nat) (qF4 : Nat) (vF : Vs) (bD : Nat → Nat) (qD0 : Nat) (vD : Vs) (x1 : Int32) (x2 : Int32) (x3 : Int32) (x4 : Int32) (x5 : Int32) (r : Int32) (vD1 : Vs) (hf : f_X7_append vF vD x1 x2 x3 x4 x5 = some (r, vD1)) : CtI l yX7_append wsX7_append rmX7_append g [.ref (bF 0), .int x1, .int x2, .int x3, .int x4, .int x5] (cF g bF (bD 0) qF1 qF2 qF3 qF4 vF ++ (cD g bD qD0 vD)) (cF g bF (bD 0) qF1 qF2 qF3 qF4 vF ++ (cD g bD qD0 vD1)) r 0 0 := by
  unfold CtI
  intro sz
  refine Met.ofW (cc := cX7_append) (maxL := 6) (ret := (some .int)) (by decide) rfl ?_
  intro p e s m args below meth c s₁ B hml hv
  obtain ⟨rfl, hsz, hP, hK, hD0, hG⟩ := hv
  have hx := B.exec
  have hb := B.bytes
  have hr := B.returns
  have hts := atoms_spec (ws := wsX7_append) B.pre
  have hown : s.vm.findClass RX7 = some m.cls := findClass_of_methodNamed B.named
  have hlocks := B.notSynchronized
  subst hsz
  have hD := hD0.self (sz := s.heap.size)
  generalize hAe : va_A (cF g bF (bD 0) qF1 qF2 qF3 qF4 vF ++ (cD g bD qD0 vD)) s.heap.size = A at hD hG ⊢
  have hA : ∀ q : Nat, s.heap.size ≤ q → A q := fun q h => by rw [← hAe]; exact Or.inr h
  clear hAe hD0
  have hS : va_S A s.heap s.heap [] := va_S.rf
  have hl := lv_entry ([.ref (bF 0), .int x1, .int x2, .int x3, .int x4, .int x5]) (n := 6) (Nat.le_of_ble_eq_true rfl)
  rw [lg_entry_eq]
  generalize (lg_sl ([.ref (bF 0), .int x1, .int x2, .int x3, .int x4, .int x5]) ++ List.replicate (6 - (lg_sl ([.ref (bF 0), .int x1, .int x2, .int x3, .int x4, .int x5])).length) Slot.unset).toArray = ls at hl ⊢
  have hl : lv_has ls 6 [(0, .ref (bF 0)), (1, .int x1), (2, .int x2), (3, .int x3), (4, .int x4), (5, .int x5)] := hl
  have htu : ∀ w ∈ UW, w.before _ s = true := fun w h => hts w (List.mem_cons_of_mem _ h)
  have k_2_18 := htu _ mw_2_18
  have k_1_163 := htu _ mw_1_163
  unfold f_X7_append at hf
  obtain ⟨H, hH⟩ : ∃ z, z = s.heap := ⟨_, rfl⟩
  obtain ⟨locs, hlo⟩ : ∃ z : List Loc, z = [] := ⟨_, rfl⟩
  have hS : va_S A s.heap H locs := by rw [hH, hlo]; exact hS
  rw [← hH] at hP
  have hW : W p l e (headSpec wsX7_append rmX7_append).room s m ([.ref (bF 0), .int x1, .int x2, .int x3, .int x4, .int x5] : List Value).toArray below meth c H locs 0 0 (MQ below (qI g A (cF g bF (bD 0) qF1 qF2 qF3 qF4 vF ++ (cD g bD qD0 vD1)) r) ([.ref (bF 0), .int x1, .int x2, .int x3, .int x4, .int x5] : List Value).toArray s 0 0 A) (F0 m 0 ls []) := by
    refine lv_aload_n hx hb dX7_append_0 rfl (lv_at hl 0 rfl) ?_
    refine va_get (D := g.1) (ci := 7) (fs := fcF bF (bD 0) qF1 qF2 qF3 qF4 vF) (v := .ref (bD 0)) (C := RX7) (T := TX7) (N := 12) hx hb htu hinX7 hown hK hP 0 rfl rfl 0 (by decide) k_2_18 (fun _ h9 => h9) rfl dX7_append_1 ?_
    refine va_get (D := g.1) (ci := 5) (fs := fcD bD qD0 vD) (v := .int (vD.1 1)) (C := RX5) (T := TX5) (N := 10) hx hb htu hinX5 hown hK hP 6 rfl rfl 1 (by decide) k_1_163 (fun _ h9 => h9) rfl dX7_append_4 ?_
    refine lv_bipush (v := (20 : Int32)) hx hb dX7_append_7 (by decide) ?_
    refine lv_iadd hx hb dX7_append_9 ?_
    refine lv_sipush (v := (800 : Int32)) hx hb dX7_append_10 (by decide) ?_
    refine lv_icmp_le (tgt := 18) hx hb dX7_append_13 (by decide) (fun c1 => ?_) (fun c1 => ?_)
    · have hf := it_t hf c1
      refine lv_aload_n hx hb dX7_append_18 rfl (lv_at hl 0 rfl) ?_
      refine va_get (D := g.1) (ci := 7) (fs := fcF bF (bD 0) qF1 qF2 qF3 qF4 vF) (v := .ref (bD 0)) (C := RX7) (T := TX7) (N := 12) hx hb htu hinX7 hown hK hP 0 rfl rfl 0 (by decide) k_2_18 (fun _ h9 => h9) rfl dX7_append_19 ?_
      refine lv_iload_n hx hb dX7_append_22 rfl (lv_at hl 1 rfl) ?_
      obtain ⟨vD_2, hg3, hf⟩ := o1_at hf
      refine k_vvP ⟨hx, hb, hml, hown, htu⟩ hK hP hD hS hA hG (c_X5_putBytes l g bD qD0 vD x1 vD_2 hg3) (cwV 1 htu (gU_V mw_2_59 hcX5_putBytes) rfl rfl rfl hdX5_putBytes ⟨Nat.le_of_ble_eq_true rfl, Nat.le_of_ble_eq_true rfl⟩) (q0 := 6) (ci := 5) (fs := fcD bD qD0 vD) (q := (RX5, TX5, 10)) rfl rfl rfl (wr := (cF g bF (bD 0) qF1 qF2 qF3 qF4 vF)) (w2 := cF g bF (bD 0) qF1 qF2 qF3 qF4 vF ++ (cD g bD qD0 vD_2)) [6, 7] [0, 1, 2, 3, 4, 5] [0, 1, 2, 3, 4, 5, 6, 7] rfl rfl (by decide) (by decide) (by decide) rfl rfl (by decide) (As := [.int x1]) (rest := []) rfl rfl hl.1 (Nat.le_of_ble_eq_true rfl) dX7_append_23 (k1 := 0) (n1 := 0) rfl rfl ⟨Nat.zero_le _, Nat.zero_le _⟩ (fun H locs hP hD hS => ?_)
      refine lv_aload_n hx hb dX7_append_26 rfl (lv_at hl 0 rfl) ?_
      refine va_get (D := g.1) (ci := 7) (fs := fcF bF (bD 0) qF1 qF2 qF3 qF4 vF) (v := .ref (bD 0)) (C := RX7) (T := TX7) (N := 12) hx hb htu hinX7 hown hK hP 0 rfl rfl 0 (by decide) k_2_18 (fun _ h9 => h9) rfl dX7_append_27 ?_
      refine lv_iload_n hx hb dX7_append_30 rfl (lv_at hl 2 rfl) ?_
      obtain ⟨vD_4, hg5, hf⟩ := o1_at hf
      refine k_vvP ⟨hx, hb, hml, hown, htu⟩ hK hP hD hS hA hG (c_X5_putBytes l g bD qD0 vD_2 x2 vD_4 hg5) (cwV 1 htu (gU_V mw_2_59 hcX5_putBytes) rfl rfl rfl hdX5_putBytes ⟨Nat.le_of_ble_eq_true rfl, Nat.le_of_ble_eq_true rfl⟩) (q0 := 6) (ci := 5) (fs := fcD bD qD0 vD_2) (q := (RX5, TX5, 10)) rfl rfl rfl (wr := (cF g bF (bD 0) qF1 qF2 qF3 qF4 vF)) (w2 := cF g bF (bD 0) qF1 qF2 qF3 qF4 vF ++ (cD g bD qD0 vD_4)) [6, 7] [0, 1, 2, 3, 4, 5] [0, 1, 2, 3, 4, 5, 6, 7] rfl rfl (by decide) (by decide) (by decide) rfl rfl (by decide) (As := [.int x2]) (rest := []) rfl rfl hl.1 (Nat.le_of_ble_eq_true rfl) dX7_append_31 (k1 := 0) (n1 := 0) rfl rfl ⟨Nat.zero_le _, Nat.zero_le _⟩ (fun H locs hP hD hS => ?_)
      refine lv_aload_n hx hb dX7_append_34 rfl (lv_at hl 0 rfl) ?_
      refine va_get (D := g.1) (ci := 7) (fs := fcF bF (bD 0) qF1 qF2 qF3 qF4 vF) (v := .ref (bD 0)) (C := RX7) (T := TX7) (N := 12) hx hb htu hinX7 hown hK hP 0 rfl rfl 0 (by decide) k_2_18 (fun _ h9 => h9) rfl dX7_append_35 ?_
      refine lv_iload_n hx hb dX7_append_38 rfl (lv_at hl 3 rfl) ?_
      obtain ⟨vD_6, hg7, hf⟩ := o1_at hf
      refine k_vvP ⟨hx, hb, hml, hown, htu⟩ hK hP hD hS hA hG (c_X5_putBytes l g bD qD0 vD_4 x3 vD_6 hg7) (cwV 1 htu (gU_V mw_2_59 hcX5_putBytes) rfl rfl rfl hdX5_putBytes ⟨Nat.le_of_ble_eq_true rfl, Nat.le_of_ble_eq_true rfl⟩) (q0 := 6) (ci := 5) (fs := fcD bD qD0 vD_4) (q := (RX5, TX5, 10)) rfl rfl rfl (wr := (cF g bF (bD 0) qF1 qF2 qF3 qF4 vF)) (w2 := cF g bF (bD 0) qF1 qF2 qF3 qF4 vF ++ (cD g bD qD0 vD_6)) [6, 7] [0, 1, 2, 3, 4, 5] [0, 1, 2, 3, 4, 5, 6, 7] rfl rfl (by decide) (by decide) (by decide) rfl rfl (by decide) (As := [.int x3]) (rest := []) rfl rfl hl.1 (Nat.le_of_ble_eq_true rfl) dX7_append_39 (k1 := 0) (n1 := 0) rfl rfl ⟨Nat.zero_le _, Nat.zero_le _⟩ (fun H locs hP hD hS => ?_)
      refine lv_aload_n hx hb dX7_append_42 rfl (lv_at hl 0 rfl) ?_
      refine va_get (D := g.1) (ci := 7) (fs := fcF bF (bD 0) qF1 qF2 qF3 qF4 vF) (v := .ref (bD 0)) (C := RX7) (T := TX7) (N := 12) hx hb htu hinX7 hown hK hP 0 rfl rfl 0 (by decide) k_2_18 (fun _ h9 => h9) rfl dX7_append_43 ?_
      refine lv_iload hx hb dX7_append_46 (lv_at hl 4 rfl) ?_
      obtain ⟨vD_8, hg9, hf⟩ := o1_at hf
      refine k_vvP ⟨hx, hb, hml, hown, htu⟩ hK hP hD hS hA hG (c_X5_putBytes l g bD qD0 vD_6 x4 vD_8 hg9) (cwV 1 htu (gU_V mw_2_59 hcX5_putBytes) rfl rfl rfl hdX5_putBytes ⟨Nat.le_of_ble_eq_true rfl, Nat.le_of_ble_eq_true rfl⟩) (q0 := 6) (ci := 5) (fs := fcD bD qD0 vD_6) (q := (RX5, TX5, 10)) rfl rfl rfl (wr := (cF g bF (bD 0) qF1 qF2 qF3 qF4 vF)) (w2 := cF g bF (bD 0) qF1 qF2 qF3 qF4 vF ++ (cD g bD qD0 vD_8)) [6, 7] [0, 1, 2, 3, 4, 5] [0, 1, 2, 3, 4, 5, 6, 7] rfl rfl (by decide) (by decide) (by decide) rfl rfl (by decide) (As := [.int x4]) (rest := []) rfl rfl hl.1 (Nat.le_of_ble_eq_true rfl) dX7_append_48 (k1 := 0) (n1 := 0) rfl rfl ⟨Nat.zero_le _, Nat.zero_le _⟩ (fun H locs hP hD hS => ?_)
      refine lv_aload_n hx hb dX7_append_51 rfl (lv_at hl 0 rfl) ?_
      refine va_get (D := g.1) (ci := 7) (fs := fcF bF (bD 0) qF1 qF2 qF3 qF4 vF) (v := .ref (bD 0)) (C := RX7) (T := TX7) (N := 12) hx hb htu hinX7 hown hK hP 0 rfl rfl 0 (by decide) k_2_18 (fun _ h9 => h9) rfl dX7_append_52 ?_
      refine lv_iload hx hb dX7_append_55 (lv_at hl 5 rfl) ?_
      obtain ⟨vD_10, hg11, hf⟩ := o1_at hf
      refine k_vvP ⟨hx, hb, hml, hown, htu⟩ hK hP hD hS hA hG (c_X5_putBytes l g bD qD0 vD_8 x5 vD_10 hg11) (cwV 1 htu (gU_V mw_2_59 hcX5_putBytes) rfl rfl rfl hdX5_putBytes ⟨Nat.le_of_ble_eq_true rfl, Nat.le_of_ble_eq_true rfl⟩) (q0 := 6) (ci := 5) (fs := fcD bD qD0 vD_8) (q := (RX5, TX5, 10)) rfl rfl rfl (wr := (cF g bF (bD 0) qF1 qF2 qF3 qF4 vF)) (w2 := cF g bF (bD 0) qF1 qF2 qF3 qF4 vF ++ (cD g bD qD0 vD_10)) [6, 7] [0, 1, 2, 3, 4, 5] [0, 1, 2, 3, 4, 5, 6, 7] rfl rfl (by decide) (by decide) (by decide) rfl rfl (by decide) (As := [.int x5]) (rest := []) rfl rfl hl.1 (Nat.le_of_ble_eq_true rfl) dX7_append_57 (k1 := 0) (n1 := 0) rfl rfl ⟨Nat.zero_le _, Nat.zero_le _⟩ (fun H locs hP hD hS => ?_)
      refine lv_aload_n hx hb dX7_append_60 rfl (lv_at hl 0 rfl) ?_
      refine va_get (D := g.1) (ci := 7) (fs := fcF bF (bD 0) qF1 qF2 qF3 qF4 vF) (v := .ref (bD 0)) (C := RX7) (T := TX7) (N := 12) hx hb htu hinX7 hown hK hP 0 rfl rfl 0 (by decide) k_2_18 (fun _ h9 => h9) rfl dX7_append_61 ?_
      refine va_get (D := g.1) (ci := 5) (fs := fcD bD qD0 vD_10) (v := .int (vD_10.1 1)) (C := RX5) (T := TX5) (N := 10) hx hb htu hinX5 hown hK hP 6 rfl rfl 1 (by decide) k_1_163 (fun _ h9 => h9) rfl dX7_append_64 ?_
      obtain ⟨e12, e13⟩ := kp_2 hf
      rw [e13] at hP hD
      exact k_iret hx hb hr hlocks hK hP hD hS e12 dX7_append_67
    · have hf := it_f hf c1
      refine lv_iconst (v := (-1 : Int32)) hx hb dX7_append_16 (by decide) ?_
      obtain ⟨e14, e15⟩ := kp_2 hf
      rw [e15] at hP hD
      exact k_iret hx hb hr hlocks hK hP hD hS e14 dX7_append_17
  rw [hH, hlo] at hW
  exact hW
def f_X7_errorOffset (vF : Vs) (vD : Vs) : Option (Int32) :=
  some ((vD.1 2))
abbrev wsX7_errorOffset : List Cond := .code yX7_errorOffset cX7_errorOffset 1 (some .int) :: UW
abbrev rmX7_errorOffset : Room := { frames := 0, cells := 0, slots := 0, locals := 0 }
set_option maxHeartbeats 4000000 in
set_option maxRecDepth 100000 in
theorem c_X7_errorOffset (l : Launch) (g : Gx) (bF : Nat → Nat) (qF1 : Nat) (qF2 : Nat) (qF3 : Nat) (qF4 : Nat) (vF : Vs) (bD : Nat → Nat) (qD0 : Nat) (vD : Vs) (r : Int32) (hf : f_X7_errorOffset vF vD = some r) : CtI l yX7_errorOffset wsX7_errorOffset rmX7_errorOffset g [.ref (bF 0)] (cF g bF (bD 0) qF1 qF2 qF3 qF4 vF ++ (cD g bD qD0 vD)) (cF g bF (bD 0) qF1 qF2 qF3 qF4 vF ++ (cD g bD qD0 vD)) r 0 0 := by
  unfold CtI
  intro sz
  refine Met.ofW (cc := cX7_errorOffset) (maxL := 1) (ret := (some .int)) (by decide) rfl ?_
  intro p e s m args below meth c s₁ B hml hv
  obtain ⟨rfl, hsz, hP, hK, hD0, hG⟩ := hv
  have hx := B.exec
  have hb := B.bytes
  have hr := B.returns
  have hts := atoms_spec (ws := wsX7_errorOffset) B.pre
  have hown : s.vm.findClass RX7 = some m.cls := findClass_of_methodNamed B.named
  have hlocks := B.notSynchronized
  subst hsz
  have hD := hD0.self (sz := s.heap.size)
  generalize hAe : va_A (cF g bF (bD 0) qF1 qF2 qF3 qF4 vF ++ (cD g bD qD0 vD)) s.heap.size = A at hD hG ⊢
  have hA : ∀ q : Nat, s.heap.size ≤ q → A q := fun q h => by rw [← hAe]; exact Or.inr h
  clear hAe hD0
  have hS : va_S A s.heap s.heap [] := va_S.rf
  have hl := lv_entry ([.ref (bF 0)]) (n := 1) (Nat.le_of_ble_eq_true rfl)
  rw [lg_entry_eq]
  generalize (lg_sl ([.ref (bF 0)]) ++ List.replicate (1 - (lg_sl ([.ref (bF 0)])).length) Slot.unset).toArray = ls at hl ⊢
  have hl : lv_has ls 1 [(0, .ref (bF 0))] := hl
  have htu : ∀ w ∈ UW, w.before _ s = true := fun w h => hts w (List.mem_cons_of_mem _ h)
  have k_2_18 := htu _ mw_2_18
  have k_1_165 := htu _ mw_1_165
  unfold f_X7_errorOffset at hf
  obtain ⟨H, hH⟩ : ∃ z, z = s.heap := ⟨_, rfl⟩
  obtain ⟨locs, hlo⟩ : ∃ z : List Loc, z = [] := ⟨_, rfl⟩
  have hS : va_S A s.heap H locs := by rw [hH, hlo]; exact hS
  rw [← hH] at hP
  have hW : W p l e (headSpec wsX7_errorOffset rmX7_errorOffset).room s m ([.ref (bF 0)] : List Value).toArray below meth c H locs 0 0 (MQ below (qI g A (cF g bF (bD 0) qF1 qF2 qF3 qF4 vF ++ (cD g bD qD0 vD)) r) ([.ref (bF 0)] : List Value).toArray s 0 0 A) (F0 m 0 ls []) := by
    refine lv_aload_n hx hb dX7_errorOffset_0 rfl (lv_at hl 0 rfl) ?_
    refine va_get (D := g.1) (ci := 7) (fs := fcF bF (bD 0) qF1 qF2 qF3 qF4 vF) (v := .ref (bD 0)) (C := RX7) (T := TX7) (N := 12) hx hb htu hinX7 hown hK hP 0 rfl rfl 0 (by decide) k_2_18 (fun _ h9 => h9) rfl dX7_errorOffset_1 ?_
    refine va_get (D := g.1) (ci := 5) (fs := fcD bD qD0 vD) (v := .int (vD.1 2)) (C := RX5) (T := TX5) (N := 10) hx hb htu hinX5 hown hK hP 6 rfl rfl 2 (by decide) k_1_165 (fun _ h9 => h9) rfl dX7_errorOffset_4 ?_
    have e1 := Option.some.inj hf
    exact k_iret hx hb hr hlocks hK hP hD hS e1 dX7_errorOffset_7
  rw [hH, hlo] at hW
  exact hW
