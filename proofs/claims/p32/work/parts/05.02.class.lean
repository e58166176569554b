def f_X7_listFoundByTests (vF : Vs) (vC : Vs) (vT : Vs) (nRT : Nat) (vRT : Vs) (vG : Vs) (vB : Vs) : Option (Int64 × Vs × Vs × Vs × Vs) :=
  o4 (f_X7_refreshTestRows vF vC vT nRT vRT vG vB) (fun (vF_1 : Vs) (vRT_2 : Vs) (vG_3 : Vs) (vB_4 : Vs) => o2 (f_X7_listFound_t vF_1 vC nRT vRT_2 (vT.1 0)) (fun (r6 : Int64) (vF_7 : Vs) => some (r6, vF_7, vRT_2, vG_3, vB_4)))
abbrev wsX7_listFoundByTests : List Cond := .code yX7_listFoundByTests cX7_listFoundByTests 1 (some .long) :: UW
abbrev rmX7_listFoundByTests : Room := { frames := 4, cells := 0, slots := 0, locals := 104 }
set_option maxHeartbeats 4000000 in
set_option maxRecDepth 100000 in
theorem c_X7_listFoundByTests (l : Launch) (g : Gx) (bF : Nat → Nat) (qF0 : Nat) (qF2 : Nat) (qF3 : Nat) (vF : Vs) (bS : Nat → Nat) (bC : Nat → Nat) (vC : Vs) (bT : Nat → Nat) (vT : Vs) (bRT : Nat → Nat) (nRT : Nat) (vRT : Vs) (bG : Nat → Nat) (vG : Vs) (bB : Nat → Nat) (vB : Vs) (r : Int64) (vF1 : Vs) (vRT1 : Vs) (vG1 : Vs) (vB1 : Vs) (hf : f_X7_listFoundByTests vF vC vT nRT vRT vG vB = some (r, vF1, vRT1, vG1, vB1)) : CtJ l yX7_listFoundByTests wsX7_listFoundByTests rmX7_listFoundByTests g [.ref (bF 0)] (cF g bF qF0 (bS 0) qF2 qF3 (bRT 0) vF ++ (cS g bS (bC 0) (bT 0) ++ (cC g bC vC ++ (cT g bT vT ++ (cR g bRT nRT (bG 0) (bB 0) vRT ++ (cL g bG vG ++ (cL g bB vB))))))) (cF g bF qF0 (bS 0) qF2 qF3 (bRT 0) vF1 ++ (cS g bS (bC 0) (bT 0) ++ (cC g bC vC ++ (cT g bT vT ++ (cR g bRT nRT (bG 0) (bB 0) vRT1 ++ (cL g bG vG1 ++ (cL g bB vB1))))))) r 0 0 := by
  unfold CtJ
  intro sz
  refine Met.ofW (cc := cX7_listFoundByTests) (maxL := 1) (ret := (some .long)) (by decide) rfl ?_
  intro p e s m args below meth c s₁ B hml hv
  obtain ⟨rfl, hsz, hP, hK, hD0, hG⟩ := hv
  have hx := B.exec
  have hb := B.bytes
  have hr := B.returns
  have hts := atoms_spec (ws := wsX7_listFoundByTests) B.pre
  have hown : s.vm.findClass RX7 = some m.cls := findClass_of_methodNamed B.named
  have hlocks := B.notSynchronized
  subst hsz
  have hD := hD0.self (sz := s.heap.size)
  generalize hAe : va_A (cF g bF qF0 (bS 0) qF2 qF3 (bRT 0) vF ++ (cS g bS (bC 0) (bT 0) ++ (cC g bC vC ++ (cT g bT vT ++ (cR g bRT nRT (bG 0) (bB 0) vRT ++ (cL g bG vG ++ (cL g bB vB))))))) s.heap.size = A at hD hG ⊢
  have hA : ∀ q : Nat, s.heap.size ≤ q → A q := fun q h => by rw [← hAe]; exact Or.inr h
  clear hAe hD0
  have hS : va_S A s.heap s.heap [] := va_S.rf
  have hl := lv_entry ([.ref (bF 0)]) (n := 1) (Nat.le_of_ble_eq_true rfl)
  rw [lg_entry_eq]
  generalize (lg_sl ([.ref (bF 0)]) ++ List.replicate (1 - (lg_sl ([.ref (bF 0)])).length) Slot.unset).toArray = ls at hl ⊢
  have hl : lv_has ls 1 [(0, .ref (bF 0))] := hl
  have htu : ∀ w ∈ UW, w.before _ s = true := fun w h => hts w (List.mem_cons_of_mem _ h)
  have k_2_15 := htu _ mw_2_15
  have k_2_12 := htu _ mw_2_12
  have k_1_150 := htu _ mw_1_150
  have k_1_128 := htu _ mw_1_128
  have k_2_20 := htu _ mw_2_20
  unfold f_X7_listFoundByTests at hf
  obtain ⟨H, hH⟩ : ∃ z, z = s.heap := ⟨_, rfl⟩
  obtain ⟨locs, hlo⟩ : ∃ z : List Loc, z = [] := ⟨_, rfl⟩
  have hS : va_S A s.heap H locs := by rw [hH, hlo]; exact hS
  rw [← hH] at hP
  have hW : W p l e (headSpec wsX7_listFoundByTests rmX7_listFoundByTests).room s m ([.ref (bF 0)] : List Value).toArray below meth c H locs 0 0 (MQ below (qJ g A (cF g bF qF0 (bS 0) qF2 qF3 (bRT 0) vF1 ++ (cS g bS (bC 0) (bT 0) ++ (cC g bC vC ++ (cT g bT vT ++ (cR g bRT nRT (bG 0) (bB 0) vRT1 ++ (cL g bG vG1 ++ (cL g bB vB1))))))) r) ([.ref (bF 0)] : List Value).toArray s 0 0 A) (F0 m 0 ls []) := by
    refine lv_aload_n hx hb dX7_listFoundByTests_0 rfl (lv_at hl 0 rfl) ?_
    obtain ⟨vF_1, vRT_2, vG_3, vB_4, hg5, hf⟩ := o4_at hf
    refine k_vvW ⟨hx, hb, hml, hown, htu⟩ hK hP hD hS hA hG (c_X7_refreshTestRows l g bF qF0 qF2 qF3 vF bS bC vC bT vT bRT nRT vRT bG vG bB vB vF_1 vRT_2 vG_3 vB_4 hg5) (cwV 0 htu (gU_V mw_2_70 hcX7_refreshTestRows) rfl rfl rfl hdX7_refreshTestRows ⟨Nat.le_of_ble_eq_true rfl, Nat.le_of_ble_eq_true rfl⟩) (q0 := 0) (ci := 7) (fs := fcF bF qF0 (bS 0) qF2 qF3 (bRT 0) vF) (q := (RX7, TX7, 12)) rfl rfl rfl (As := []) (rest := []) rfl rfl hl.1 (Nat.le_of_ble_eq_true rfl) dX7_listFoundByTests_1 (k1 := 0) (n1 := 0) rfl rfl ⟨Nat.zero_le _, Nat.zero_le _⟩ (fun H locs hP hD hS => ?_)
    refine lv_aload_n hx hb dX7_listFoundByTests_4 rfl (lv_at hl 0 rfl) ?_
    refine lv_aload_n hx hb dX7_listFoundByTests_5 rfl (lv_at hl 0 rfl) ?_
    refine va_get (D := g.1) (ci := 7) (fs := fcF bF qF0 (bS 0) qF2 qF3 (bRT 0) vF_1) (v := .ref (bRT 0)) (C := RX7) (T := TX7) (N := 12) hx hb htu hinX7 hown hK hP 0 rfl rfl 4 (by decide) k_2_15 (fun _ h9 => h9) rfl dX7_listFoundByTests_6 ?_
    refine lv_aload_n hx hb dX7_listFoundByTests_9 rfl (lv_at hl 0 rfl) ?_
    refine va_get (D := g.1) (ci := 7) (fs := fcF bF qF0 (bS 0) qF2 qF3 (bRT 0) vF_1) (v := .ref (bS 0)) (C := RX7) (T := TX7) (N := 12) hx hb htu hinX7 hown hK hP 0 rfl rfl 1 (by decide) k_2_12 (fun _ h9 => h9) rfl dX7_listFoundByTests_10 ?_
    refine va_get (D := g.1) (ci := 4) (fs := fcS bS (bC 0) (bT 0)) (v := .ref (bT 0)) (C := RX4) (T := TX4) (N := 2) hx hb htu hinX4 hown hK hP 6 rfl rfl 1 (by decide) k_1_150 (fun _ h9 => h9) rfl dX7_listFoundByTests_13 ?_
    refine va_get (D := g.1) (ci := 6) (fs := fcT bT vT) (v := .int (vT.1 0)) (C := RX6) (T := TX6) (N := 5) hx hb htu hinX6 hown hK hP 18 rfl rfl 0 (by decide) k_1_128 (fun _ h9 => h9) rfl dX7_listFoundByTests_16 ?_
    refine lv_aload_n hx hb dX7_listFoundByTests_19 rfl (lv_at hl 0 rfl) ?_
    refine va_get (D := g.1) (ci := 7) (fs := fcF bF qF0 (bS 0) qF2 qF3 (bRT 0) vF_1) (v := .ref (bF 10)) (C := RX7) (T := TX7) (N := 12) hx hb htu hinX7 hown hK hP 0 rfl rfl 9 (by decide) k_2_20 (fun _ h9 => h9) rfl dX7_listFoundByTests_20 ?_
    obtain ⟨r6, vF_7, hg8, hf⟩ := o2_at hf
    refine k_vlP ⟨hx, hb, hml, hown, htu⟩ hK hP hD hS hA hG (c_X7_listFound_t l g bF qF0 qF2 qF3 vF_1 bS (bT 0) bC vC bRT nRT (bG 0) (bB 0) vRT_2 (vT.1 0) r6 vF_7 hg8) (cwV 3 htu (gU_V mw_2_111 hcX7_listFound) rfl rfl rfl hdX7_listFound ⟨Nat.le_of_ble_eq_true rfl, Nat.le_of_ble_eq_true rfl⟩) (q0 := 0) (ci := 7) (fs := fcF bF qF0 (bS 0) qF2 qF3 (bRT 0) vF_1) (q := (RX7, TX7, 12)) rfl rfl rfl (wr := (cT g bT vT ++ (cL g bG vG_3 ++ (cL g bB vB_4)))) (w2 := cF g bF qF0 (bS 0) qF2 qF3 (bRT 0) vF_7 ++ (cS g bS (bC 0) (bT 0) ++ (cC g bC vC ++ (cT g bT vT ++ (cR g bRT nRT (bG 0) (bB 0) vRT_2 ++ (cL g bG vG_3 ++ (cL g bB vB_4))))))) [0, 1, 2, 3, 4, 5, 6, 7, 8, 9, 10, 11, 12, 13, 14, 15, 16, 17, 23, 24, 25] [18, 19, 20, 21, 22, 26, 27, 28, 29, 30, 31] [11, 12, 13, 14, 15, 16, 17, 18, 19, 20, 21, 22, 23, 24, 25, 26, 27, 28, 0, 1, 2, 3, 4, 29, 30, 31, 5, 6, 7, 8, 9, 10] rfl rfl (by decide) (by decide) (by decide) rfl rfl (by decide) (As := [.ref (bRT 0), .int (vT.1 0), .ref (bF 10)]) (rest := []) rfl rfl hl.1 (Nat.le_of_ble_eq_true rfl) dX7_listFoundByTests_23 (k1 := 0) (n1 := 0) rfl rfl ⟨Nat.zero_le _, Nat.zero_le _⟩ (fun H locs hP hD hS => ?_)
    obtain ⟨e9, e10, e11, e12, e13⟩ := kp_5 hf
    rw [e10] at hP hD
    rw [e11] at hP hD
    rw [e12] at hP hD
    rw [e13] at hP hD
    exact k_lret hx hb hr hlocks hK hP hD hS e9 dX7_listFoundByTests_26
  rw [hH, hlo] at hW
  exact hW
def f_X7_firstAlike_L2 (vC : Vs) (nRF : Nat) (vRF : Vs) (x1 : Int32) (self2 : Int32 → Option (Int32)) (x2_1 : Int32) : Option (Int32) :=
  if x1 ≤ x2_1 then some (x1) else o1 (f_X3_firstApart nRF vRF vC x1 x2_1) (fun (r7 : Int32) => if 0 ≤ r7 then self2 (x2_1 + (1 : Int32)) else some (x2_1))
def f_X7_firstAlike (vF : Vs) (vC : Vs) (nRF : Nat) (vRF : Vs) (x1 : Int32) : Option (Int32) :=
  lp (f_X7_firstAlike_L2 vC nRF vRF x1) (fun _ => none) FU (0 : Int32)
abbrev wsX7_firstAlike : List Cond := .code yX7_firstAlike cX7_firstAlike 3 (some .int) :: UW
abbrev rmX7_firstAlike : Room := { frames := 3, cells := 0, slots := 0, locals := 79 }
set_option maxHeartbeats 4000000 in
set_option maxRecDepth 100000 in
theorem c_X7_firstAlike (l : Launch) (g : Gx) (bF : Nat → Nat) (qF0 : Nat) (qF2 : Nat) (qF4 : Nat) (vF : Vs) (bS : Nat → Nat) (qS1 : Nat) (bC : Nat → Nat) (vC : Vs) (bRF : Nat → Nat) (nRF : Nat) (qRF0 : Nat) (qRF1 : Nat) (vRF : Vs) (x1 : Int32) (r : Int32) (hf : f_X7_firstAlike vF vC nRF vRF x1 = some r) : CtI l yX7_firstAlike wsX7_firstAlike rmX7_firstAlike g [.ref (bF 0), .int x1] (cF g bF qF0 (bS 0) qF2 (bRF 0) qF4 vF ++ (cS g bS (bC 0) qS1 ++ (cC g bC vC ++ (cR g bRF nRF qRF0 qRF1 vRF)))) (cF g bF qF0 (bS 0) qF2 (bRF 0) qF4 vF ++ (cS g bS (bC 0) qS1 ++ (cC g bC vC ++ (cR g bRF nRF qRF0 qRF1 vRF)))) r 0 0 := by
  unfold CtI
  intro sz
  refine Met.ofW (cc := cX7_firstAlike) (maxL := 3) (ret := (some .int)) (by decide) rfl ?_
  intro p e s m args below meth c s₁ B hml hv
  obtain ⟨rfl, hsz, hP, hK, hD0, hG⟩ := hv
  have hx := B.exec
  have hb := B.bytes
  have hr := B.returns
  have hts := atoms_spec (ws := wsX7_firstAlike) B.pre
  have hown : s.vm.findClass RX7 = some m.cls := findClass_of_methodNamed B.named
  have hlocks := B.notSynchronized
  subst hsz
  have hD := hD0.self (sz := s.heap.size)
  generalize hAe : va_A (cF g bF qF0 (bS 0) qF2 (bRF 0) qF4 vF ++ (cS g bS (bC 0) qS1 ++ (cC g bC vC ++ (cR g bRF nRF qRF0 qRF1 vRF)))) s.heap.size = A at hD hG ⊢
  have hA : ∀ q : Nat, s.heap.size ≤ q → A q := fun q h => by rw [← hAe]; exact Or.inr h
  clear hAe hD0
  have hS : va_S A s.heap s.heap [] := va_S.rf
  have hl := lv_entry ([.ref (bF 0), .int x1]) (n := 3) (Nat.le_of_ble_eq_true rfl)
  rw [lg_entry_eq]
  generalize (lg_sl ([.ref (bF 0), .int x1]) ++ List.replicate (3 - (lg_sl ([.ref (bF 0), .int x1])).length) Slot.unset).toArray = ls at hl ⊢
  have hl : lv_has ls 3 [(0, .ref (bF 0)), (1, .int x1)] := hl
  have htu : ∀ w ∈ UW, w.before _ s = true := fun w h => hts w (List.mem_cons_of_mem _ h)
  have k_2_14 := htu _ mw_2_14
  have k_2_12 := htu _ mw_2_12
  have k_1_147 := htu _ mw_1_147
  unfold f_X7_firstAlike at hf
  obtain ⟨H, hH⟩ : ∃ z, z = s.heap := ⟨_, rfl⟩
  obtain ⟨locs, hlo⟩ : ∃ z : List Loc, z = [] := ⟨_, rfl⟩
  have hS : va_S A s.heap H locs := by rw [hH, hlo]; exact hS
  rw [← hH] at hP
  have hW : W p l e (headSpec wsX7_firstAlike rmX7_firstAlike).room s m ([.ref (bF 0), .int x1] : List Value).toArray below meth c H locs 0 0 (MQ below (qI g A (cF g bF qF0 (bS 0) qF2 (bRF 0) qF4 vF ++ (cS g bS (bC 0) qS1 ++ (cC g bC vC ++ (cR g bRF nRF qRF0 qRF1 vRF)))) r) ([.ref (bF 0), .int x1] : List Value).toArray s 0 0 A) (F0 m 0 ls []) := by
    refine lv_iconst (v := (0 : Int32)) hx hb dX7_firstAlike_0 (by decide) ?_
    refine lv_istore_n (lv' := [(2, .int (0 : Int32)), (0, .ref (bF 0)), (1, .int x1)]) hx hb dX7_firstAlike_1 rfl hl (by decide) rfl (fun ls hl => ?_)
    have hL3 : ∀ (x2_1 : Int32), lp (f_X7_firstAlike_L2 vC nRF vRF x1) (fun _ => none) FU x2_1 = some r → ∀ (H : Heap) (locs : List Loc), va_P g.1 vwCl (cF g bF qF0 (bS 0) qF2 (bRF 0) qF4 vF ++ (cS g bS (bC 0) qS1 ++ (cC g bC vC ++ (cR g bRF nRF qRF0 qRF1 vRF)))) H → va_D A (cF g bF qF0 (bS 0) qF2 (bRF 0) qF4 vF ++ (cS g bS (bC 0) qS1 ++ (cC g bC vC ++ (cR g bRF nRF qRF0 qRF1 vRF)))) → va_S A s.heap H locs → ∀ ls : Array Slot, lv_has ls 3 [(0, .ref (bF 0)), (1, .int x1), (2, .int x2_1)] → W p l e (headSpec wsX7_firstAlike rmX7_firstAlike).room s m ([.ref (bF 0), .int x1] : List Value).toArray below meth c H locs 0 0 (MQ below (qI g A (cF g bF qF0 (bS 0) qF2 (bRF 0) qF4 vF ++ (cS g bS (bC 0) qS1 ++ (cC g bC vC ++ (cR g bRF nRF qRF0 qRF1 vRF)))) r) ([.ref (bF 0), .int x1] : List Value).toArray s 0 0 A) (F0 m 2 ls []) := by
      refine lp_ind (T := Int32 → Option (Int32)) (fun self2 => ∀ (x2_1 : Int32), self2 x2_1 = some r → ∀ (H : Heap) (locs : List Loc), va_P g.1 vwCl (cF g bF qF0 (bS 0) qF2 (bRF 0) qF4 vF ++ (cS g bS (bC 0) qS1 ++ (cC g bC vC ++ (cR g bRF nRF qRF0 qRF1 vRF)))) H → va_D A (cF g bF qF0 (bS 0) qF2 (bRF 0) qF4 vF ++ (cS g bS (bC 0) qS1 ++ (cC g bC vC ++ (cR g bRF nRF qRF0 qRF1 vRF)))) → va_S A s.heap H locs → ∀ ls : Array Slot, lv_has ls 3 [(0, .ref (bF 0)), (1, .int x1), (2, .int x2_1)] → W p l e (headSpec wsX7_firstAlike rmX7_firstAlike).room s m ([.ref (bF 0), .int x1] : List Value).toArray below meth c H locs 0 0 (MQ below (qI g A (cF g bF qF0 (bS 0) qF2 (bRF 0) qF4 vF ++ (cS g bS (bC 0) qS1 ++ (cC g bC vC ++ (cR g bRF nRF qRF0 qRF1 vRF)))) r) ([.ref (bF 0), .int x1] : List Value).toArray s 0 0 A) (F0 m 2 ls [])) ?_ ?_ FU
      · intro x2_1 hf; cases hf
      · intro self2 ih4 x2_1 hf H locs hP hD hS ls hl
        unfold f_X7_firstAlike_L2 at hf
        refine lv_iload_n hx hb dX7_firstAlike_2 rfl (lv_at hl 2 rfl) ?_
        refine lv_iload_n hx hb dX7_firstAlike_3 rfl (lv_at hl 1 rfl) ?_
        refine lv_icmp_ge (tgt := 34) hx hb dX7_firstAlike_4 (by decide) (fun c5 => ?_) (fun c5 => ?_)
        · have hf := it_t hf c5
          refine lv_iload_n hx hb dX7_firstAlike_34 rfl (lv_at hl 1 rfl) ?_
          have e6 := Option.some.inj hf
          exact k_iret hx hb hr hlocks hK hP hD hS e6 dX7_firstAlike_35
        · have hf := it_f hf c5
          refine lv_aload_n hx hb dX7_firstAlike_7 rfl (lv_at hl 0 rfl) ?_
          refine va_get (D := g.1) (ci := 7) (fs := fcF bF qF0 (bS 0) qF2 (bRF 0) qF4 vF) (v := .ref (bRF 0)) (C := RX7) (T := TX7) (N := 12) hx hb htu hinX7 hown hK hP 0 rfl rfl 3 (by decide) k_2_14 (fun _ h9 => h9) rfl dX7_firstAlike_8 ?_
          refine lv_aload_n hx hb dX7_firstAlike_11 rfl (lv_at hl 0 rfl) ?_
          refine va_get (D := g.1) (ci := 7) (fs := fcF bF qF0 (bS 0) qF2 (bRF 0) qF4 vF) (v := .ref (bS 0)) (C := RX7) (T := TX7) (N := 12) hx hb htu hinX7 hown hK hP 0 rfl rfl 1 (by decide) k_2_12 (fun _ h9 => h9) rfl dX7_firstAlike_12 ?_
          refine va_get (D := g.1) (ci := 4) (fs := fcS bS (bC 0) qS1) (v := .ref (bC 0)) (C := RX4) (T := TX4) (N := 2) hx hb htu hinX4 hown hK hP 6 rfl rfl 0 (by decide) k_1_147 (fun _ h9 => h9) rfl dX7_firstAlike_15 ?_
          refine lv_iload_n hx hb dX7_firstAlike_18 rfl (lv_at hl 1 rfl) ?_
          refine lv_iload_n hx hb dX7_firstAlike_19 rfl (lv_at hl 2 rfl) ?_
          obtain ⟨r7, hg8, hf⟩ := o1_at hf
          refine k_viP ⟨hx, hb, hml, hown, htu⟩ hK hP hD hS hA hG (c_X3_firstApart l g bRF nRF qRF0 qRF1 vRF bC vC x1 x2_1 r7 hg8) (cwV 3 htu (gU_V mw_3_1 hcX3_firstApart) rfl rfl rfl hdX3_firstApart ⟨Nat.le_of_ble_eq_true rfl, Nat.le_of_ble_eq_true rfl⟩) (q0 := 18) (ci := 3) (fs := fcR bRF qRF0 qRF1 vRF) (q := (RX3, TX3, 5)) rfl rfl rfl (wr := (cF g bF qF0 (bS 0) qF2 (bRF 0) qF4 vF ++ (cS g bS (bC 0) qS1))) (w2 := cF g bF qF0 (bS 0) qF2 (bRF 0) qF4 vF ++ (cS g bS (bC 0) qS1 ++ (cC g bC vC ++ (cR g bRF nRF qRF0 qRF1 vRF)))) [18, 19, 20, 7, 8, 9, 10, 11, 12, 13, 14, 15, 16, 17] [0, 1, 2, 3, 4, 5, 6] [0, 1, 2, 3, 4, 5, 6, 10, 11, 12, 13, 14, 15, 16, 17, 18, 19, 20, 7, 8, 9] rfl rfl (by decide) (by decide) (by decide) rfl rfl (by decide) (As := [.ref (bC 0), .int x1, .int x2_1]) (rest := []) rfl rfl hl.1 (Nat.le_of_ble_eq_true rfl) dX7_firstAlike_20 (k1 := 0) (n1 := 0) rfl rfl ⟨Nat.zero_le _, Nat.zero_le _⟩ (fun H locs hP hD hS => ?_)
          refine lv_if_ge (tgt := 28) hx hb dX7_firstAlike_23 (by decide) (fun c9 => ?_) (fun c9 => ?_)
          · have hf := it_t hf c9
            refine lv_iinc (v := (x2_1 + (1 : Int32))) (lv' := [(2, .int (x2_1 + (1 : Int32))), (0, .ref (bF 0)), (1, .int x1)]) hx hb dX7_firstAlike_28 hl (k := 2) rfl rfl (by decide) rfl (fun ls hl => ?_)
            refine lv_goto (tgt := 2) hx hb dX7_firstAlike_31 (by decide) ?_
            exact ih4 (x2_1 + (1 : Int32)) hf H locs hP hD hS _ (lv_sub hl [1, 2, 0] rfl)
          · have hf := it_f hf c9
            refine lv_iload_n hx hb dX7_firstAlike_26 rfl (lv_at hl 2 rfl) ?_
            have e10 := Option.some.inj hf
            exact k_iret hx hb hr hlocks hK hP hD hS e10 dX7_firstAlike_27
    exact hL3 (0 : Int32) hf H locs hP hD hS _ (lv_sub hl [1, 2, 0] rfl)
  rw [hH, hlo] at hW
  exact hW
def f_X7_state (vF : Vs) (vC : Vs) (vT : Vs) (nRT : Nat) (vRT : Vs) (vG : Vs) (vB : Vs) (x1 : Int32) : Option (Nat × Int32 × Vs × Vs × Vs × Vs) :=
  if x1 = (0 : Int32) then some (0, (vC.1 0), vF, vRT, vG, vB) else if x1 = (1 : Int32) then some (0, (vC.1 1), vF, vRT, vG, vB) else if x1 = (2 : Int32) then some (0, (vC.1 2), vF, vRT, vG, vB) else if x1 = (3 : Int32) then o1 (f_X0_faultCount vC) (fun (r23 : Int32) => some (0, r23, vF, vRT, vG, vB)) else if x1 = (4 : Int32) then some (0, (vC.1 3), vF, vRT, vG, vB) else if x1 = (5 : Int32) then some (0, (vT.1 0), vF, vRT, vG, vB) else if x1 = (6 : Int32) then o1 (f_X6_countSeen vT) (fun (r46 : Int32) => some (0, r46, vF, vRT, vG, vB)) else if x1 = (7 : Int32) then o5 (f_X7_listFoundByTests vF vC vT nRT vRT vG vB) (fun (r55 : Int64) (vF_56 : Vs) (vRT_57 : Vs) (vG_58 : Vs) (vB_59 : Vs) => o1 (f_J13_bitCount_95d88 r55) (fun (r61 : Int32) => some (0, r61, vF_56, vRT_57, vG_58, vB_59))) else if x1 = (8 : Int32) then o1 (f_X0_greatestLevel vC) (fun (r70 : Int32) => some (0, r70, vF, vRT, vG, vB)) else some (1, (0 : Int32), vF, vRT, vG, vB)
abbrev wsX7_state : List Cond := .code yX7_state cX7_state 2 (some .int) :: UW
abbrev rmX7_state : Room := { frames := 5, cells := 0, slots := 0, locals := 124 }
set_option maxHeartbeats 4000000 in
set_option maxRecDepth 100000 in
theorem c_X7_state (l : Launch) (g : Gx) (bF : Nat → Nat) (qF0 : Nat) (qF2 : Nat) (qF3 : Nat) (vF : Vs) (bS : Nat → Nat) (bC : Nat → Nat) (vC : Vs) (bT : Nat → Nat) (vT : Vs) (bRT : Nat → Nat) (nRT : Nat) (vRT : Vs) (bG : Nat → Nat) (vG : Vs) (bB : Nat → Nat) (vB : Vs) (x1 : Int32) (r : Int32) (vF1 : Vs) (vRT1 : Vs) (vG1 : Vs) (vB1 : Vs) (hf : f_X7_state vF vC vT nRT vRT vG vB x1 = some (0, r, vF1, vRT1, vG1, vB1)) : CtI l yX7_state wsX7_state rmX7_state g [.ref (bF 0), .int x1] (cF g bF qF0 (bS 0) qF2 qF3 (bRT 0) vF ++ (cS g bS (bC 0) (bT 0) ++ (cC g bC vC ++ (cT g bT vT ++ (cR g bRT nRT (bG 0) (bB 0) vRT ++ (cL g bG vG ++ (cL g bB vB))))))) (cF g bF qF0 (bS 0) qF2 qF3 (bRT 0) vF1 ++ (cS g bS (bC 0) (bT 0) ++ (cC g bC vC ++ (cT g bT vT ++ (cR g bRT nRT (bG 0) (bB 0) vRT1 ++ (cL g bG vG1 ++ (cL g bB vB1))))))) r 0 0 := by
  unfold CtI
  intro sz
  refine Met.ofW (cc := cX7_state) (maxL := 2) (ret := (some .int)) (by decide) rfl ?_
  intro p e s m args below meth c s₁ B hml hv
  obtain ⟨rfl, hsz, hP, hK, hD0, hG⟩ := hv
  have hx := B.exec
  have hb := B.bytes
  have hr := B.returns
  have hts := atoms_spec (ws := wsX7_state) B.pre
  have hown : s.vm.findClass RX7 = some m.cls := findClass_of_methodNamed B.named
  have hlocks := B.notSynchronized
  subst hsz
  have hD := hD0.self (sz := s.heap.size)
  generalize hAe : va_A (cF g bF qF0 (bS 0) qF2 qF3 (bRT 0) vF ++ (cS g bS (bC 0) (bT 0) ++ (cC g bC vC ++ (cT g bT vT ++ (cR g bRT nRT (bG 0) (bB 0) vRT ++ (cL g bG vG ++ (cL g bB vB))))))) s.heap.size = A at hD hG ⊢
  have hA : ∀ q : Nat, s.heap.size ≤ q → A q := fun q h => by rw [← hAe]; exact Or.inr h
  clear hAe hD0
  have hS : va_S A s.heap s.heap [] := va_S.rf
  have hl := lv_entry ([.ref (bF 0), .int x1]) (n := 2) (Nat.le_of_ble_eq_true rfl)
  rw [lg_entry_eq]
  generalize (lg_sl ([.ref (bF 0), .int x1]) ++ List.replicate (2 - (lg_sl ([.ref (bF 0), .int x1])).length) Slot.unset).toArray = ls at hl ⊢
  have hl : lv_has ls 2 [(0, .ref (bF 0)), (1, .int x1)] := hl
  have htu : ∀ w ∈ UW, w.before _ s = true := fun w h => hts w (List.mem_cons_of_mem _ h)
  have k_2_12 := htu _ mw_2_12
  have k_1_147 := htu _ mw_1_147
  have k_1_61 := htu _ mw_1_61
  have k_1_64 := htu _ mw_1_64
  have k_1_69 := htu _ mw_1_69
  have k_1_71 := htu _ mw_1_71
  have k_1_150 := htu _ mw_1_150
  have k_1_128 := htu _ mw_1_128
  unfold f_X7_state at hf
  obtain ⟨H, hH⟩ : ∃ z, z = s.heap := ⟨_, rfl⟩
  obtain ⟨locs, hlo⟩ : ∃ z : List Loc, z = [] := ⟨_, rfl⟩
  have hS : va_S A s.heap H locs := by rw [hH, hlo]; exact hS
  rw [← hH] at hP
  have hW : W p l e (headSpec wsX7_state rmX7_state).room s m ([.ref (bF 0), .int x1] : List Value).toArray below meth c H locs 0 0 (MQ below (qI g A (cF g bF qF0 (bS 0) qF2 qF3 (bRT 0) vF1 ++ (cS g bS (bC 0) (bT 0) ++ (cC g bC vC ++ (cT g bT vT ++ (cR g bRT nRT (bG 0) (bB 0) vRT1 ++ (cL g bG vG1 ++ (cL g bB vB1))))))) r) ([.ref (bF 0), .int x1] : List Value).toArray s 0 0 A) (F0 m 0 ls []) := by
    refine lv_iload_n hx hb dX7_state_0 rfl (lv_at hl 1 rfl) ?_
    by_cases c1 : x1 = (0 : Int32)
    · have hf := it_t hf c1
      refine lv_tableIn (off := 51) (tgt := 52) hx hb dX7_state_1 (by rw [c1]; decide) (by rw [c1]; decide) (by rw [c1]; rfl) (by decide) ?_
      refine lv_aload_n hx hb dX7_state_52 rfl (lv_at hl 0 rfl) ?_
      refine va_get (D := g.1) (ci := 7) (fs := fcF bF qF0 (bS 0) qF2 qF3 (bRT 0) vF) (v := .ref (bS 0)) (C := RX7) (T := TX7) (N := 12) hx hb htu hinX7 hown hK hP 0 rfl rfl 1 (by decide) k_2_12 (fun _ h9 => h9) rfl dX7_state_53 ?_
      refine va_get (D := g.1) (ci := 4) (fs := fcS bS (bC 0) (bT 0)) (v := .ref (bC 0)) (C := RX4) (T := TX4) (N := 2) hx hb htu hinX4 hown hK hP 6 rfl rfl 0 (by decide) k_1_147 (fun _ h9 => h9) rfl dX7_state_56 ?_
      refine va_get (D := g.1) (ci := 0) (fs := fcC bC vC) (v := .int (vC.1 0)) (C := RX0) (T := TX0) (N := 14) hx hb htu hinX0 hown hK hP 7 rfl rfl 0 (by decide) k_1_61 (fun _ h9 => h9) rfl dX7_state_59 ?_
      obtain ⟨e2, e3, e4, e5, e6, e7⟩ := kp_6 hf
      rw [e4] at hP hD
      rw [e5] at hP hD
      rw [e6] at hP hD
      rw [e7] at hP hD
      exact k_iret hx hb hr hlocks hK hP hD hS e3 dX7_state_62
    · have hf := it_f hf c1
      by_cases c8 : x1 = (1 : Int32)
      · have hf := it_t hf c8
        refine lv_tableIn (off := 62) (tgt := 63) hx hb dX7_state_1 (by rw [c8]; decide) (by rw [c8]; decide) (by rw [c8]; rfl) (by decide) ?_
        refine lv_aload_n hx hb dX7_state_63 rfl (lv_at hl 0 rfl) ?_
        refine va_get (D := g.1) (ci := 7) (fs := fcF bF qF0 (bS 0) qF2 qF3 (bRT 0) vF) (v := .ref (bS 0)) (C := RX7) (T := TX7) (N := 12) hx hb htu hinX7 hown hK hP 0 rfl rfl 1 (by decide) k_2_12 (fun _ h9 => h9) rfl dX7_state_64 ?_
        refine va_get (D := g.1) (ci := 4) (fs := fcS bS (bC 0) (bT 0)) (v := .ref (bC 0)) (C := RX4) (T := TX4) (N := 2) hx hb htu hinX4 hown hK hP 6 rfl rfl 0 (by decide) k_1_147 (fun _ h9 => h9) rfl dX7_state_67 ?_
        refine va_get (D := g.1) (ci := 0) (fs := fcC bC vC) (v := .int (vC.1 1)) (C := RX0) (T := TX0) (N := 14) hx hb htu hinX0 hown hK hP 7 rfl rfl 1 (by decide) k_1_64 (fun _ h9 => h9) rfl dX7_state_70 ?_
        obtain ⟨e9, e10, e11, e12, e13, e14⟩ := kp_6 hf
        rw [e11] at hP hD
        rw [e12] at hP hD
        rw [e13] at hP hD
        rw [e14] at hP hD
        exact k_iret hx hb hr hlocks hK hP hD hS e10 dX7_state_73
      · have hf := it_f hf c8
        by_cases c15 : x1 = (2 : Int32)
        · have hf := it_t hf c15
          refine lv_tableIn (off := 73) (tgt := 74) hx hb dX7_state_1 (by rw [c15]; decide) (by rw [c15]; decide) (by rw [c15]; rfl) (by decide) ?_
          refine lv_aload_n hx hb dX7_state_74 rfl (lv_at hl 0 rfl) ?_
          refine va_get (D := g.1) (ci := 7) (fs := fcF bF qF0 (bS 0) qF2 qF3 (bRT 0) vF) (v := .ref (bS 0)) (C := RX7) (T := TX7) (N := 12) hx hb htu hinX7 hown hK hP 0 rfl rfl 1 (by decide) k_2_12 (fun _ h9 => h9) rfl dX7_state_75 ?_
          refine va_get (D := g.1) (ci := 4) (fs := fcS bS (bC 0) (bT 0)) (v := .ref (bC 0)) (C := RX4) (T := TX4) (N := 2) hx hb htu hinX4 hown hK hP 6 rfl rfl 0 (by decide) k_1_147 (fun _ h9 => h9) rfl dX7_state_78 ?_
          refine va_get (D := g.1) (ci := 0) (fs := fcC bC vC) (v := .int (vC.1 2)) (C := RX0) (T := TX0) (N := 14) hx hb htu hinX0 hown hK hP 7 rfl rfl 2 (by decide) k_1_69 (fun _ h9 => h9) rfl dX7_state_81 ?_
          obtain ⟨e16, e17, e18, e19, e20, e21⟩ := kp_6 hf
          rw [e18] at hP hD
          rw [e19] at hP hD
          rw [e20] at hP hD
          rw [e21] at hP hD
          exact k_iret hx hb hr hlocks hK hP hD hS e17 dX7_state_84
        · have hf := it_f hf c15
          by_cases c22 : x1 = (3 : Int32)
          · have hf := it_t hf c22
            refine lv_tableIn (off := 84) (tgt := 85) hx hb dX7_state_1 (by rw [c22]; decide) (by rw [c22]; decide) (by rw [c22]; rfl) (by decide) ?_
            refine lv_aload_n hx hb dX7_state_85 rfl (lv_at hl 0 rfl) ?_
            refine va_get (D := g.1) (ci := 7) (fs := fcF bF qF0 (bS 0) qF2 qF3 (bRT 0) vF) (v := .ref (bS 0)) (C := RX7) (T := TX7) (N := 12) hx hb htu hinX7 hown hK hP 0 rfl rfl 1 (by decide) k_2_12 (fun _ h9 => h9) rfl dX7_state_86 ?_
            refine va_get (D := g.1) (ci := 4) (fs := fcS bS (bC 0) (bT 0)) (v := .ref (bC 0)) (C := RX4) (T := TX4) (N := 2) hx hb htu hinX4 hown hK hP 6 rfl rfl 0 (by decide) k_1_147 (fun _ h9 => h9) rfl dX7_state_89 ?_
            obtain ⟨r23, hg24, hf⟩ := o1_at hf
            refine k_viP ⟨hx, hb, hml, hown, htu⟩ hK hP hD hS hA hG (c_X0_faultCount l g bC vC r23 hg24) (cwV 0 htu (gU_V mw_2_52 hcX0_faultCount) rfl rfl rfl hdX0_faultCount ⟨Nat.le_of_ble_eq_true rfl, Nat.le_of_ble_eq_true rfl⟩) (q0 := 7) (ci := 0) (fs := fcC bC vC) (q := (RX0, TX0, 14)) rfl rfl rfl (wr := (cF g bF qF0 (bS 0) qF2 qF3 (bRT 0) vF ++ (cS g bS (bC 0) (bT 0) ++ (cT g bT vT ++ (cR g bRT nRT (bG 0) (bB 0) vRT ++ (cL g bG vG ++ (cL g bB vB))))))) (w2 := cF g bF qF0 (bS 0) qF2 qF3 (bRT 0) vF ++ (cS g bS (bC 0) (bT 0) ++ (cC g bC vC ++ (cT g bT vT ++ (cR g bRT nRT (bG 0) (bB 0) vRT ++ (cL g bG vG ++ (cL g bB vB))))))) [7, 8, 9, 10, 11, 12, 13, 14, 15, 16, 17] [0, 1, 2, 3, 4, 5, 6, 18, 19, 20, 21, 22, 23, 24, 25, 26, 27, 28, 29, 30, 31] [0, 1, 2, 3, 4, 5, 6, 21, 22, 23, 24, 25, 26, 27, 28, 29, 30, 31, 7, 8, 9, 10, 11, 12, 13, 14, 15, 16, 17, 18, 19, 20] rfl rfl (by decide) (by decide) (by decide) rfl rfl (by decide) (As := []) (rest := []) rfl rfl hl.1 (Nat.le_of_ble_eq_true rfl) dX7_state_92 (k1 := 0) (n1 := 0) rfl rfl ⟨Nat.zero_le _, Nat.zero_le _⟩ (fun H locs hP hD hS => ?_)
            obtain ⟨e25, e26, e27, e28, e29, e30⟩ := kp_6 hf
            rw [e27] at hP hD
            rw [e28] at hP hD
            rw [e29] at hP hD
            rw [e30] at hP hD
            exact k_iret hx hb hr hlocks hK hP hD hS e26 dX7_state_95
          · have hf := it_f hf c22
            by_cases c31 : x1 = (4 : Int32)
            · have hf := it_t hf c31
              refine lv_tableIn (off := 95) (tgt := 96) hx hb dX7_state_1 (by rw [c31]; decide) (by rw [c31]; decide) (by rw [c31]; rfl) (by decide) ?_
              refine lv_aload_n hx hb dX7_state_96 rfl (lv_at hl 0 rfl) ?_
              refine va_get (D := g.1) (ci := 7) (fs := fcF bF qF0 (bS 0) qF2 qF3 (bRT 0) vF) (v := .ref (bS 0)) (C := RX7) (T := TX7) (N := 12) hx hb htu hinX7 hown hK hP 0 rfl rfl 1 (by decide) k_2_12 (fun _ h9 => h9) rfl dX7_state_97 ?_
              refine va_get (D := g.1) (ci := 4) (fs := fcS bS (bC 0) (bT 0)) (v := .ref (bC 0)) (C := RX4) (T := TX4) (N := 2) hx hb htu hinX4 hown hK hP 6 rfl rfl 0 (by decide) k_1_147 (fun _ h9 => h9) rfl dX7_state_100 ?_
              refine va_get (D := g.1) (ci := 0) (fs := fcC bC vC) (v := .int (vC.1 3)) (C := RX0) (T := TX0) (N := 14) hx hb htu hinX0 hown hK hP 7 rfl rfl 3 (by decide) k_1_71 (fun _ h9 => h9) rfl dX7_state_103 ?_
              obtain ⟨e32, e33, e34, e35, e36, e37⟩ := kp_6 hf
              rw [e34] at hP hD
              rw [e35] at hP hD
              rw [e36] at hP hD
              rw [e37] at hP hD
              exact k_iret hx hb hr hlocks hK hP hD hS e33 dX7_state_106
            · have hf := it_f hf c31
              by_cases c38 : x1 = (5 : Int32)
              · have hf := it_t hf c38
                refine lv_tableIn (off := 106) (tgt := 107) hx hb dX7_state_1 (by rw [c38]; decide) (by rw [c38]; decide) (by rw [c38]; rfl) (by decide) ?_
                refine lv_aload_n hx hb dX7_state_107 rfl (lv_at hl 0 rfl) ?_
                refine va_get (D := g.1) (ci := 7) (fs := fcF bF qF0 (bS 0) qF2 qF3 (bRT 0) vF) (v := .ref (bS 0)) (C := RX7) (T := TX7) (N := 12) hx hb htu hinX7 hown hK hP 0 rfl rfl 1 (by decide) k_2_12 (fun _ h9 => h9) rfl dX7_state_108 ?_
                refine va_get (D := g.1) (ci := 4) (fs := fcS bS (bC 0) (bT 0)) (v := .ref (bT 0)) (C := RX4) (T := TX4) (N := 2) hx hb htu hinX4 hown hK hP 6 rfl rfl 1 (by decide) k_1_150 (fun _ h9 => h9) rfl dX7_state_111 ?_
                refine va_get (D := g.1) (ci := 6) (fs := fcT bT vT) (v := .int (vT.1 0)) (C := RX6) (T := TX6) (N := 5) hx hb htu hinX6 hown hK hP 18 rfl rfl 0 (by decide) k_1_128 (fun _ h9 => h9) rfl dX7_state_114 ?_
                obtain ⟨e39, e40, e41, e42, e43, e44⟩ := kp_6 hf
                rw [e41] at hP hD
                rw [e42] at hP hD
                rw [e43] at hP hD
                rw [e44] at hP hD
                exact k_iret hx hb hr hlocks hK hP hD hS e40 dX7_state_117
              · have hf := it_f hf c38
                by_cases c45 : x1 = (6 : Int32)
                · have hf := it_t hf c45
                  refine lv_tableIn (off := 117) (tgt := 118) hx hb dX7_state_1 (by rw [c45]; decide) (by rw [c45]; decide) (by rw [c45]; rfl) (by decide) ?_
                  refine lv_aload_n hx hb dX7_state_118 rfl (lv_at hl 0 rfl) ?_
                  refine va_get (D := g.1) (ci := 7) (fs := fcF bF qF0 (bS 0) qF2 qF3 (bRT 0) vF) (v := .ref (bS 0)) (C := RX7) (T := TX7) (N := 12) hx hb htu hinX7 hown hK hP 0 rfl rfl 1 (by decide) k_2_12 (fun _ h9 => h9) rfl dX7_state_119 ?_
                  refine va_get (D := g.1) (ci := 4) (fs := fcS bS (bC 0) (bT 0)) (v := .ref (bT 0)) (C := RX4) (T := TX4) (N := 2) hx hb htu hinX4 hown hK hP 6 rfl rfl 1 (by decide) k_1_150 (fun _ h9 => h9) rfl dX7_state_122 ?_
                  obtain ⟨r46, hg47, hf⟩ := o1_at hf
                  refine k_viP ⟨hx, hb, hml, hown, htu⟩ hK hP hD hS hA hG (c_X6_countSeen l g bT vT r46 hg47) (cwV 0 htu (gU_V mw_2_56 hcX6_countSeen) rfl rfl rfl hdX6_countSeen ⟨Nat.le_of_ble_eq_true rfl, Nat.le_of_ble_eq_true rfl⟩) (q0 := 18) (ci := 6) (fs := fcT bT vT) (q := (RX6, TX6, 5)) rfl rfl rfl (wr := (cF g bF qF0 (bS 0) qF2 qF3 (bRT 0) vF ++ (cS g bS (bC 0) (bT 0) ++ (cC g bC vC ++ (cR g bRT nRT (bG 0) (bB 0) vRT ++ (cL g bG vG ++ (cL g bB vB))))))) (w2 := cF g bF qF0 (bS 0) qF2 qF3 (bRT 0) vF ++ (cS g bS (bC 0) (bT 0) ++ (cC g bC vC ++ (cT g bT vT ++ (cR g bRT nRT (bG 0) (bB 0) vRT ++ (cL g bG vG ++ (cL g bB vB))))))) [18, 19, 20, 21, 22] [0, 1, 2, 3, 4, 5, 6, 7, 8, 9, 10, 11, 12, 13, 14, 15, 16, 17, 23, 24, 25, 26, 27, 28, 29, 30, 31] [0, 1, 2, 3, 4, 5, 6, 7, 8, 9, 10, 11, 12, 13, 14, 15, 16, 17, 27, 28, 29, 30, 31, 18, 19, 20, 21, 22, 23, 24, 25, 26] rfl rfl (by decide) (by decide) (by decide) rfl rfl (by decide) (As := []) (rest := []) rfl rfl hl.1 (Nat.le_of_ble_eq_true rfl) dX7_state_125 (k1 := 0) (n1 := 0) rfl rfl ⟨Nat.zero_le _, Nat.zero_le _⟩ (fun H locs hP hD hS => ?_)
                  obtain ⟨e48, e49, e50, e51, e52, e53⟩ := kp_6 hf
                  rw [e50] at hP hD
                  rw [e51] at hP hD
                  rw [e52] at hP hD
                  rw [e53] at hP hD
                  exact k_iret hx hb hr hlocks hK hP hD hS e49 dX7_state_128
                · have hf := it_f hf c45
                  by_cases c54 : x1 = (7 : Int32)
                  · have hf := it_t hf c54
                    refine lv_tableIn (off := 128) (tgt := 129) hx hb dX7_state_1 (by rw [c54]; decide) (by rw [c54]; decide) (by rw [c54]; rfl) (by decide) ?_
                    refine lv_aload_n hx hb dX7_state_129 rfl (lv_at hl 0 rfl) ?_
                    obtain ⟨r55, vF_56, vRT_57, vG_58, vB_59, hg60, hf⟩ := o5_at hf
                    refine k_vlW ⟨hx, hb, hml, hown, htu⟩ hK hP hD hS hA hG (c_X7_listFoundByTests l g bF qF0 qF2 qF3 vF bS bC vC bT vT bRT nRT vRT bG vG bB vB r55 vF_56 vRT_57 vG_58 vB_59 hg60) (cwV 0 htu (gU_V mw_2_66 hcX7_listFoundByTests) rfl rfl rfl hdX7_listFoundByTests ⟨Nat.le_of_ble_eq_true rfl, Nat.le_of_ble_eq_true rfl⟩) (q0 := 0) (ci := 7) (fs := fcF bF qF0 (bS 0) qF2 qF3 (bRT 0) vF) (q := (RX7, TX7, 12)) rfl rfl rfl (As := []) (rest := []) rfl rfl hl.1 (Nat.le_of_ble_eq_true rfl) dX7_state_130 (k1 := 0) (n1 := 0) rfl rfl ⟨Nat.zero_le _, Nat.zero_le _⟩ (fun H locs hP hD hS => ?_)
                    obtain ⟨r61, hg62, hf⟩ := o1_at hf
                    refine k_si0 ⟨hx, hb, hml, hown, htu⟩ hK hP hD hS hA hG (c_J13_bitCount_95d88 l g r55 r61 hg62) (va_cwS 1 htu (gU_S mw_2_122 hcJ13_bitCount_95d88) rfl rfl rfl hdJ13_bitCount_95d88 ⟨Nat.le_of_ble_eq_true rfl, Nat.le_of_ble_eq_true rfl⟩) (As := [.long r55]) (rest := []) rfl rfl hl.1 (Nat.le_of_ble_eq_true rfl) dX7_state_133 (k1 := 0) (n1 := 0) rfl rfl ⟨Nat.zero_le _, Nat.zero_le _⟩ (fun H locs hP hD hS => ?_)
                    obtain ⟨e63, e64, e65, e66, e67, e68⟩ := kp_6 hf
                    rw [e65] at hP hD
                    rw [e66] at hP hD
                    rw [e67] at hP hD
                    rw [e68] at hP hD
                    exact k_iret hx hb hr hlocks hK hP hD hS e64 dX7_state_136
                  · have hf := it_f hf c54
                    by_cases c69 : x1 = (8 : Int32)
                    · have hf := it_t hf c69
                      refine lv_tableIn (off := 136) (tgt := 137) hx hb dX7_state_1 (by rw [c69]; decide) (by rw [c69]; decide) (by rw [c69]; rfl) (by decide) ?_
                      refine lv_aload_n hx hb dX7_state_137 rfl (lv_at hl 0 rfl) ?_
                      refine va_get (D := g.1) (ci := 7) (fs := fcF bF qF0 (bS 0) qF2 qF3 (bRT 0) vF) (v := .ref (bS 0)) (C := RX7) (T := TX7) (N := 12) hx hb htu hinX7 hown hK hP 0 rfl rfl 1 (by decide) k_2_12 (fun _ h9 => h9) rfl dX7_state_138 ?_
                      refine va_get (D := g.1) (ci := 4) (fs := fcS bS (bC 0) (bT 0)) (v := .ref (bC 0)) (C := RX4) (T := TX4) (N := 2) hx hb htu hinX4 hown hK hP 6 rfl rfl 0 (by decide) k_1_147 (fun _ h9 => h9) rfl dX7_state_141 ?_
                      obtain ⟨r70, hg71, hf⟩ := o1_at hf
                      refine k_viP ⟨hx, hb, hml, hown, htu⟩ hK hP hD hS hA hG (c_X0_greatestLevel l g bC vC r70 hg71) (cwV 0 htu (gU_V mw_2_128 hcX0_greatestLevel) rfl rfl rfl hdX0_greatestLevel ⟨Nat.le_of_ble_eq_true rfl, Nat.le_of_ble_eq_true rfl⟩) (q0 := 7) (ci := 0) (fs := fcC bC vC) (q := (RX0, TX0, 14)) rfl rfl rfl (wr := (cF g bF qF0 (bS 0) qF2 qF3 (bRT 0) vF ++ (cS g bS (bC 0) (bT 0) ++ (cT g bT vT ++ (cR g bRT nRT (bG 0) (bB 0) vRT ++ (cL g bG vG ++ (cL g bB vB))))))) (w2 := cF g bF qF0 (bS 0) qF2 qF3 (bRT 0) vF ++ (cS g bS (bC 0) (bT 0) ++ (cC g bC vC ++ (cT g bT vT ++ (cR g bRT nRT (bG 0) (bB 0) vRT ++ (cL g bG vG ++ (cL g bB vB))))))) [7, 8, 9, 10, 11, 12, 13, 14, 15, 16, 17] [0, 1, 2, 3, 4, 5, 6, 18, 19, 20, 21, 22, 23, 24, 25, 26, 27, 28, 29, 30, 31] [0, 1, 2, 3, 4, 5, 6, 21, 22, 23, 24, 25, 26, 27, 28, 29, 30, 31, 7, 8, 9, 10, 11, 12, 13, 14, 15, 16, 17, 18, 19, 20] rfl rfl (by decide) (by decide) (by decide) rfl rfl (by decide) (As := []) (rest := []) rfl rfl hl.1 (Nat.le_of_ble_eq_true rfl) dX7_state_144 (k1 := 0) (n1 := 0) rfl rfl ⟨Nat.zero_le _, Nat.zero_le _⟩ (fun H locs hP hD hS => ?_)
                      obtain ⟨e72, e73, e74, e75, e76, e77⟩ := kp_6 hf
                      rw [e74] at hP hD
                      rw [e75] at hP hD
                      rw [e76] at hP hD
                      rw [e77] at hP hD
                      exact k_iret hx hb hr hlocks hK hP hD hS e73 dX7_state_147
                    · have hf := it_f hf c69
                      refine lv_tableOut (tgt := 148) hx hb dX7_state_1 (by
                        have zc1 : ¬ (x1).toInt = 0 := fun h9 => c1 (Int32.toInt_inj.mp (h9.trans (by decide)))
                        have zc8 : ¬ (x1).toInt = 1 := fun h9 => c8 (Int32.toInt_inj.mp (h9.trans (by decide)))
                        have zc15 : ¬ (x1).toInt = 2 := fun h9 => c15 (Int32.toInt_inj.mp (h9.trans (by decide)))
                        have zc22 : ¬ (x1).toInt = 3 := fun h9 => c22 (Int32.toInt_inj.mp (h9.trans (by decide)))
                        have zc31 : ¬ (x1).toInt = 4 := fun h9 => c31 (Int32.toInt_inj.mp (h9.trans (by decide)))
                        have zc38 : ¬ (x1).toInt = 5 := fun h9 => c38 (Int32.toInt_inj.mp (h9.trans (by decide)))
                        have zc45 : ¬ (x1).toInt = 6 := fun h9 => c45 (Int32.toInt_inj.mp (h9.trans (by decide)))
                        have zc54 : ¬ (x1).toInt = 7 := fun h9 => c54 (Int32.toInt_inj.mp (h9.trans (by decide)))
                        have zc69 : ¬ (x1).toInt = 8 := fun h9 => c69 (Int32.toInt_inj.mp (h9.trans (by decide)))
                        omega) (by decide) ?_
                      exact absurd (kp_6 hf).1 (by decide)
  rw [hH, hlo] at hW
  exact hW
def f_X7_value (vF : Vs) (vC : Vs) (vT : Vs) (nRT : Nat) (vRT : Vs) (vG : Vs) (vB : Vs) (x1 : Int32) (x2 : Int32) : Option (Nat × Int32 × Vs × Vs × Vs × Vs) :=
  o1 (f_X7_checkTest vF vT x1) (fun (c1 : Nat) => if c1 = 0 then (o1 (f_X7_checkWire vF vC x2) (fun (c3 : Nat) => if c3 = 0 then (o4 (f_X7_refreshTestRows vF vC vT nRT vRT vG vB) (fun (vF_5 : Vs) (vRT_6 : Vs) (vG_7 : Vs) (vB_8 : Vs) => o1 (f_X2_lane vG_7 x2 x1) (fun (r10 : Int32) => some (0, r10, vF_5, vRT_6, vG_7, vB_8)))) else some (c3, (0 : Int32), vF, vRT, vG, vB))) else some (c1, (0 : Int32), vF, vRT, vG, vB))
abbrev wsX7_value : List Cond := .code yX7_value cX7_value 3 (some .int) :: UW
abbrev rmX7_value : Room := { frames := 4, cells := 0, slots := 0, locals := 104 }
set_option maxHeartbeats 4000000 in
set_option maxRecDepth 100000 in
theorem c_X7_value (l : Launch) (g : Gx) (bF : Nat → Nat) (qF0 : Nat) (qF2 : Nat) (qF3 : Nat) (vF : Vs) (bS : Nat → Nat) (bC : Nat → Nat) (vC : Vs) (bT : Nat → Nat) (vT : Vs) (bRT : Nat → Nat) (nRT : Nat) (vRT : Vs) (bG : Nat → Nat) (vG : Vs) (bB : Nat → Nat) (vB : Vs) (x1 : Int32) (x2 : Int32) (r : Int32) (vF1 : Vs) (vRT1 : Vs) (vG1 : Vs) (vB1 : Vs) (hf : f_X7_value vF vC vT nRT vRT vG vB x1 x2 = some (0, r, vF1, vRT1, vG1, vB1)) : CtI l yX7_value wsX7_value rmX7_value g [.ref (bF 0), .int x1, .int x2] (cF g bF qF0 (bS 0) qF2 qF3 (bRT 0) vF ++ (cS g bS (bC 0) (bT 0) ++ (cC g bC vC ++ (cT g bT vT ++ (cR g bRT nRT (bG 0) (bB 0) vRT ++ (cL g bG vG ++ (cL g bB vB))))))) (cF g bF qF0 (bS 0) qF2 qF3 (bRT 0) vF1 ++ (cS g bS (bC 0) (bT 0) ++ (cC g bC vC ++ (cT g bT vT ++ (cR g bRT nRT (bG 0) (bB 0) vRT1 ++ (cL g bG vG1 ++ (cL g bB vB1))))))) r 0 0 := by
  unfold CtI
  intro sz
  refine Met.ofW (cc := cX7_value) (maxL := 3) (ret := (some .int)) (by decide) rfl ?_
  intro p e s m args below meth c s₁ B hml hv
  obtain ⟨rfl, hsz, hP, hK, hD0, hG⟩ := hv
  have hx := B.exec
  have hb := B.bytes
  have hr := B.returns
  have hts := atoms_spec (ws := wsX7_value) B.pre
  have hown : s.vm.findClass RX7 = some m.cls := findClass_of_methodNamed B.named
  have hlocks := B.notSynchronized
  subst hsz
  have hD := hD0.self (sz := s.heap.size)
  generalize hAe : va_A (cF g bF qF0 (bS 0) qF2 qF3 (bRT 0) vF ++ (cS g bS (bC 0) (bT 0) ++ (cC g bC vC ++ (cT g bT vT ++ (cR g bRT nRT (bG 0) (bB 0) vRT ++ (cL g bG vG ++ (cL g bB vB))))))) s.heap.size = A at hD hG ⊢
  have hA : ∀ q : Nat, s.heap.size ≤ q → A q := fun q h => by rw [← hAe]; exact Or.inr h
  clear hAe hD0
  have hS : va_S A s.heap s.heap [] := va_S.rf
  have hl := lv_entry ([.ref (bF 0), .int x1, .int x2]) (n := 3) (Nat.le_of_ble_eq_true rfl)
  rw [lg_entry_eq]
  generalize (lg_sl ([.ref (bF 0), .int x1, .int x2]) ++ List.replicate (3 - (lg_sl ([.ref (bF 0), .int x1, .int x2])).length) Slot.unset).toArray = ls at hl ⊢
  have hl : lv_has ls 3 [(0, .ref (bF 0)), (1, .int x1), (2, .int x2)] := hl
  have htu : ∀ w ∈ UW, w.before _ s = true := fun w h => hts w (List.mem_cons_of_mem _ h)
  have k_2_15 := htu _ mw_2_15
  have k_1_234 := htu _ mw_1_234
  unfold f_X7_value at hf
  obtain ⟨H, hH⟩ : ∃ z, z = s.heap := ⟨_, rfl⟩
  obtain ⟨locs, hlo⟩ : ∃ z : List Loc, z = [] := ⟨_, rfl⟩
  have hS : va_S A s.heap H locs := by rw [hH, hlo]; exact hS
  rw [← hH] at hP
  have hW : W p l e (headSpec wsX7_value rmX7_value).room s m ([.ref (bF 0), .int x1, .int x2] : List Value).toArray below meth c H locs 0 0 (MQ below (qI g A (cF g bF qF0 (bS 0) qF2 qF3 (bRT 0) vF1 ++ (cS g bS (bC 0) (bT 0) ++ (cC g bC vC ++ (cT g bT vT ++ (cR g bRT nRT (bG 0) (bB 0) vRT1 ++ (cL g bG vG1 ++ (cL g bB vB1))))))) r) ([.ref (bF 0), .int x1, .int x2] : List Value).toArray s 0 0 A) (F0 m 0 ls []) := by
    refine lv_aload_n hx hb dX7_value_0 rfl (lv_at hl 0 rfl) ?_
    refine lv_iload_n hx hb dX7_value_1 rfl (lv_at hl 1 rfl) ?_
    obtain ⟨c1, hg2, hf⟩ := o1_at hf
    have hc1 : c1 = 0 := Classical.byContradiction (fun h9 => h9 (kp_6 (it_f hf h9)).1)
    have hf := it_t hf hc1
    rw [hc1] at hg2
    refine k_vvP ⟨hx, hb, hml, hown, htu⟩ hK hP hD hS hA hG (c_X7_checkTest l g bF qF0 qF2 qF3 (bRT 0) vF bS (bC 0) bT vT x1 hg2) (cwV 1 htu (gU_V mw_4_127 hcX7_checkTest) rfl rfl rfl hdX7_checkTest ⟨Nat.le_of_ble_eq_true rfl, Nat.le_of_ble_eq_true rfl⟩) (q0 := 0) (ci := 7) (fs := fcF bF qF0 (bS 0) qF2 qF3 (bRT 0) vF) (q := (RX7, TX7, 12)) rfl rfl rfl (wr := (cC g bC vC ++ (cR g bRT nRT (bG 0) (bB 0) vRT ++ (cL g bG vG ++ (cL g bB vB))))) (w2 := cF g bF qF0 (bS 0) qF2 qF3 (bRT 0) vF ++ (cS g bS (bC 0) (bT 0) ++ (cC g bC vC ++ (cT g bT vT ++ (cR g bRT nRT (bG 0) (bB 0) vRT ++ (cL g bG vG ++ (cL g bB vB))))))) [0, 1, 2, 3, 4, 5, 6, 18, 19, 20, 21, 22] [7, 8, 9, 10, 11, 12, 13, 14, 15, 16, 17, 23, 24, 25, 26, 27, 28, 29, 30, 31] [20, 21, 22, 23, 24, 25, 26, 0, 1, 2, 3, 4, 5, 6, 7, 8, 9, 10, 27, 28, 29, 30, 31, 11, 12, 13, 14, 15, 16, 17, 18, 19] rfl rfl (by decide) (by decide) (by decide) rfl rfl (by decide) (As := [.int x1]) (rest := []) rfl rfl hl.1 (Nat.le_of_ble_eq_true rfl) dX7_value_2 (k1 := 0) (n1 := 0) rfl rfl ⟨Nat.zero_le _, Nat.zero_le _⟩ (fun H locs hP hD hS => ?_)
    refine lv_aload_n hx hb dX7_value_5 rfl (lv_at hl 0 rfl) ?_
    refine lv_iload_n hx hb dX7_value_6 rfl (lv_at hl 2 rfl) ?_
    obtain ⟨c3, hg4, hf⟩ := o1_at hf
    have hc3 : c3 = 0 := Classical.byContradiction (fun h9 => h9 (kp_6 (it_f hf h9)).1)
    have hf := it_t hf hc3
    rw [hc3] at hg4
    refine k_vvP ⟨hx, hb, hml, hown, htu⟩ hK hP hD hS hA hG (c_X7_checkWire l g bF qF0 qF2 qF3 (bRT 0) vF bS (bT 0) bC vC x2 hg4) (cwV 1 htu (gU_V mw_4_132 hcX7_checkWire) rfl rfl rfl hdX7_checkWire ⟨Nat.le_of_ble_eq_true rfl, Nat.le_of_ble_eq_true rfl⟩) (q0 := 0) (ci := 7) (fs := fcF bF qF0 (bS 0) qF2 qF3 (bRT 0) vF) (q := (RX7, TX7, 12)) rfl rfl rfl (wr := (cT g bT vT ++ (cR g bRT nRT (bG 0) (bB 0) vRT ++ (cL g bG vG ++ (cL g bB vB))))) (w2 := cF g bF qF0 (bS 0) qF2 qF3 (bRT 0) vF ++ (cS g bS (bC 0) (bT 0) ++ (cC g bC vC ++ (cT g bT vT ++ (cR g bRT nRT (bG 0) (bB 0) vRT ++ (cL g bG vG ++ (cL g bB vB))))))) [0, 1, 2, 3, 4, 5, 6, 7, 8, 9, 10, 11, 12, 13, 14, 15, 16, 17] [18, 19, 20, 21, 22, 23, 24, 25, 26, 27, 28, 29, 30, 31] [14, 15, 16, 17, 18, 19, 20, 21, 22, 23, 24, 25, 26, 27, 28, 29, 30, 31, 0, 1, 2, 3, 4, 5, 6, 7, 8, 9, 10, 11, 12, 13] rfl rfl (by decide) (by decide) (by decide) rfl rfl (by decide) (As := [.int x2]) (rest := []) rfl rfl hl.1 (Nat.le_of_ble_eq_true rfl) dX7_value_7 (k1 := 0) (n1 := 0) rfl rfl ⟨Nat.zero_le _, Nat.zero_le _⟩ (fun H locs hP hD hS => ?_)
    refine lv_aload_n hx hb dX7_value_10 rfl (lv_at hl 0 rfl) ?_
    obtain ⟨vF_5, vRT_6, vG_7, vB_8, hg9, hf⟩ := o4_at hf
    refine k_vvW ⟨hx, hb, hml, hown, htu⟩ hK hP hD hS hA hG (c_X7_refreshTestRows l g bF qF0 qF2 qF3 vF bS bC vC bT vT bRT nRT vRT bG vG bB vB vF_5 vRT_6 vG_7 vB_8 hg9) (cwV 0 htu (gU_V mw_2_70 hcX7_refreshTestRows) rfl rfl rfl hdX7_refreshTestRows ⟨Nat.le_of_ble_eq_true rfl, Nat.le_of_ble_eq_true rfl⟩) (q0 := 0) (ci := 7) (fs := fcF bF qF0 (bS 0) qF2 qF3 (bRT 0) vF) (q := (RX7, TX7, 12)) rfl rfl rfl (As := []) (rest := []) rfl rfl hl.1 (Nat.le_of_ble_eq_true rfl) dX7_value_11 (k1 := 0) (n1 := 0) rfl rfl ⟨Nat.zero_le _, Nat.zero_le _⟩ (fun H locs hP hD hS => ?_)
    refine lv_aload_n hx hb dX7_value_14 rfl (lv_at hl 0 rfl) ?_
    refine va_get (D := g.1) (ci := 7) (fs := fcF bF qF0 (bS 0) qF2 qF3 (bRT 0) vF_5) (v := .ref (bRT 0)) (C := RX7) (T := TX7) (N := 12) hx hb htu hinX7 hown hK hP 0 rfl rfl 4 (by decide) k_2_15 (fun _ h9 => h9) rfl dX7_value_15 ?_
    refine va_get (D := g.1) (ci := 3) (fs := fcR bRT (bG 0) (bB 0) vRT_6) (v := .ref (bG 0)) (C := RX3) (T := TX3) (N := 5) hx hb htu hinX3 hown hK hP 23 rfl rfl 0 (by decide) k_1_234 (fun _ h9 => h9) rfl dX7_value_18 ?_
    refine lv_iload_n hx hb dX7_value_21 rfl (lv_at hl 2 rfl) ?_
    refine lv_iload_n hx hb dX7_value_22 rfl (lv_at hl 1 rfl) ?_
    obtain ⟨r10, hg11, hf⟩ := o1_at hf
    refine k_viP ⟨hx, hb, hml, hown, htu⟩ hK hP hD hS hA hG (c_X2_lane l g bG vG_7 x2 x1 r10 hg11) (cwV 2 htu (gU_V mw_4_137 hcX2_lane) rfl rfl rfl hdX2_lane ⟨Nat.le_of_ble_eq_true rfl, Nat.le_of_ble_eq_true rfl⟩) (q0 := 26) (ci := 2) (fs := fcL bG vG_7) (q := (RX2, TX2, 2)) rfl rfl rfl (wr := (cF g bF qF0 (bS 0) qF2 qF3 (bRT 0) vF_5 ++ (cS g bS (bC 0) (bT 0) ++ (cC g bC vC ++ (cT g bT vT ++ (cR g bRT nRT (bG 0) (bB 0) vRT_6 ++ (cL g bB vB_8))))))) (w2 := cF g bF qF0 (bS 0) qF2 qF3 (bRT 0) vF_5 ++ (cS g bS (bC 0) (bT 0) ++ (cC g bC vC ++ (cT g bT vT ++ (cR g bRT nRT (bG 0) (bB 0) vRT_6 ++ (cL g bG vG_7 ++ (cL g bB vB_8))))))) [26, 27, 28] [0, 1, 2, 3, 4, 5, 6, 7, 8, 9, 10, 11, 12, 13, 14, 15, 16, 17, 18, 19, 20, 21, 22, 23, 24, 25, 29, 30, 31] [0, 1, 2, 3, 4, 5, 6, 7, 8, 9, 10, 11, 12, 13, 14, 15, 16, 17, 18, 19, 20, 21, 22, 23, 24, 25, 29, 30, 31, 26, 27, 28] rfl rfl (by decide) (by decide) (by decide) rfl rfl (by decide) (As := [.int x2, .int x1]) (rest := []) rfl rfl hl.1 (Nat.le_of_ble_eq_true rfl) dX7_value_23 (k1 := 0) (n1 := 0) rfl rfl ⟨Nat.zero_le _, Nat.zero_le _⟩ (fun H locs hP hD hS => ?_)
    obtain ⟨e12, e13, e14, e15, e16, e17⟩ := kp_6 hf
    rw [e14] at hP hD
    rw [e15] at hP hD
    rw [e16] at hP hD
    rw [e17] at hP hD
    exact k_iret hx hb hr hlocks hK hP hD hS e13 dX7_value_26
  rw [hH, hlo] at hW
  exact hW
def f_X7_faulty (vF : Vs) (vC : Vs) (vT : Vs) (nRT : Nat) (vRT : Vs) (vG : Vs) (vB : Vs) (x1 : Int32) (x2 : Int32) (x3 : Int32) : Option (Nat × Int32 × Vs × Vs × Vs × Vs) :=
  o1 (f_X7_checkTest vF vT x1) (fun (c1 : Nat) => if c1 = 0 then (o1 (f_X7_checkFault vF vC x2) (fun (c3 : Nat) => if c3 = 0 then (o1 (f_X7_checkWire vF vC x3) (fun (c5 : Nat) => if c5 = 0 then (o4 (f_X7_refreshTestRows vF vC vT nRT vRT vG vB) (fun (vF_7 : Vs) (vRT_8 : Vs) (vG_9 : Vs) (vB_10 : Vs) => o1 (f_X2_runFault vB_10 vC vG_9 x2) (fun (vB_12 : Vs) => o1 (f_X2_lane vB_12 x3 x1) (fun (r14 : Int32) => some (0, r14, vF_7, vRT_8, vG_9, vB_12))))) else some (c5, (0 : Int32), vF, vRT, vG, vB))) else some (c3, (0 : Int32), vF, vRT, vG, vB))) else some (c1, (0 : Int32), vF, vRT, vG, vB))
abbrev wsX7_faulty : List Cond := .code yX7_faulty cX7_faulty 4 (some .int) :: UW
abbrev rmX7_faulty : Room := { frames := 4, cells := 0, slots := 0, locals := 104 }
set_option maxHeartbeats 4000000 in
set_option maxRecDepth 100000 in
theorem c_X7_faulty (l : Launch) (g : Gx) (bF : Nat → Nat) (qF0 : Nat) (qF2 : Nat) (qF3 : Nat) (vF : Vs) (bS : Nat → Nat) (bC : Nat → Nat) (vC : Vs) (bT : Nat → Nat) (vT : Vs) (bRT : Nat → Nat) (nRT : Nat) (vRT : Vs) (bG : Nat → Nat) (vG : Vs) (bB : Nat → Nat) (vB : Vs) (x1 : Int32) (x2 : Int32) (x3 : Int32) (r : Int32) (vF1 : Vs) (vRT1 : Vs) (vG1 : Vs) (vB1 : Vs) (hf : f_X7_faulty vF vC vT nRT vRT vG vB x1 x2 x3 = some (0, r, vF1, vRT1, vG1, vB1)) : CtI l yX7_faulty wsX7_faulty rmX7_faulty g [.ref (bF 0), .int x1, .int x2, .int x3] (cF g bF qF0 (bS 0) qF2 qF3 (bRT 0) vF ++ (cS g bS (bC 0) (bT 0) ++ (cC g bC vC ++ (cT g bT vT ++ (cR g bRT nRT (bG 0) (bB 0) vRT ++ (cL g bG vG ++ (cL g bB vB))))))) (cF g bF qF0 (bS 0) qF2 qF3 (bRT 0) vF1 ++ (cS g bS (bC 0) (bT 0) ++ (cC g bC vC ++ (cT g bT vT ++ (cR g bRT nRT (bG 0) (bB 0) vRT1 ++ (cL g bG vG1 ++ (cL g bB vB1))))))) r 0 0 := by
  unfold CtI
  intro sz
  refine Met.ofW (cc := cX7_faulty) (maxL := 4) (ret := (some .int)) (by decide) rfl ?_
  intro p e s m args below meth c s₁ B hml hv
  obtain ⟨rfl, hsz, hP, hK, hD0, hG⟩ := hv
  have hx := B.exec
  have hb := B.bytes
  have hr := B.returns
  have hts := atoms_spec (ws := wsX7_faulty) B.pre
  have hown : s.vm.findClass RX7 = some m.cls := findClass_of_methodNamed B.named
  have hlocks := B.notSynchronized
  subst hsz
  have hD := hD0.self (sz := s.heap.size)
  generalize hAe : va_A (cF g bF qF0 (bS 0) qF2 qF3 (bRT 0) vF ++ (cS g bS (bC 0) (bT 0) ++ (cC g bC vC ++ (cT g bT vT ++ (cR g bRT nRT (bG 0) (bB 0) vRT ++ (cL g bG vG ++ (cL g bB vB))))))) s.heap.size = A at hD hG ⊢
  have hA : ∀ q : Nat, s.heap.size ≤ q → A q := fun q h => by rw [← hAe]; exact Or.inr h
  clear hAe hD0
  have hS : va_S A s.heap s.heap [] := va_S.rf
  have hl := lv_entry ([.ref (bF 0), .int x1, .int x2, .int x3]) (n := 4) (Nat.le_of_ble_eq_true rfl)
  rw [lg_entry_eq]
  generalize (lg_sl ([.ref (bF 0), .int x1, .int x2, .int x3]) ++ List.replicate (4 - (lg_sl ([.ref (bF 0), .int x1, .int x2, .int x3])).length) Slot.unset).toArray = ls at hl ⊢
  have hl : lv_has ls 4 [(0, .ref (bF 0)), (1, .int x1), (2, .int x2), (3, .int x3)] := hl
  have htu : ∀ w ∈ UW, w.before _ s = true := fun w h => hts w (List.mem_cons_of_mem _ h)
  have k_2_15 := htu _ mw_2_15
  have k_1_236 := htu _ mw_1_236
  have k_2_12 := htu _ mw_2_12
  have k_1_147 := htu _ mw_1_147
  have k_1_234 := htu _ mw_1_234
  unfold f_X7_faulty at hf
  obtain ⟨H, hH⟩ : ∃ z, z = s.heap := ⟨_, rfl⟩
  obtain ⟨locs, hlo⟩ : ∃ z : List Loc, z = [] := ⟨_, rfl⟩
  have hS : va_S A s.heap H locs := by rw [hH, hlo]; exact hS
  rw [← hH] at hP
  have hW : W p l e (headSpec wsX7_faulty rmX7_faulty).room s m ([.ref (bF 0), .int x1, .int x2, .int x3] : List Value).toArray below meth c H locs 0 0 (MQ below (qI g A (cF g bF qF0 (bS 0) qF2 qF3 (bRT 0) vF1 ++ (cS g bS (bC 0) (bT 0) ++ (cC g bC vC ++ (cT g bT vT ++ (cR g bRT nRT (bG 0) (bB 0) vRT1 ++ (cL g bG vG1 ++ (cL g bB vB1))))))) r) ([.ref (bF 0), .int x1, .int x2, .int x3] : List Value).toArray s 0 0 A) (F0 m 0 ls []) := by
    refine lv_aload_n hx hb dX7_faulty_0 rfl (lv_at hl 0 rfl) ?_
    refine lv_iload_n hx hb dX7_faulty_1 rfl (lv_at hl 1 rfl) ?_
    obtain ⟨c1, hg2, hf⟩ := o1_at hf
    have hc1 : c1 = 0 := Classical.byContradiction (fun h9 => h9 (kp_6 (it_f hf h9)).1)
    have hf := it_t hf hc1
    rw [hc1] at hg2
    refine k_vvP ⟨hx, hb, hml, hown, htu⟩ hK hP hD hS hA hG (c_X7_checkTest l g bF qF0 qF2 qF3 (bRT 0) vF bS (bC 0) bT vT x1 hg2) (cwV 1 htu (gU_V mw_4_127 hcX7_checkTest) rfl rfl rfl hdX7_checkTest ⟨Nat.le_of_ble_eq_true rfl, Nat.le_of_ble_eq_true rfl⟩) (q0 := 0) (ci := 7) (fs := fcF bF qF0 (bS 0) qF2 qF3 (bRT 0) vF) (q := (RX7, TX7, 12)) rfl rfl rfl (wr := (cC g bC vC ++ (cR g bRT nRT (bG 0) (bB 0) vRT ++ (cL g bG vG ++ (cL g bB vB))))) (w2 := cF g bF qF0 (bS 0) qF2 qF3 (bRT 0) vF ++ (cS g bS (bC 0) (bT 0) ++ (cC g bC vC ++ (cT g bT vT ++ (cR g bRT nRT (bG 0) (bB 0) vRT ++ (cL g bG vG ++ (cL g bB vB))))))) [0, 1, 2, 3, 4, 5, 6, 18, 19, 20, 21, 22] [7, 8, 9, 10, 11, 12, 13, 14, 15, 16, 17, 23, 24, 25, 26, 27, 28, 29, 30, 31] [20, 21, 22, 23, 24, 25, 26, 0, 1, 2, 3, 4, 5, 6, 7, 8, 9, 10, 27, 28, 29, 30, 31, 11, 12, 13, 14, 15, 16, 17, 18, 19] rfl rfl (by decide) (by decide) (by decide) rfl rfl (by decide) (As := [.int x1]) (rest := []) rfl rfl hl.1 (Nat.le_of_ble_eq_true rfl) dX7_faulty_2 (k1 := 0) (n1 := 0) rfl rfl ⟨Nat.zero_le _, Nat.zero_le _⟩ (fun H locs hP hD hS => ?_)
    refine lv_aload_n hx hb dX7_faulty_5 rfl (lv_at hl 0 rfl) ?_
    refine lv_iload_n hx hb dX7_faulty_6 rfl (lv_at hl 2 rfl) ?_
    obtain ⟨c3, hg4, hf⟩ := o1_at hf
    have hc3 : c3 = 0 := Classical.byContradiction (fun h9 => h9 (kp_6 (it_f hf h9)).1)
    have hf := it_t hf hc3
    rw [hc3] at hg4
    refine k_vvP ⟨hx, hb, hml, hown, htu⟩ hK hP hD hS hA hG (c_X7_checkFault l g bF qF0 qF2 qF3 (bRT 0) vF bS (bT 0) bC vC x2 hg4) (cwV 1 htu (gU_V mw_2_207 hcX7_checkFault) rfl rfl rfl hdX7_checkFault ⟨Nat.le_of_ble_eq_true rfl, Nat.le_of_ble_eq_true rfl⟩) (q0 := 0) (ci := 7) (fs := fcF bF qF0 (bS 0) qF2 qF3 (bRT 0) vF) (q := (RX7, TX7, 12)) rfl rfl rfl (wr := (cT g bT vT ++ (cR g bRT nRT (bG 0) (bB 0) vRT ++ (cL g bG vG ++ (cL g bB vB))))) (w2 := cF g bF qF0 (bS 0) qF2 qF3 (bRT 0) vF ++ (cS g bS (bC 0) (bT 0) ++ (cC g bC vC ++ (cT g bT vT ++ (cR g bRT nRT (bG 0) (bB 0) vRT ++ (cL g bG vG ++ (cL g bB vB))))))) [0, 1, 2, 3, 4, 5, 6, 7, 8, 9, 10, 11, 12, 13, 14, 15, 16, 17] [18, 19, 20, 21, 22, 23, 24, 25, 26, 27, 28, 29, 30, 31] [14, 15, 16, 17, 18, 19, 20, 21, 22, 23, 24, 25, 26, 27, 28, 29, 30, 31, 0, 1, 2, 3, 4, 5, 6, 7, 8, 9, 10, 11, 12, 13] rfl rfl (by decide) (by decide) (by decide) rfl rfl (by decide) (As := [.int x2]) (rest := []) rfl rfl hl.1 (Nat.le_of_ble_eq_true rfl) dX7_faulty_7 (k1 := 0) (n1 := 0) rfl rfl ⟨Nat.zero_le _, Nat.zero_le _⟩ (fun H locs hP hD hS => ?_)
    refine lv_aload_n hx hb dX7_faulty_10 rfl (lv_at hl 0 rfl) ?_
    refine lv_iload_n hx hb dX7_faulty_11 rfl (lv_at hl 3 rfl) ?_
    obtain ⟨c5, hg6, hf⟩ := o1_at hf
    have hc5 : c5 = 0 := Classical.byContradiction (fun h9 => h9 (kp_6 (it_f hf h9)).1)
    have hf := it_t hf hc5
    rw [hc5] at hg6
    refine k_vvP ⟨hx, hb, hml, hown, htu⟩ hK hP hD hS hA hG (c_X7_checkWire l g bF qF0 qF2 qF3 (bRT 0) vF bS (bT 0) bC vC x3 hg6) (cwV 1 htu (gU_V mw_4_132 hcX7_checkWire) rfl rfl rfl hdX7_checkWire ⟨Nat.le_of_ble_eq_true rfl, Nat.le_of_ble_eq_true rfl⟩) (q0 := 0) (ci := 7) (fs := fcF bF qF0 (bS 0) qF2 qF3 (bRT 0) vF) (q := (RX7, TX7, 12)) rfl rfl rfl (wr := (cT g bT vT ++ (cR g bRT nRT (bG 0) (bB 0) vRT ++ (cL g bG vG ++ (cL g bB vB))))) (w2 := cF g bF qF0 (bS 0) qF2 qF3 (bRT 0) vF ++ (cS g bS (bC 0) (bT 0) ++ (cC g bC vC ++ (cT g bT vT ++ (cR g bRT nRT (bG 0) (bB 0) vRT ++ (cL g bG vG ++ (cL g bB vB))))))) [0, 1, 2, 3, 4, 5, 6, 7, 8, 9, 10, 11, 12, 13, 14, 15, 16, 17] [18, 19, 20, 21, 22, 23, 24, 25, 26, 27, 28, 29, 30, 31] [14, 15, 16, 17, 18, 19, 20, 21, 22, 23, 24, 25, 26, 27, 28, 29, 30, 31, 0, 1, 2, 3, 4, 5, 6, 7, 8, 9, 10, 11, 12, 13] rfl rfl (by decide) (by decide) (by decide) rfl rfl (by decide) (As := [.int x3]) (rest := []) rfl rfl hl.1 (Nat.le_of_ble_eq_true rfl) dX7_faulty_12 (k1 := 0) (n1 := 0) rfl rfl ⟨Nat.zero_le _, Nat.zero_le _⟩ (fun H locs hP hD hS => ?_)
    refine lv_aload_n hx hb dX7_faulty_15 rfl (lv_at hl 0 rfl) ?_
    obtain ⟨vF_7, vRT_8, vG_9, vB_10, hg11, hf⟩ := o4_at hf
    refine k_vvW ⟨hx, hb, hml, hown, htu⟩ hK hP hD hS hA hG (c_X7_refreshTestRows l g bF qF0 qF2 qF3 vF bS bC vC bT vT bRT nRT vRT bG vG bB vB vF_7 vRT_8 vG_9 vB_10 hg11) (cwV 0 htu (gU_V mw_2_70 hcX7_refreshTestRows) rfl rfl rfl hdX7_refreshTestRows ⟨Nat.le_of_ble_eq_true rfl, Nat.le_of_ble_eq_true rfl⟩) (q0 := 0) (ci := 7) (fs := fcF bF qF0 (bS 0) qF2 qF3 (bRT 0) vF) (q := (RX7, TX7, 12)) rfl rfl rfl (As := []) (rest := []) rfl rfl hl.1 (Nat.le_of_ble_eq_true rfl) dX7_faulty_16 (k1 := 0) (n1 := 0) rfl rfl ⟨Nat.zero_le _, Nat.zero_le _⟩ (fun H locs hP hD hS => ?_)
    refine lv_aload_n hx hb dX7_faulty_19 rfl (lv_at hl 0 rfl) ?_
    refine va_get (D := g.1) (ci := 7) (fs := fcF bF qF0 (bS 0) qF2 qF3 (bRT 0) vF_7) (v := .ref (bRT 0)) (C := RX7) (T := TX7) (N := 12) hx hb htu hinX7 hown hK hP 0 rfl rfl 4 (by decide) k_2_15 (fun _ h9 => h9) rfl dX7_faulty_20 ?_
    refine va_get (D := g.1) (ci := 3) (fs := fcR bRT (bG 0) (bB 0) vRT_8) (v := .ref (bB 0)) (C := RX3) (T := TX3) (N := 5) hx hb htu hinX3 hown hK hP 23 rfl rfl 1 (by decide) k_1_236 (fun _ h9 => h9) rfl dX7_faulty_23 ?_
    refine lv_aload_n hx hb dX7_faulty_26 rfl (lv_at hl 0 rfl) ?_
    refine va_get (D := g.1) (ci := 7) (fs := fcF bF qF0 (bS 0) qF2 qF3 (bRT 0) vF_7) (v := .ref (bS 0)) (C := RX7) (T := TX7) (N := 12) hx hb htu hinX7 hown hK hP 0 rfl rfl 1 (by decide) k_2_12 (fun _ h9 => h9) rfl dX7_faulty_27 ?_
    refine va_get (D := g.1) (ci := 4) (fs := fcS bS (bC 0) (bT 0)) (v := .ref (bC 0)) (C := RX4) (T := TX4) (N := 2) hx hb htu hinX4 hown hK hP 6 rfl rfl 0 (by decide) k_1_147 (fun _ h9 => h9) rfl dX7_faulty_30 ?_
    refine lv_aload_n hx hb dX7_faulty_33 rfl (lv_at hl 0 rfl) ?_
    refine va_get (D := g.1) (ci := 7) (fs := fcF bF qF0 (bS 0) qF2 qF3 (bRT 0) vF_7) (v := .ref (bRT 0)) (C := RX7) (T := TX7) (N := 12) hx hb htu hinX7 hown hK hP 0 rfl rfl 4 (by decide) k_2_15 (fun _ h9 => h9) rfl dX7_faulty_34 ?_
    refine va_get (D := g.1) (ci := 3) (fs := fcR bRT (bG 0) (bB 0) vRT_8) (v := .ref (bG 0)) (C := RX3) (T := TX3) (N := 5) hx hb htu hinX3 hown hK hP 23 rfl rfl 0 (by decide) k_1_234 (fun _ h9 => h9) rfl dX7_faulty_37 ?_
    refine lv_iload_n hx hb dX7_faulty_40 rfl (lv_at hl 2 rfl) ?_
    obtain ⟨vB_12, hg13, hf⟩ := o1_at hf
    refine k_vvP ⟨hx, hb, hml, hown, htu⟩ hK hP hD hS hA hG (c_X2_runFault l g bB vB_10 bC vC bG vG_9 x2 vB_12 hg13) (cwV 3 htu (gU_V mw_4_151 hcX2_runFault) rfl rfl rfl hdX2_runFault ⟨Nat.le_of_ble_eq_true rfl, Nat.le_of_ble_eq_true rfl⟩) (q0 := 29) (ci := 2) (fs := fcL bB vB_10) (q := (RX2, TX2, 2)) rfl rfl rfl (wr := (cF g bF qF0 (bS 0) qF2 qF3 (bRT 0) vF_7 ++ (cS g bS (bC 0) (bT 0) ++ (cT g bT vT ++ (cR g bRT nRT (bG 0) (bB 0) vRT_8))))) (w2 := cF g bF qF0 (bS 0) qF2 qF3 (bRT 0) vF_7 ++ (cS g bS (bC 0) (bT 0) ++ (cC g bC vC ++ (cT g bT vT ++ (cR g bRT nRT (bG 0) (bB 0) vRT_8 ++ (cL g bG vG_9 ++ (cL g bB vB_12))))))) [29, 30, 31, 7, 8, 9, 10, 11, 12, 13, 14, 15, 16, 17, 26, 27, 28] [0, 1, 2, 3, 4, 5, 6, 18, 19, 20, 21, 22, 23, 24, 25] [0, 1, 2, 3, 4, 5, 6, 18, 19, 20, 21, 22, 23, 24, 25, 26, 27, 28, 7, 8, 9, 10, 11, 12, 13, 14, 29, 30, 31, 15, 16, 17] rfl rfl (by decide) (by decide) (by decide) rfl rfl (by decide) (As := [.ref (bC 0), .ref (bG 0), .int x2]) (rest := []) rfl rfl hl.1 (Nat.le_of_ble_eq_true rfl) dX7_faulty_41 (k1 := 0) (n1 := 0) rfl rfl ⟨Nat.zero_le _, Nat.zero_le _⟩ (fun H locs hP hD hS => ?_)
    refine lv_aload_n hx hb dX7_faulty_44 rfl (lv_at hl 0 rfl) ?_
    refine va_get (D := g.1) (ci := 7) (fs := fcF bF qF0 (bS 0) qF2 qF3 (bRT 0) vF_7) (v := .ref (bRT 0)) (C := RX7) (T := TX7) (N := 12) hx hb htu hinX7 hown hK hP 0 rfl rfl 4 (by decide) k_2_15 (fun _ h9 => h9) rfl dX7_faulty_45 ?_
    refine va_get (D := g.1) (ci := 3) (fs := fcR bRT (bG 0) (bB 0) vRT_8) (v := .ref (bB 0)) (C := RX3) (T := TX3) (N := 5) hx hb htu hinX3 hown hK hP 23 rfl rfl 1 (by decide) k_1_236 (fun _ h9 => h9) rfl dX7_faulty_48 ?_
    refine lv_iload_n hx hb dX7_faulty_51 rfl (lv_at hl 3 rfl) ?_
    refine lv_iload_n hx hb dX7_faulty_52 rfl (lv_at hl 1 rfl) ?_
    obtain ⟨r14, hg15, hf⟩ := o1_at hf
    refine k_viP ⟨hx, hb, hml, hown, htu⟩ hK hP hD hS hA hG (c_X2_lane l g bB vB_12 x3 x1 r14 hg15) (cwV 2 htu (gU_V mw_4_137 hcX2_lane) rfl rfl rfl hdX2_lane ⟨Nat.le_of_ble_eq_true rfl, Nat.le_of_ble_eq_true rfl⟩) (q0 := 29) (ci := 2) (fs := fcL bB vB_12) (q := (RX2, TX2, 2)) rfl rfl rfl (wr := (cF g bF qF0 (bS 0) qF2 qF3 (bRT 0) vF_7 ++ (cS g bS (bC 0) (bT 0) ++ (cC g bC vC ++ (cT g bT vT ++ (cR g bRT nRT (bG 0) (bB 0) vRT_8 ++ (cL g bG vG_9))))))) (w2 := cF g bF qF0 (bS 0) qF2 qF3 (bRT 0) vF_7 ++ (cS g bS (bC 0) (bT 0) ++ (cC g bC vC ++ (cT g bT vT ++ (cR g bRT nRT (bG 0) (bB 0) vRT_8 ++ (cL g bG vG_9 ++ (cL g bB vB_12))))))) [29, 30, 31] [0, 1, 2, 3, 4, 5, 6, 7, 8, 9, 10, 11, 12, 13, 14, 15, 16, 17, 18, 19, 20, 21, 22, 23, 24, 25, 26, 27, 28] [0, 1, 2, 3, 4, 5, 6, 7, 8, 9, 10, 11, 12, 13, 14, 15, 16, 17, 18, 19, 20, 21, 22, 23, 24, 25, 26, 27, 28, 29, 30, 31] rfl rfl (by decide) (by decide) (by decide) rfl rfl (by decide) (As := [.int x3, .int x1]) (rest := []) rfl rfl hl.1 (Nat.le_of_ble_eq_true rfl) dX7_faulty_53 (k1 := 0) (n1 := 0) rfl rfl ⟨Nat.zero_le _, Nat.zero_le _⟩ (fun H locs hP hD hS => ?_)
    obtain ⟨e16, e17, e18, e19, e20, e21⟩ := kp_6 hf
    rw [e18] at hP hD
    rw [e19] at hP hD
    rw [e20] at hP hD
    rw [e21] at hP hD
    exact k_iret hx hb hr hlocks hK hP hD hS e17 dX7_faulty_56
  rw [hH, hlo] at hW
  exact hW
def f_X7_finds (vF : Vs) (vC : Vs) (vT : Vs) (nRT : Nat) (vRT : Vs) (vG : Vs) (vB : Vs) (x1 : Int32) (x2 : Int32) : Option (Nat × Int32 × Vs × Vs × Vs × Vs) :=
  o1 (f_X7_checkTest vF vT x1) (fun (c1 : Nat) => if c1 = 0 then (o1 (f_X7_checkFault vF vC x2) (fun (c3 : Nat) => if c3 = 0 then (o4 (f_X7_refreshTestRows vF vC vT nRT vRT vG vB) (fun (vF_5 : Vs) (vRT_6 : Vs) (vG_7 : Vs) (vB_8 : Vs) => o1 (f_X3_apart nRT vRT_6 vC (-1 : Int32) x2 (0 : Int32)) (fun (r10 : Int64) => o1 (f_X7_hasLane r10 x1) (fun (r12 : Int32) => if r12 = 0 then o1 (f_X3_blurred nRT vRT_6 vC x2 (0 : Int32)) (fun (r15 : Int64) => o1 (f_X7_hasLane r15 x1) (fun (r17 : Int32) => jn (fun (t19 : Int32) => some (0, t19, vF_5, vRT_6, vG_7, vB_8)) (fun k20 => if r17 = 0 then k20 (0 : Int32) else k20 (1 : Int32)))) else some (0, (2 : Int32), vF_5, vRT_6, vG_7, vB_8))))) else some (c3, (0 : Int32), vF, vRT, vG, vB))) else some (c1, (0 : Int32), vF, vRT, vG, vB))
abbrev wsX7_finds : List Cond := .code yX7_finds cX7_finds 3 (some .int) :: UW
abbrev rmX7_finds : Room := { frames := 4, cells := 0, slots := 0, locals := 104 }
set_option maxHeartbeats 4000000 in
set_option maxRecDepth 100000 in
theorem c_X7_finds (l : Launch) (g : Gx) (bF : Nat → Nat) (qF0 : Nat) (qF2 : Nat) (qF3 : Nat) (vF : Vs) (bS : Nat → Nat) (bC : Nat → Nat) (vC : Vs) (bT : Nat → Nat) (vT : Vs) (bRT : Nat → Nat) (nRT : Nat) (vRT : Vs) (bG : Nat → Nat) (vG : Vs) (bB : Nat → Nat) (vB : Vs) (x1 : Int32) (x2 : Int32) (r : Int32) (vF1 : Vs) (vRT1 : Vs) (vG1 : Vs) (vB1 : Vs) (hf : f_X7_finds vF vC vT nRT vRT vG vB x1 x2 = some (0, r, vF1, vRT1, vG1, vB1)) : CtI l yX7_finds wsX7_finds rmX7_finds g [.ref (bF 0), .int x1, .int x2] (cF g bF qF0 (bS 0) qF2 qF3 (bRT 0) vF ++ (cS g bS (bC 0) (bT 0) ++ (cC g bC vC ++ (cT g bT vT ++ (cR g bRT nRT (bG 0) (bB 0) vRT ++ (cL g bG vG ++ (cL g bB vB))))))) (cF g bF qF0 (bS 0) qF2 qF3 (bRT 0) vF1 ++ (cS g bS (bC 0) (bT 0) ++ (cC g bC vC ++ (cT g bT vT ++ (cR g bRT nRT (bG 0) (bB 0) vRT1 ++ (cL g bG vG1 ++ (cL g bB vB1))))))) r 0 0 := by
  unfold CtI
  intro sz
  refine Met.ofW (cc := cX7_finds) (maxL := 3) (ret := (some .int)) (by decide) rfl ?_
  intro p e s m args below meth c s₁ B hml hv
  obtain ⟨rfl, hsz, hP, hK, hD0, hG⟩ := hv
  have hx := B.exec
  have hb := B.bytes
  have hr := B.returns
  have hts := atoms_spec (ws := wsX7_finds) B.pre
  have hown : s.vm.findClass RX7 = some m.cls := findClass_of_methodNamed B.named
  have hlocks := B.notSynchronized
  subst hsz
  have hD := hD0.self (sz := s.heap.size)
  generalize hAe : va_A (cF g bF qF0 (bS 0) qF2 qF3 (bRT 0) vF ++ (cS g bS (bC 0) (bT 0) ++ (cC g bC vC ++ (cT g bT vT ++ (cR g bRT nRT (bG 0) (bB 0) vRT ++ (cL g bG vG ++ (cL g bB vB))))))) s.heap.size = A at hD hG ⊢
  have hA : ∀ q : Nat, s.heap.size ≤ q → A q := fun q h => by rw [← hAe]; exact Or.inr h
  clear hAe hD0
  have hS : va_S A s.heap s.heap [] := va_S.rf
  have hl := lv_entry ([.ref (bF 0), .int x1, .int x2]) (n := 3) (Nat.le_of_ble_eq_true rfl)
  rw [lg_entry_eq]
  generalize (lg_sl ([.ref (bF 0), .int x1, .int x2]) ++ List.replicate (3 - (lg_sl ([.ref (bF 0), .int x1, .int x2])).length) Slot.unset).toArray = ls at hl ⊢
  have hl : lv_has ls 3 [(0, .ref (bF 0)), (1, .int x1), (2, .int x2)] := hl
  have htu : ∀ w ∈ UW, w.before _ s = true := fun w h => hts w (List.mem_cons_of_mem _ h)
  have k_2_15 := htu _ mw_2_15
  have k_2_12 := htu _ mw_2_12
  have k_1_147 := htu _ mw_1_147
  unfold f_X7_finds at hf
  obtain ⟨H, hH⟩ : ∃ z, z = s.heap := ⟨_, rfl⟩
  obtain ⟨locs, hlo⟩ : ∃ z : List Loc, z = [] := ⟨_, rfl⟩
  have hS : va_S A s.heap H locs := by rw [hH, hlo]; exact hS
  rw [← hH] at hP
  have hW : W p l e (headSpec wsX7_finds rmX7_finds).room s m ([.ref (bF 0), .int x1, .int x2] : List Value).toArray below meth c H locs 0 0 (MQ below (qI g A (cF g bF qF0 (bS 0) qF2 qF3 (bRT 0) vF1 ++ (cS g bS (bC 0) (bT 0) ++ (cC g bC vC ++ (cT g bT vT ++ (cR g bRT nRT (bG 0) (bB 0) vRT1 ++ (cL g bG vG1 ++ (cL g bB vB1))))))) r) ([.ref (bF 0), .int x1, .int x2] : List Value).toArray s 0 0 A) (F0 m 0 ls []) := by
    refine lv_aload_n hx hb dX7_finds_0 rfl (lv_at hl 0 rfl) ?_
    refine lv_iload_n hx hb dX7_finds_1 rfl (lv_at hl 1 rfl) ?_
    obtain ⟨c1, hg2, hf⟩ := o1_at hf
    have hc1 : c1 = 0 := Classical.byContradiction (fun h9 => h9 (kp_6 (it_f hf h9)).1)
    have hf := it_t hf hc1
    rw [hc1] at hg2
    refine k_vvP ⟨hx, hb, hml, hown, htu⟩ hK hP hD hS hA hG (c_X7_checkTest l g bF qF0 qF2 qF3 (bRT 0) vF bS (bC 0) bT vT x1 hg2) (cwV 1 htu (gU_V mw_4_127 hcX7_checkTest) rfl rfl rfl hdX7_checkTest ⟨Nat.le_of_ble_eq_true rfl, Nat.le_of_ble_eq_true rfl⟩) (q0 := 0) (ci := 7) (fs := fcF bF qF0 (bS 0) qF2 qF3 (bRT 0) vF) (q := (RX7, TX7, 12)) rfl rfl rfl (wr := (cC g bC vC ++ (cR g bRT nRT (bG 0) (bB 0) vRT ++ (cL g bG vG ++ (cL g bB vB))))) (w2 := cF g bF qF0 (bS 0) qF2 qF3 (bRT 0) vF ++ (cS g bS (bC 0) (bT 0) ++ (cC g bC vC ++ (cT g bT vT ++ (cR g bRT nRT (bG 0) (bB 0) vRT ++ (cL g bG vG ++ (cL g bB vB))))))) [0, 1, 2, 3, 4, 5, 6, 18, 19, 20, 21, 22] [7, 8, 9, 10, 11, 12, 13, 14, 15, 16, 17, 23, 24, 25, 26, 27, 28, 29, 30, 31] [20, 21, 22, 23, 24, 25, 26, 0, 1, 2, 3, 4, 5, 6, 7, 8, 9, 10, 27, 28, 29, 30, 31, 11, 12, 13, 14, 15, 16, 17, 18, 19] rfl rfl (by decide) (by decide) (by decide) rfl rfl (by decide) (As := [.int x1]) (rest := []) rfl rfl hl.1 (Nat.le_of_ble_eq_true rfl) dX7_finds_2 (k1 := 0) (n1 := 0) rfl rfl ⟨Nat.zero_le _, Nat.zero_le _⟩ (fun H locs hP hD hS => ?_)
    refine lv_aload_n hx hb dX7_finds_5 rfl (lv_at hl 0 rfl) ?_
    refine lv_iload_n hx hb dX7_finds_6 rfl (lv_at hl 2 rfl) ?_
    obtain ⟨c3, hg4, hf⟩ := o1_at hf
    have hc3 : c3 = 0 := Classical.byContradiction (fun h9 => h9 (kp_6 (it_f hf h9)).1)
    have hf := it_t hf hc3
    rw [hc3] at hg4
    refine k_vvP ⟨hx, hb, hml, hown, htu⟩ hK hP hD hS hA hG (c_X7_checkFault l g bF qF0 qF2 qF3 (bRT 0) vF bS (bT 0) bC vC x2 hg4) (cwV 1 htu (gU_V mw_2_207 hcX7_checkFault) rfl rfl rfl hdX7_checkFault ⟨Nat.le_of_ble_eq_true rfl, Nat.le_of_ble_eq_true rfl⟩) (q0 := 0) (ci := 7) (fs := fcF bF qF0 (bS 0) qF2 qF3 (bRT 0) vF) (q := (RX7, TX7, 12)) rfl rfl rfl (wr := (cT g bT vT ++ (cR g bRT nRT (bG 0) (bB 0) vRT ++ (cL g bG vG ++ (cL g bB vB))))) (w2 := cF g bF qF0 (bS 0) qF2 qF3 (bRT 0) vF ++ (cS g bS (bC 0) (bT 0) ++ (cC g bC vC ++ (cT g bT vT ++ (cR g bRT nRT (bG 0) (bB 0) vRT ++ (cL g bG vG ++ (cL g bB vB))))))) [0, 1, 2, 3, 4, 5, 6, 7, 8, 9, 10, 11, 12, 13, 14, 15, 16, 17] [18, 19, 20, 21, 22, 23, 24, 25, 26, 27, 28, 29, 30, 31] [14, 15, 16, 17, 18, 19, 20, 21, 22, 23, 24, 25, 26, 27, 28, 29, 30, 31, 0, 1, 2, 3, 4, 5, 6, 7, 8, 9, 10, 11, 12, 13] rfl rfl (by decide) (by decide) (by decide) rfl rfl (by decide) (As := [.int x2]) (rest := []) rfl rfl hl.1 (Nat.le_of_ble_eq_true rfl) dX7_finds_7 (k1 := 0) (n1 := 0) rfl rfl ⟨Nat.zero_le _, Nat.zero_le _⟩ (fun H locs hP hD hS => ?_)
    refine lv_aload_n hx hb dX7_finds_10 rfl (lv_at hl 0 rfl) ?_
    obtain ⟨vF_5, vRT_6, vG_7, vB_8, hg9, hf⟩ := o4_at hf
    refine k_vvW ⟨hx, hb, hml, hown, htu⟩ hK hP hD hS hA hG (c_X7_refreshTestRows l g bF qF0 qF2 qF3 vF bS bC vC bT vT bRT nRT vRT bG vG bB vB vF_5 vRT_6 vG_7 vB_8 hg9) (cwV 0 htu (gU_V mw_2_70 hcX7_refreshTestRows) rfl rfl rfl hdX7_refreshTestRows ⟨Nat.le_of_ble_eq_true rfl, Nat.le_of_ble_eq_true rfl⟩) (q0 := 0) (ci := 7) (fs := fcF bF qF0 (bS 0) qF2 qF3 (bRT 0) vF) (q := (RX7, TX7, 12)) rfl rfl rfl (As := []) (rest := []) rfl rfl hl.1 (Nat.le_of_ble_eq_true rfl) dX7_finds_11 (k1 := 0) (n1 := 0) rfl rfl ⟨Nat.zero_le _, Nat.zero_le _⟩ (fun H locs hP hD hS => ?_)
    refine lv_aload_n hx hb dX7_finds_14 rfl (lv_at hl 0 rfl) ?_
    refine va_get (D := g.1) (ci := 7) (fs := fcF bF qF0 (bS 0) qF2 qF3 (bRT 0) vF_5) (v := .ref (bRT 0)) (C := RX7) (T := TX7) (N := 12) hx hb htu hinX7 hown hK hP 0 rfl rfl 4 (by decide) k_2_15 (fun _ h9 => h9) rfl dX7_finds_15 ?_
    refine lv_aload_n hx hb dX7_finds_18 rfl (lv_at hl 0 rfl) ?_
    refine va_get (D := g.1) (ci := 7) (fs := fcF bF qF0 (bS 0) qF2 qF3 (bRT 0) vF_5) (v := .ref (bS 0)) (C := RX7) (T := TX7) (N := 12) hx hb htu hinX7 hown hK hP 0 rfl rfl 1 (by decide) k_2_12 (fun _ h9 => h9) rfl dX7_finds_19 ?_
    refine va_get (D := g.1) (ci := 4) (fs := fcS bS (bC 0) (bT 0)) (v := .ref (bC 0)) (C := RX4) (T := TX4) (N := 2) hx hb htu hinX4 hown hK hP 6 rfl rfl 0 (by decide) k_1_147 (fun _ h9 => h9) rfl dX7_finds_22 ?_
    refine lv_iconst (v := (-1 : Int32)) hx hb dX7_finds_25 (by decide) ?_
    refine lv_iload_n hx hb dX7_finds_26 rfl (lv_at hl 2 rfl) ?_
    refine lv_iconst (v := (0 : Int32)) hx hb dX7_finds_27 (by decide) ?_
    obtain ⟨r10, hg11, hf⟩ := o1_at hf
    refine k_vlP ⟨hx, hb, hml, hown, htu⟩ hK hP hD hS hA hG (c_X3_apart l g bRT nRT (bG 0) (bB 0) vRT_6 bC vC (-1 : Int32) x2 (0 : Int32) r10 hg11) (cwV 4 htu (gU_V mw_2_118 hcX3_apart) rfl rfl rfl hdX3_apart ⟨Nat.le_of_ble_eq_true rfl, Nat.le_of_ble_eq_true rfl⟩) (q0 := 23) (ci := 3) (fs := fcR bRT (bG 0) (bB 0) vRT_6) (q := (RX3, TX3, 5)) rfl rfl rfl (wr := (cF g bF qF0 (bS 0) qF2 qF3 (bRT 0) vF_5 ++ (cS g bS (bC 0) (bT 0) ++ (cT g bT vT ++ (cL g bG vG_7 ++ (cL g bB vB_8)))))) (w2 := cF g bF qF0 (bS 0) qF2 qF3 (bRT 0) vF_5 ++ (cS g bS (bC 0) (bT 0) ++ (cC g bC vC ++ (cT g bT vT ++ (cR g bRT nRT (bG 0) (bB 0) vRT_6 ++ (cL g bG vG_7 ++ (cL g bB vB_8))))))) [23, 24, 25, 7, 8, 9, 10, 11, 12, 13, 14, 15, 16, 17] [0, 1, 2, 3, 4, 5, 6, 18, 19, 20, 21, 22, 26, 27, 28, 29, 30, 31] [0, 1, 2, 3, 4, 5, 6, 21, 22, 23, 24, 25, 26, 27, 28, 29, 30, 31, 7, 8, 9, 10, 11, 18, 19, 20, 12, 13, 14, 15, 16, 17] rfl rfl (by decide) (by decide) (by decide) rfl rfl (by decide) (As := [.ref (bC 0), .int (-1 : Int32), .int x2, .int (0 : Int32)]) (rest := []) rfl rfl hl.1 (Nat.le_of_ble_eq_true rfl) dX7_finds_28 (k1 := 0) (n1 := 0) rfl rfl ⟨Nat.zero_le _, Nat.zero_le _⟩ (fun H locs hP hD hS => ?_)
    refine lv_iload_n hx hb dX7_finds_31 rfl (lv_at hl 1 rfl) ?_
    obtain ⟨r12, hg13, hf⟩ := o1_at hf
    refine k_si0 ⟨hx, hb, hml, hown, htu⟩ hK hP hD hS hA hG (c_X7_hasLane l g r10 x1 r12 hg13) (va_cwS 2 htu (gU_S mw_4_156 hcX7_hasLane) rfl rfl rfl hdX7_hasLane ⟨Nat.le_of_ble_eq_true rfl, Nat.le_of_ble_eq_true rfl⟩) (As := [.long r10, .int x1]) (rest := []) rfl rfl hl.1 (Nat.le_of_ble_eq_true rfl) dX7_finds_32 (k1 := 0) (n1 := 0) rfl rfl ⟨Nat.zero_le _, Nat.zero_le _⟩ (fun H locs hP hD hS => ?_)
    refine lv_if_eq (tgt := 40) hx hb dX7_finds_35 (by decide) (fun c14 => ?_) (fun c14 => ?_)
    · have hf := it_t hf c14
      refine lv_aload_n hx hb dX7_finds_40 rfl (lv_at hl 0 rfl) ?_
      refine va_get (D := g.1) (ci := 7) (fs := fcF bF qF0 (bS 0) qF2 qF3 (bRT 0) vF_5) (v := .ref (bRT 0)) (C := RX7) (T := TX7) (N := 12) hx hb htu hinX7 hown hK hP 0 rfl rfl 4 (by decide) k_2_15 (fun _ h9 => h9) rfl dX7_finds_41 ?_
      refine lv_aload_n hx hb dX7_finds_44 rfl (lv_at hl 0 rfl) ?_
      refine va_get (D := g.1) (ci := 7) (fs := fcF bF qF0 (bS 0) qF2 qF3 (bRT 0) vF_5) (v := .ref (bS 0)) (C := RX7) (T := TX7) (N := 12) hx hb htu hinX7 hown hK hP 0 rfl rfl 1 (by decide) k_2_12 (fun _ h9 => h9) rfl dX7_finds_45 ?_
      refine va_get (D := g.1) (ci := 4) (fs := fcS bS (bC 0) (bT 0)) (v := .ref (bC 0)) (C := RX4) (T := TX4) (N := 2) hx hb htu hinX4 hown hK hP 6 rfl rfl 0 (by decide) k_1_147 (fun _ h9 => h9) rfl dX7_finds_48 ?_
      refine lv_iload_n hx hb dX7_finds_51 rfl (lv_at hl 2 rfl) ?_
      refine lv_iconst (v := (0 : Int32)) hx hb dX7_finds_52 (by decide) ?_
      obtain ⟨r15, hg16, hf⟩ := o1_at hf
      refine k_vlP ⟨hx, hb, hml, hown, htu⟩ hK hP hD hS hA hG (c_X3_blurred l g bRT nRT (bG 0) (bB 0) vRT_6 bC vC x2 (0 : Int32) r15 hg16) (cwV 3 htu (gU_V mw_4_157 hcX3_blurred) rfl rfl rfl hdX3_blurred ⟨Nat.le_of_ble_eq_true rfl, Nat.le_of_ble_eq_true rfl⟩) (q0 := 23) (ci := 3) (fs := fcR bRT (bG 0) (bB 0) vRT_6) (q := (RX3, TX3, 5)) rfl rfl rfl (wr := (cF g bF qF0 (bS 0) qF2 qF3 (bRT 0) vF_5 ++ (cS g bS (bC 0) (bT 0) ++ (cT g bT vT ++ (cL g bG vG_7 ++ (cL g bB vB_8)))))) (w2 := cF g bF qF0 (bS 0) qF2 qF3 (bRT 0) vF_5 ++ (cS g bS (bC 0) (bT 0) ++ (cC g bC vC ++ (cT g bT vT ++ (cR g bRT nRT (bG 0) (bB 0) vRT_6 ++ (cL g bG vG_7 ++ (cL g bB vB_8))))))) [23, 24, 25, 7, 8, 9, 10, 11, 12, 13, 14, 15, 16, 17] [0, 1, 2, 3, 4, 5, 6, 18, 19, 20, 21, 22, 26, 27, 28, 29, 30, 31] [0, 1, 2, 3, 4, 5, 6, 21, 22, 23, 24, 25, 26, 27, 28, 29, 30, 31, 7, 8, 9, 10, 11, 18, 19, 20, 12, 13, 14, 15, 16, 17] rfl rfl (by decide) (by decide) (by decide) rfl rfl (by decide) (As := [.ref (bC 0), .int x2, .int (0 : Int32)]) (rest := []) rfl rfl hl.1 (Nat.le_of_ble_eq_true rfl) dX7_finds_53 (k1 := 0) (n1 := 0) rfl rfl ⟨Nat.zero_le _, Nat.zero_le _⟩ (fun H locs hP hD hS => ?_)
      refine lv_iload_n hx hb dX7_finds_56 rfl (lv_at hl 1 rfl) ?_
      obtain ⟨r17, hg18, hf⟩ := o1_at hf
      refine k_si0 ⟨hx, hb, hml, hown, htu⟩ hK hP hD hS hA hG (c_X7_hasLane l g r15 x1 r17 hg18) (va_cwS 2 htu (gU_S mw_4_156 hcX7_hasLane) rfl rfl rfl hdX7_hasLane ⟨Nat.le_of_ble_eq_true rfl, Nat.le_of_ble_eq_true rfl⟩) (As := [.long r15, .int x1]) (rest := []) rfl rfl hl.1 (Nat.le_of_ble_eq_true rfl) dX7_finds_57 (k1 := 0) (n1 := 0) rfl rfl ⟨Nat.zero_le _, Nat.zero_le _⟩ (fun H locs hP hD hS => ?_)
      obtain ⟨k20, hk28, hf⟩ := jn_at hf
      have hJ21 : ∀ (t19 : Int32), k20 t19 = some (0, r, vF1, vRT1, vG1, vB1) → ∀ (H : Heap) (locs : List Loc), va_P g.1 vwCl (cF g bF qF0 (bS 0) qF2 qF3 (bRT 0) vF_5 ++ (cS g bS (bC 0) (bT 0) ++ (cC g bC vC ++ (cT g bT vT ++ (cR g bRT nRT (bG 0) (bB 0) vRT_6 ++ (cL g bG vG_7 ++ (cL g bB vB_8))))))) H → va_D A (cF g bF qF0 (bS 0) qF2 qF3 (bRT 0) vF_5 ++ (cS g bS (bC 0) (bT 0) ++ (cC g bC vC ++ (cT g bT vT ++ (cR g bRT nRT (bG 0) (bB 0) vRT_6 ++ (cL g bG vG_7 ++ (cL g bB vB_8))))))) → va_S A s.heap H locs → ∀ ls : Array Slot, lv_has ls 3 [] → W p l e (headSpec wsX7_finds rmX7_finds).room s m ([.ref (bF 0), .int x1, .int x2] : List Value).toArray below meth c H locs 0 0 (MQ below (qI g A (cF g bF qF0 (bS 0) qF2 qF3 (bRT 0) vF1 ++ (cS g bS (bC 0) (bT 0) ++ (cC g bC vC ++ (cT g bT vT ++ (cR g bRT nRT (bG 0) (bB 0) vRT1 ++ (cL g bG vG1 ++ (cL g bB vB1))))))) r) ([.ref (bF 0), .int x1, .int x2] : List Value).toArray s 0 0 A) (F0 m 68 ls [.int t19]) := by
        intro t19 hf H locs hP hD hS ls hl
        rw [hk28] at hf
        dsimp only at hf
        clear hk28
        obtain ⟨e22, e23, e24, e25, e26, e27⟩ := kp_6 hf
        rw [e24] at hP hD
        rw [e25] at hP hD
        rw [e26] at hP hD
        rw [e27] at hP hD
        exact k_iret hx hb hr hlocks hK hP hD hS e23 dX7_finds_68
      refine lv_if_eq (tgt := 67) hx hb dX7_finds_60 (by decide) (fun c29 => ?_) (fun c29 => ?_)
      · have hf := it_t hf c29
        refine lv_iconst (v := (0 : Int32)) hx hb dX7_finds_67 (by decide) ?_
        exact hJ21 (0 : Int32) hf H locs hP hD hS _ (lv_sub hl [] rfl)
      · have hf := it_f hf c29
        refine lv_iconst (v := (1 : Int32)) hx hb dX7_finds_63 (by decide) ?_
        refine lv_goto (tgt := 68) hx hb dX7_finds_64 (by decide) ?_
        exact hJ21 (1 : Int32) hf H locs hP hD hS _ (lv_sub hl [] rfl)
    · have hf := it_f hf c14
      refine lv_iconst (v := (2 : Int32)) hx hb dX7_finds_38 (by decide) ?_
      obtain ⟨e30, e31, e32, e33, e34, e35⟩ := kp_6 hf
      rw [e32] at hP hD
      rw [e33] at hP hD
      rw [e34] at hP hD
      rw [e35] at hP hD
      exact k_iret hx hb hr hlocks hK hP hD hS e31 dX7_finds_39
  rw [hH, hlo] at hW
  exact hW
def f_X7_worth (vF : Vs) (vC : Vs) (vT : Vs) (nRT : Nat) (vRT : Vs) (vG : Vs) (vB : Vs) (x1 : Int32) : Option (Nat × Int32 × Vs × Vs × Vs × Vs) :=
  o1 (f_X7_checkTest vF vT x1) (fun (c1 : Nat) => if c1 = 0 then (o5 (f_X7_listFoundByTests vF vC vT nRT vRT vG vB) (fun (r3 : Int64) (vF_4 : Vs) (vRT_5 : Vs) (vG_6 : Vs) (vB_7 : Vs) => gd (inb x1 16) (o1 (f_J13_bitCount_95d88 (vF_4.2.2 9 (x1).toNatClampNeg)) (fun (r10 : Int32) => some (0, r10, vF_4, vRT_5, vG_6, vB_7))))) else some (c1, (0 : Int32), vF, vRT, vG, vB))
abbrev wsX7_worth : List Cond := .code yX7_worth cX7_worth 2 (some .int) :: UW
abbrev rmX7_worth : Room := { frames := 5, cells := 0, slots := 0, locals := 124 }
set_option maxHeartbeats 4000000 in
set_option maxRecDepth 100000 in
theorem c_X7_worth (l : Launch) (g : Gx) (bF : Nat → Nat) (qF0 : Nat) (qF2 : Nat) (qF3 : Nat) (vF : Vs) (bS : Nat → Nat) (bC : Nat → Nat) (vC : Vs) (bT : Nat → Nat) (vT : Vs) (bRT : Nat → Nat) (nRT : Nat) (vRT : Vs) (bG : Nat → Nat) (vG : Vs) (bB : Nat → Nat) (vB : Vs) (x1 : Int32) (r : Int32) (vF1 : Vs) (vRT1 : Vs) (vG1 : Vs) (vB1 : Vs) (hf : f_X7_worth vF vC vT nRT vRT vG vB x1 = some (0, r, vF1, vRT1, vG1, vB1)) : CtI l yX7_worth wsX7_worth rmX7_worth g [.ref (bF 0), .int x1] (cF g bF qF0 (bS 0) qF2 qF3 (bRT 0) vF ++ (cS g bS (bC 0) (bT 0) ++ (cC g bC vC ++ (cT g bT vT ++ (cR g bRT nRT (bG 0) (bB 0) vRT ++ (cL g bG vG ++ (cL g bB vB))))))) (cF g bF qF0 (bS 0) qF2 qF3 (bRT 0) vF1 ++ (cS g bS (bC 0) (bT 0) ++ (cC g bC vC ++ (cT g bT vT ++ (cR g bRT nRT (bG 0) (bB 0) vRT1 ++ (cL g bG vG1 ++ (cL g bB vB1))))))) r 0 0 := by
  unfold CtI
  intro sz
  refine Met.ofW (cc := cX7_worth) (maxL := 2) (ret := (some .int)) (by decide) rfl ?_
  intro p e s m args below meth c s₁ B hml hv
  obtain ⟨rfl, hsz, hP, hK, hD0, hG⟩ := hv
  have hx := B.exec
  have hb := B.bytes
  have hr := B.returns
  have hts := atoms_spec (ws := wsX7_worth) B.pre
  have hown : s.vm.findClass RX7 = some m.cls := findClass_of_methodNamed B.named
  have hlocks := B.notSynchronized
  subst hsz
  have hD := hD0.self (sz := s.heap.size)
  generalize hAe : va_A (cF g bF qF0 (bS 0) qF2 qF3 (bRT 0) vF ++ (cS g bS (bC 0) (bT 0) ++ (cC g bC vC ++ (cT g bT vT ++ (cR g bRT nRT (bG 0) (bB 0) vRT ++ (cL g bG vG ++ (cL g bB vB))))))) s.heap.size = A at hD hG ⊢
  have hA : ∀ q : Nat, s.heap.size ≤ q → A q := fun q h => by rw [← hAe]; exact Or.inr h
  clear hAe hD0
  have hS : va_S A s.heap s.heap [] := va_S.rf
  have hl := lv_entry ([.ref (bF 0), .int x1]) (n := 2) (Nat.le_of_ble_eq_true rfl)
  rw [lg_entry_eq]
  generalize (lg_sl ([.ref (bF 0), .int x1]) ++ List.replicate (2 - (lg_sl ([.ref (bF 0), .int x1])).length) Slot.unset).toArray = ls at hl ⊢
  have hl : lv_has ls 2 [(0, .ref (bF 0)), (1, .int x1)] := hl
  have htu : ∀ w ∈ UW, w.before _ s = true := fun w h => hts w (List.mem_cons_of_mem _ h)
  have k_2_20 := htu _ mw_2_20
  unfold f_X7_worth at hf
  obtain ⟨H, hH⟩ : ∃ z, z = s.heap := ⟨_, rfl⟩
  obtain ⟨locs, hlo⟩ : ∃ z : List Loc, z = [] := ⟨_, rfl⟩
  have hS : va_S A s.heap H locs := by rw [hH, hlo]; exact hS
  rw [← hH] at hP
  have hW : W p l e (headSpec wsX7_worth rmX7_worth).room s m ([.ref (bF 0), .int x1] : List Value).toArray below meth c H locs 0 0 (MQ below (qI g A (cF g bF qF0 (bS 0) qF2 qF3 (bRT 0) vF1 ++ (cS g bS (bC 0) (bT 0) ++ (cC g bC vC ++ (cT g bT vT ++ (cR g bRT nRT (bG 0) (bB 0) vRT1 ++ (cL g bG vG1 ++ (cL g bB vB1))))))) r) ([.ref (bF 0), .int x1] : List Value).toArray s 0 0 A) (F0 m 0 ls []) := by
    refine lv_aload_n hx hb dX7_worth_0 rfl (lv_at hl 0 rfl) ?_
    refine lv_iload_n hx hb dX7_worth_1 rfl (lv_at hl 1 rfl) ?_
    obtain ⟨c1, hg2, hf⟩ := o1_at hf
    have hc1 : c1 = 0 := Classical.byContradiction (fun h9 => h9 (kp_6 (it_f hf h9)).1)
    have hf := it_t hf hc1
    rw [hc1] at hg2
    refine k_vvP ⟨hx, hb, hml, hown, htu⟩ hK hP hD hS hA hG (c_X7_checkTest l g bF qF0 qF2 qF3 (bRT 0) vF bS (bC 0) bT vT x1 hg2) (cwV 1 htu (gU_V mw_4_127 hcX7_checkTest) rfl rfl rfl hdX7_checkTest ⟨Nat.le_of_ble_eq_true rfl, Nat.le_of_ble_eq_true rfl⟩) (q0 := 0) (ci := 7) (fs := fcF bF qF0 (bS 0) qF2 qF3 (bRT 0) vF) (q := (RX7, TX7, 12)) rfl rfl rfl (wr := (cC g bC vC ++ (cR g bRT nRT (bG 0) (bB 0) vRT ++ (cL g bG vG ++ (cL g bB vB))))) (w2 := cF g bF qF0 (bS 0) qF2 qF3 (bRT 0) vF ++ (cS g bS (bC 0) (bT 0) ++ (cC g bC vC ++ (cT g bT vT ++ (cR g bRT nRT (bG 0) (bB 0) vRT ++ (cL g bG vG ++ (cL g bB vB))))))) [0, 1, 2, 3, 4, 5, 6, 18, 19, 20, 21, 22] [7, 8, 9, 10, 11, 12, 13, 14, 15, 16, 17, 23, 24, 25, 26, 27, 28, 29, 30, 31] [20, 21, 22, 23, 24, 25, 26, 0, 1, 2, 3, 4, 5, 6, 7, 8, 9, 10, 27, 28, 29, 30, 31, 11, 12, 13, 14, 15, 16, 17, 18, 19] rfl rfl (by decide) (by decide) (by decide) rfl rfl (by decide) (As := [.int x1]) (rest := []) rfl rfl hl.1 (Nat.le_of_ble_eq_true rfl) dX7_worth_2 (k1 := 0) (n1 := 0) rfl rfl ⟨Nat.zero_le _, Nat.zero_le _⟩ (fun H locs hP hD hS => ?_)
    refine lv_aload_n hx hb dX7_worth_5 rfl (lv_at hl 0 rfl) ?_
    obtain ⟨r3, vF_4, vRT_5, vG_6, vB_7, hg8, hf⟩ := o5_at hf
    refine k_vlW ⟨hx, hb, hml, hown, htu⟩ hK hP hD hS hA hG (c_X7_listFoundByTests l g bF qF0 qF2 qF3 vF bS bC vC bT vT bRT nRT vRT bG vG bB vB r3 vF_4 vRT_5 vG_6 vB_7 hg8) (cwV 0 htu (gU_V mw_2_66 hcX7_listFoundByTests) rfl rfl rfl hdX7_listFoundByTests ⟨Nat.le_of_ble_eq_true rfl, Nat.le_of_ble_eq_true rfl⟩) (q0 := 0) (ci := 7) (fs := fcF bF qF0 (bS 0) qF2 qF3 (bRT 0) vF) (q := (RX7, TX7, 12)) rfl rfl rfl (As := []) (rest := []) rfl rfl hl.1 (Nat.le_of_ble_eq_true rfl) dX7_worth_6 (k1 := 0) (n1 := 0) rfl rfl ⟨Nat.zero_le _, Nat.zero_le _⟩ (fun H locs hP hD hS => ?_)
    refine lv_pop2_2 hx hb dX7_worth_9 rfl ?_
    refine lv_aload_n hx hb dX7_worth_10 rfl (lv_at hl 0 rfl) ?_
    refine va_get (D := g.1) (ci := 7) (fs := fcF bF qF0 (bS 0) qF2 qF3 (bRT 0) vF_4) (v := .ref (bF 10)) (C := RX7) (T := TX7) (N := 12) hx hb htu hinX7 hown hK hP 0 rfl rfl 9 (by decide) k_2_20 (fun _ h9 => h9) rfl dX7_worth_11 ?_
    refine lv_iload_n hx hb dX7_worth_14 rfl (lv_at hl 1 rfl) ?_
    obtain ⟨h9, hf⟩ := gd_in hf
    refine va_lald (D := g.1) (f := (vF_4.2.2 9)) hx hb hK hP 3 1 rfl rfl h9 dX7_worth_15 ?_
    obtain ⟨r10, hg11, hf⟩ := o1_at hf
    refine k_si0 ⟨hx, hb, hml, hown, htu⟩ hK hP hD hS hA hG (c_J13_bitCount_95d88 l g (vF_4.2.2 9 (x1).toNatClampNeg) r10 hg11) (va_cwS 1 htu (gU_S mw_2_122 hcJ13_bitCount_95d88) rfl rfl rfl hdJ13_bitCount_95d88 ⟨Nat.le_of_ble_eq_true rfl, Nat.le_of_ble_eq_true rfl⟩) (As := [.long (vF_4.2.2 9 (x1).toNatClampNeg)]) (rest := []) rfl rfl hl.1 (Nat.le_of_ble_eq_true rfl) dX7_worth_16 (k1 := 0) (n1 := 0) rfl rfl ⟨Nat.zero_le _, Nat.zero_le _⟩ (fun H locs hP hD hS => ?_)
    obtain ⟨e12, e13, e14, e15, e16, e17⟩ := kp_6 hf
    rw [e14] at hP hD
    rw [e15] at hP hD
    rw [e16] at hP hD
    rw [e17] at hP hD
    exact k_iret hx hb hr hlocks hK hP hD hS e13 dX7_worth_19
  rw [hH, hlo] at hW
  exact hW
def f_X7_testFor (vF : Vs) (vC : Vs) (nRF : Nat) (vRF : Vs) (vGF : Vs) (vBF : Vs) (x1 : Int32) : Option (Nat × Int32 × Vs × Vs × Vs × Vs) :=
  o1 (f_X7_checkFault vF vC x1) (fun (c1 : Nat) => if c1 = 0 then (o4 (f_X7_refreshFullRows vF vC nRF vRF vGF vBF) (fun (vF_3 : Vs) (vRF_4 : Vs) (vGF_5 : Vs) (vBF_6 : Vs) => o1 (f_X3_firstApart nRF vRF_4 vC (-1 : Int32) x1) (fun (r8 : Int32) => some (0, r8, vF_3, vRF_4, vGF_5, vBF_6)))) else some (c1, (0 : Int32), vF, vRF, vGF, vBF))
abbrev wsX7_testFor : List Cond := .code yX7_testFor cX7_testFor 2 (some .int) :: UW
abbrev rmX7_testFor : Room := { frames := 4, cells := 0, slots := 0, locals := 106 }
set_option maxHeartbeats 4000000 in
set_option maxRecDepth 100000 in
theorem c_X7_testFor (l : Launch) (g : Gx) (bF : Nat → Nat) (qF0 : Nat) (qF2 : Nat) (qF4 : Nat) (vF : Vs) (bS : Nat → Nat) (qS1 : Nat) (bC : Nat → Nat) (vC : Vs) (bRF : Nat → Nat) (nRF : Nat) (vRF : Vs) (bGF : Nat → Nat) (vGF : Vs) (bBF : Nat → Nat) (vBF : Vs) (x1 : Int32) (r : Int32) (vF1 : Vs) (vRF1 : Vs) (vGF1 : Vs) (vBF1 : Vs) (hf : f_X7_testFor vF vC nRF vRF vGF vBF x1 = some (0, r, vF1, vRF1, vGF1, vBF1)) : CtI l yX7_testFor wsX7_testFor rmX7_testFor g [.ref (bF 0), .int x1] (cF g bF qF0 (bS 0) qF2 (bRF 0) qF4 vF ++ (cS g bS (bC 0) qS1 ++ (cC g bC vC ++ (cR g bRF nRF (bGF 0) (bBF 0) vRF ++ (cL g bGF vGF ++ (cL g bBF vBF)))))) (cF g bF qF0 (bS 0) qF2 (bRF 0) qF4 vF1 ++ (cS g bS (bC 0) qS1 ++ (cC g bC vC ++ (cR g bRF nRF (bGF 0) (bBF 0) vRF1 ++ (cL g bGF vGF1 ++ (cL g bBF vBF1)))))) r 0 0 := by
  unfold CtI
  intro sz
  refine Met.ofW (cc := cX7_testFor) (maxL := 2) (ret := (some .int)) (by decide) rfl ?_
  intro p e s m args below meth c s₁ B hml hv
  obtain ⟨rfl, hsz, hP, hK, hD0, hG⟩ := hv
  have hx := B.exec
  have hb := B.bytes
  have hr := B.returns
  have hts := atoms_spec (ws := wsX7_testFor) B.pre
  have hown : s.vm.findClass RX7 = some m.cls := findClass_of_methodNamed B.named
  have hlocks := B.notSynchronized
  subst hsz
  have hD := hD0.self (sz := s.heap.size)
  generalize hAe : va_A (cF g bF qF0 (bS 0) qF2 (bRF 0) qF4 vF ++ (cS g bS (bC 0) qS1 ++ (cC g bC vC ++ (cR g bRF nRF (bGF 0) (bBF 0) vRF ++ (cL g bGF vGF ++ (cL g bBF vBF)))))) s.heap.size = A at hD hG ⊢
  have hA : ∀ q : Nat, s.heap.size ≤ q → A q := fun q h => by rw [← hAe]; exact Or.inr h
  clear hAe hD0
  have hS : va_S A s.heap s.heap [] := va_S.rf
  have hl := lv_entry ([.ref (bF 0), .int x1]) (n := 2) (Nat.le_of_ble_eq_true rfl)
  rw [lg_entry_eq]
  generalize (lg_sl ([.ref (bF 0), .int x1]) ++ List.replicate (2 - (lg_sl ([.ref (bF 0), .int x1])).length) Slot.unset).toArray = ls at hl ⊢
  have hl : lv_has ls 2 [(0, .ref (bF 0)), (1, .int x1)] := hl
  have htu : ∀ w ∈ UW, w.before _ s = true := fun w h => hts w (List.mem_cons_of_mem _ h)
  have k_2_14 := htu _ mw_2_14
  have k_2_12 := htu _ mw_2_12
  have k_1_147 := htu _ mw_1_147
  unfold f_X7_testFor at hf
  obtain ⟨H, hH⟩ : ∃ z, z = s.heap := ⟨_, rfl⟩
  obtain ⟨locs, hlo⟩ : ∃ z : List Loc, z = [] := ⟨_, rfl⟩
  have hS : va_S A s.heap H locs := by rw [hH, hlo]; exact hS
  rw [← hH] at hP
  have hW : W p l e (headSpec wsX7_testFor rmX7_testFor).room s m ([.ref (bF 0), .int x1] : List Value).toArray below meth c H locs 0 0 (MQ below (qI g A (cF g bF qF0 (bS 0) qF2 (bRF 0) qF4 vF1 ++ (cS g bS (bC 0) qS1 ++ (cC g bC vC ++ (cR g bRF nRF (bGF 0) (bBF 0) vRF1 ++ (cL g bGF vGF1 ++ (cL g bBF vBF1)))))) r) ([.ref (bF 0), .int x1] : List Value).toArray s 0 0 A) (F0 m 0 ls []) := by
    refine lv_aload_n hx hb dX7_testFor_0 rfl (lv_at hl 0 rfl) ?_
    refine lv_iload_n hx hb dX7_testFor_1 rfl (lv_at hl 1 rfl) ?_
    obtain ⟨c1, hg2, hf⟩ := o1_at hf
    have hc1 : c1 = 0 := Classical.byContradiction (fun h9 => h9 (kp_6 (it_f hf h9)).1)
    have hf := it_t hf hc1
    rw [hc1] at hg2
    refine k_vvP ⟨hx, hb, hml, hown, htu⟩ hK hP hD hS hA hG (c_X7_checkFault l g bF qF0 qF2 (bRF 0) qF4 vF bS qS1 bC vC x1 hg2) (cwV 1 htu (gU_V mw_2_207 hcX7_checkFault) rfl rfl rfl hdX7_checkFault ⟨Nat.le_of_ble_eq_true rfl, Nat.le_of_ble_eq_true rfl⟩) (q0 := 0) (ci := 7) (fs := fcF bF qF0 (bS 0) qF2 (bRF 0) qF4 vF) (q := (RX7, TX7, 12)) rfl rfl rfl (wr := (cR g bRF nRF (bGF 0) (bBF 0) vRF ++ (cL g bGF vGF ++ (cL g bBF vBF)))) (w2 := cF g bF qF0 (bS 0) qF2 (bRF 0) qF4 vF ++ (cS g bS (bC 0) qS1 ++ (cC g bC vC ++ (cR g bRF nRF (bGF 0) (bBF 0) vRF ++ (cL g bGF vGF ++ (cL g bBF vBF)))))) [0, 1, 2, 3, 4, 5, 6, 7, 8, 9, 10, 11, 12, 13, 14, 15, 16, 17] [18, 19, 20, 21, 22, 23, 24, 25, 26] [9, 10, 11, 12, 13, 14, 15, 16, 17, 18, 19, 20, 21, 22, 23, 24, 25, 26, 0, 1, 2, 3, 4, 5, 6, 7, 8] rfl rfl (by decide) (by decide) (by decide) rfl rfl (by decide) (As := [.int x1]) (rest := []) rfl rfl hl.1 (Nat.le_of_ble_eq_true rfl) dX7_testFor_2 (k1 := 0) (n1 := 0) rfl rfl ⟨Nat.zero_le _, Nat.zero_le _⟩ (fun H locs hP hD hS => ?_)
    refine lv_aload_n hx hb dX7_testFor_5 rfl (lv_at hl 0 rfl) ?_
    obtain ⟨vF_3, vRF_4, vGF_5, vBF_6, hg7, hf⟩ := o4_at hf
    refine k_vvW ⟨hx, hb, hml, hown, htu⟩ hK hP hD hS hA hG (c_X7_refreshFullRows l g bF qF0 qF2 qF4 vF bS qS1 bC vC bRF nRF vRF bGF vGF bBF vBF vF_3 vRF_4 vGF_5 vBF_6 hg7) (cwV 0 htu (gU_V mw_2_227 hcX7_refreshFullRows) rfl rfl rfl hdX7_refreshFullRows ⟨Nat.le_of_ble_eq_true rfl, Nat.le_of_ble_eq_true rfl⟩) (q0 := 0) (ci := 7) (fs := fcF bF qF0 (bS 0) qF2 (bRF 0) qF4 vF) (q := (RX7, TX7, 12)) rfl rfl rfl (As := []) (rest := []) rfl rfl hl.1 (Nat.le_of_ble_eq_true rfl) dX7_testFor_6 (k1 := 0) (n1 := 0) rfl rfl ⟨Nat.zero_le _, Nat.zero_le _⟩ (fun H locs hP hD hS => ?_)
    refine lv_aload_n hx hb dX7_testFor_9 rfl (lv_at hl 0 rfl) ?_
    refine va_get (D := g.1) (ci := 7) (fs := fcF bF qF0 (bS 0) qF2 (bRF 0) qF4 vF_3) (v := .ref (bRF 0)) (C := RX7) (T := TX7) (N := 12) hx hb htu hinX7 hown hK hP 0 rfl rfl 3 (by decide) k_2_14 (fun _ h9 => h9) rfl dX7_testFor_10 ?_
    refine lv_aload_n hx hb dX7_testFor_13 rfl (lv_at hl 0 rfl) ?_
    refine va_get (D := g.1) (ci := 7) (fs := fcF bF qF0 (bS 0) qF2 (bRF 0) qF4 vF_3) (v := .ref (bS 0)) (C := RX7) (T := TX7) (N := 12) hx hb htu hinX7 hown hK hP 0 rfl rfl 1 (by decide) k_2_12 (fun _ h9 => h9) rfl dX7_testFor_14 ?_
    refine va_get (D := g.1) (ci := 4) (fs := fcS bS (bC 0) qS1) (v := .ref (bC 0)) (C := RX4) (T := TX4) (N := 2) hx hb htu hinX4 hown hK hP 6 rfl rfl 0 (by decide) k_1_147 (fun _ h9 => h9) rfl dX7_testFor_17 ?_
    refine lv_iconst (v := (-1 : Int32)) hx hb dX7_testFor_20 (by decide) ?_
    refine lv_iload_n hx hb dX7_testFor_21 rfl (lv_at hl 1 rfl) ?_
    obtain ⟨r8, hg9, hf⟩ := o1_at hf
    refine k_viP ⟨hx, hb, hml, hown, htu⟩ hK hP hD hS hA hG (c_X3_firstApart l g bRF nRF (bGF 0) (bBF 0) vRF_4 bC vC (-1 : Int32) x1 r8 hg9) (cwV 3 htu (gU_V mw_3_1 hcX3_firstApart) rfl rfl rfl hdX3_firstApart ⟨Nat.le_of_ble_eq_true rfl, Nat.le_of_ble_eq_true rfl⟩) (q0 := 18) (ci := 3) (fs := fcR bRF (bGF 0) (bBF 0) vRF_4) (q := (RX3, TX3, 5)) rfl rfl rfl (wr := (cF g bF qF0 (bS 0) qF2 (bRF 0) qF4 vF_3 ++ (cS g bS (bC 0) qS1 ++ (cL g bGF vGF_5 ++ (cL g bBF vBF_6))))) (w2 := cF g bF qF0 (bS 0) qF2 (bRF 0) qF4 vF_3 ++ (cS g bS (bC 0) qS1 ++ (cC g bC vC ++ (cR g bRF nRF (bGF 0) (bBF 0) vRF_4 ++ (cL g bGF vGF_5 ++ (cL g bBF vBF_6)))))) [18, 19, 20, 7, 8, 9, 10, 11, 12, 13, 14, 15, 16, 17] [0, 1, 2, 3, 4, 5, 6, 21, 22, 23, 24, 25, 26] [0, 1, 2, 3, 4, 5, 6, 16, 17, 18, 19, 20, 21, 22, 23, 24, 25, 26, 13, 14, 15, 7, 8, 9, 10, 11, 12] rfl rfl (by decide) (by decide) (by decide) rfl rfl (by decide) (As := [.ref (bC 0), .int (-1 : Int32), .int x1]) (rest := []) rfl rfl hl.1 (Nat.le_of_ble_eq_true rfl) dX7_testFor_22 (k1 := 0) (n1 := 0) rfl rfl ⟨Nat.zero_le _, Nat.zero_le _⟩ (fun H locs hP hD hS => ?_)
    obtain ⟨e10, e11, e12, e13, e14, e15⟩ := kp_6 hf
    rw [e12] at hP hD
    rw [e13] at hP hD
    rw [e14] at hP hD
    rw [e15] at hP hD
    exact k_iret hx hb hr hlocks hK hP hD hS e11 dX7_testFor_25
  rw [hH, hlo] at hW
  exact hW
