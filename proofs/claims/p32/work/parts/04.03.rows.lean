def f_X3_rowOf (nR : Nat) (vR : Vs) (x1 : Int32) (x2 : Int32) (x3 : Int32) : Option (Int32) :=
  some ((((((x1 + (1 : Int32)) * (6 : Int32)) + x2) * (vR.1 4)) + x3))
abbrev wsX3_rowOf : List Cond := .code yX3_rowOf cX3_rowOf 4 (some .int) :: UW
abbrev rmX3_rowOf : Room := { frames := 0, cells := 0, slots := 0, locals := 0 }
set_option maxHeartbeats 4000000 in
set_option maxRecDepth 100000 in
theorem c_X3_rowOf (l : Launch) (g : Gx) (bR : Nat → Nat) (nR : Nat) (qR0 : Nat) (qR1 : Nat) (vR : Vs) (x1 : Int32) (x2 : Int32) (x3 : Int32) (r : Int32) (hf : f_X3_rowOf nR vR x1 x2 x3 = some r) : CtI l yX3_rowOf wsX3_rowOf rmX3_rowOf g [.ref (bR 0), .int x1, .int x2, .int x3] (cR g bR nR qR0 qR1 vR) (cR g bR nR qR0 qR1 vR) r 0 0 := by
  unfold CtI
  intro sz
  refine Met.ofW (cc := cX3_rowOf) (maxL := 4) (ret := (some .int)) (by decide) rfl ?_
  intro p e s m args below meth c s₁ B hml hv
  obtain ⟨rfl, hsz, hP, hK, hD0, hG⟩ := hv
  have hx := B.exec
  have hb := B.bytes
  have hr := B.returns
  have hts := atoms_spec (ws := wsX3_rowOf) B.pre
  have hown : s.vm.findClass RX3 = some m.cls := findClass_of_methodNamed B.named
  have hlocks := B.notSynchronized
  subst hsz
  have hD := hD0.self (sz := s.heap.size)
  generalize hAe : va_A (cR g bR nR qR0 qR1 vR) s.heap.size = A at hD hG ⊢
  have hA : ∀ q : Nat, s.heap.size ≤ q → A q := fun q h => by rw [← hAe]; exact Or.inr h
  clear hAe hD0
  have hS : va_S A s.heap s.heap [] := va_S.rf
  have hl := lv_entry ([.ref (bR 0), .int x1, .int x2, .int x3]) (n := 4) (Nat.le_of_ble_eq_true rfl)
  rw [lg_entry_eq]
  generalize (lg_sl ([.ref (bR 0), .int x1, .int x2, .int x3]) ++ List.replicate (4 - (lg_sl ([.ref (bR 0), .int x1, .int x2, .int x3])).length) Slot.unset).toArray = ls at hl ⊢
  have hl : lv_has ls 4 [(0, .ref (bR 0)), (1, .int x1), (2, .int x2), (3, .int x3)] := hl
  have htu : ∀ w ∈ UW, w.before _ s = true := fun w h => hts w (List.mem_cons_of_mem _ h)
  have k_1_239 := htu _ mw_1_239
  unfold f_X3_rowOf at hf
  obtain ⟨H, hH⟩ : ∃ z, z = s.heap := ⟨_, rfl⟩
  obtain ⟨locs, hlo⟩ : ∃ z : List Loc, z = [] := ⟨_, rfl⟩
  have hS : va_S A s.heap H locs := by rw [hH, hlo]; exact hS
  rw [← hH] at hP
  have hW : W p l e (headSpec wsX3_rowOf rmX3_rowOf).room s m ([.ref (bR 0), .int x1, .int x2, .int x3] : List Value).toArray below meth c H locs 0 0 (MQ below (qI g A (cR g bR nR qR0 qR1 vR) r) ([.ref (bR 0), .int x1, .int x2, .int x3] : List Value).toArray s 0 0 A) (F0 m 0 ls []) := by
    refine lv_iload_n hx hb dX3_rowOf_0 rfl (lv_at hl 1 rfl) ?_
    refine lv_iconst (v := (1 : Int32)) hx hb dX3_rowOf_1 (by decide) ?_
    refine lv_iadd hx hb dX3_rowOf_2 ?_
    refine lv_bipush (v := (6 : Int32)) hx hb dX3_rowOf_3 (by decide) ?_
    refine lv_imul hx hb dX3_rowOf_5 ?_
    refine lv_iload_n hx hb dX3_rowOf_6 rfl (lv_at hl 2 rfl) ?_
    refine lv_iadd hx hb dX3_rowOf_7 ?_
    refine lv_aload_n hx hb dX3_rowOf_8 rfl (lv_at hl 0 rfl) ?_
    refine va_get (D := g.1) (ci := 3) (fs := fcR bR qR0 qR1 vR) (v := .int (vR.1 4)) (C := RX3) (T := TX3) (N := 5) hx hb htu hinX3 hown hK hP 0 rfl rfl 4 (by decide) k_1_239 (fun _ h9 => h9) rfl dX3_rowOf_9 ?_
    refine lv_imul hx hb dX3_rowOf_12 ?_
    refine lv_iload_n hx hb dX3_rowOf_13 rfl (lv_at hl 3 rfl) ?_
    refine lv_iadd hx hb dX3_rowOf_14 ?_
    have e1 := Option.some.inj hf
    exact k_iret hx hb hr hlocks hK hP hD hS e1 dX3_rowOf_15
  rw [hH, hlo] at hW
  exact hW
def f_X3_store_L3 (nR : Nat) (vC : Vs) (vL : Vs) (x3 : Int32) (x4 : Int32) (self3 : Int32 → Vs → Option (Vs)) (x5_1 : Int32) (vR_2 : Vs) : Option (Vs) :=
  if (vC.1 2) ≤ x5_1 then some (vR_2) else o1 (f_X3_rowOf nR vR_2 x3 x5_1 x4) (fun (r8 : Int32) => gd (inb x5_1 6) (gd (inb (vC.2.1 10 (x5_1).toNatClampNeg) 24) (gd (inb r8 nR) (bn (sJ vR_2 2 (r8).toNatClampNeg (vL.2.2 0 ((vC.2.1 10 (x5_1).toNatClampNeg)).toNatClampNeg)) (fun (vR_13 : Vs) => gd (inb x5_1 6) (gd (inb (vC.2.1 10 (x5_1).toNatClampNeg) 24) (gd (inb r8 nR) (bn (sJ vR_13 3 (r8).toNatClampNeg (vL.2.2 1 ((vC.2.1 10 (x5_1).toNatClampNeg)).toNatClampNeg)) (fun (vR_17 : Vs) => self3 (x5_1 + (1 : Int32)) vR_17)))))))))
def f_X3_store (nR : Nat) (vR : Vs) (vC : Vs) (vL : Vs) (x3 : Int32) (x4 : Int32) : Option (Vs) :=
  lp (f_X3_store_L3 nR vC vL x3 x4) (fun _ _ => none) FU (0 : Int32) vR
abbrev wsX3_store : List Cond := .code yX3_store cX3_store 7 none :: UW
abbrev rmX3_store : Room := { frames := 1, cells := 0, slots := 0, locals := 23 }
set_option maxHeartbeats 4000000 in
set_option maxRecDepth 100000 in
theorem c_X3_store (l : Launch) (g : Gx) (bR : Nat → Nat) (nR : Nat) (qR0 : Nat) (qR1 : Nat) (vR : Vs) (bC : Nat → Nat) (vC : Vs) (bL : Nat → Nat) (vL : Vs) (x3 : Int32) (x4 : Int32) (vR1 : Vs) (hf : f_X3_store nR vR vC vL x3 x4 = some vR1) : CtV l yX3_store wsX3_store rmX3_store g [.ref (bR 0), .ref (bC 0), .ref (bL 0), .int x3, .int x4] (cR g bR nR qR0 qR1 vR ++ (cC g bC vC ++ (cL g bL vL))) (cR g bR nR qR0 qR1 vR1 ++ (cC g bC vC ++ (cL g bL vL))) 0 0 := by
  unfold CtV
  intro sz
  refine Met.ofW (cc := cX3_store) (maxL := 7) (ret := none) (by decide) rfl ?_
  intro p e s m args below meth c s₁ B hml hv
  obtain ⟨rfl, hsz, hP, hK, hD0, hG⟩ := hv
  have hx := B.exec
  have hb := B.bytes
  have hr := B.returns
  have hts := atoms_spec (ws := wsX3_store) B.pre
  have hown : s.vm.findClass RX3 = some m.cls := findClass_of_methodNamed B.named
  have hlocks := B.notSynchronized
  subst hsz
  have hD := hD0.self (sz := s.heap.size)
  generalize hAe : va_A (cR g bR nR qR0 qR1 vR ++ (cC g bC vC ++ (cL g bL vL))) s.heap.size = A at hD hG ⊢
  have hA : ∀ q : Nat, s.heap.size ≤ q → A q := fun q h => by rw [← hAe]; exact Or.inr h
  clear hAe hD0
  have hS : va_S A s.heap s.heap [] := va_S.rf
  have hl := lv_entry ([.ref (bR 0), .ref (bC 0), .ref (bL 0), .int x3, .int x4]) (n := 7) (Nat.le_of_ble_eq_true rfl)
  rw [lg_entry_eq]
  generalize (lg_sl ([.ref (bR 0), .ref (bC 0), .ref (bL 0), .int x3, .int x4]) ++ List.replicate (7 - (lg_sl ([.ref (bR 0), .ref (bC 0), .ref (bL 0), .int x3, .int x4])).length) Slot.unset).toArray = ls at hl ⊢
  have hl : lv_has ls 7 [(0, .ref (bR 0)), (1, .ref (bC 0)), (2, .ref (bL 0)), (3, .int x3), (4, .int x4)] := hl
  have htu : ∀ w ∈ UW, w.before _ s = true := fun w h => hts w (List.mem_cons_of_mem _ h)
  have k_1_68 := htu _ mw_1_68
  have k_1_237 := htu _ mw_1_237
  have k_1_224 := htu _ mw_1_224
  have k_1_83 := htu _ mw_1_83
  have k_1_238 := htu _ mw_1_238
  have k_1_226 := htu _ mw_1_226
  unfold f_X3_store at hf
  obtain ⟨H, hH⟩ : ∃ z, z = s.heap := ⟨_, rfl⟩
  obtain ⟨locs, hlo⟩ : ∃ z : List Loc, z = [] := ⟨_, rfl⟩
  have hS : va_S A s.heap H locs := by rw [hH, hlo]; exact hS
  rw [← hH] at hP
  have hW : W p l e (headSpec wsX3_store rmX3_store).room s m ([.ref (bR 0), .ref (bC 0), .ref (bL 0), .int x3, .int x4] : List Value).toArray below meth c H locs 0 0 (MQ below (qV g A (cR g bR nR qR0 qR1 vR1 ++ (cC g bC vC ++ (cL g bL vL)))) ([.ref (bR 0), .ref (bC 0), .ref (bL 0), .int x3, .int x4] : List Value).toArray s 0 0 A) (F0 m 0 ls []) := by
    refine lv_iconst (v := (0 : Int32)) hx hb dX3_store_0 (by decide) ?_
    refine lv_istore (lv' := [(5, .int (0 : Int32)), (0, .ref (bR 0)), (1, .ref (bC 0)), (2, .ref (bL 0)), (3, .int x3), (4, .int x4)]) hx hb dX3_store_1 hl (by decide) rfl (fun ls hl => ?_)
    have hL4 : ∀ (x5_1 : Int32) (vR_2 : Vs), lp (f_X3_store_L3 nR vC vL x3 x4) (fun _ _ => none) FU x5_1 vR_2 = some vR1 → ∀ (H : Heap) (locs : List Loc), va_P g.1 vwCl (cR g bR nR qR0 qR1 vR_2 ++ (cC g bC vC ++ (cL g bL vL))) H → va_D A (cR g bR nR qR0 qR1 vR_2 ++ (cC g bC vC ++ (cL g bL vL))) → va_S A s.heap H locs → ∀ ls : Array Slot, lv_has ls 7 [(0, .ref (bR 0)), (1, .ref (bC 0)), (2, .ref (bL 0)), (3, .int x3), (4, .int x4), (5, .int x5_1)] → W p l e (headSpec wsX3_store rmX3_store).room s m ([.ref (bR 0), .ref (bC 0), .ref (bL 0), .int x3, .int x4] : List Value).toArray below meth c H locs 0 0 (MQ below (qV g A (cR g bR nR qR0 qR1 vR1 ++ (cC g bC vC ++ (cL g bL vL)))) ([.ref (bR 0), .ref (bC 0), .ref (bL 0), .int x3, .int x4] : List Value).toArray s 0 0 A) (F0 m 3 ls []) := by
      refine lp_ind (T := Int32 → Vs → Option (Vs)) (fun self3 => ∀ (x5_1 : Int32) (vR_2 : Vs), self3 x5_1 vR_2 = some vR1 → ∀ (H : Heap) (locs : List Loc), va_P g.1 vwCl (cR g bR nR qR0 qR1 vR_2 ++ (cC g bC vC ++ (cL g bL vL))) H → va_D A (cR g bR nR qR0 qR1 vR_2 ++ (cC g bC vC ++ (cL g bL vL))) → va_S A s.heap H locs → ∀ ls : Array Slot, lv_has ls 7 [(0, .ref (bR 0)), (1, .ref (bC 0)), (2, .ref (bL 0)), (3, .int x3), (4, .int x4), (5, .int x5_1)] → W p l e (headSpec wsX3_store rmX3_store).room s m ([.ref (bR 0), .ref (bC 0), .ref (bL 0), .int x3, .int x4] : List Value).toArray below meth c H locs 0 0 (MQ below (qV g A (cR g bR nR qR0 qR1 vR1 ++ (cC g bC vC ++ (cL g bL vL)))) ([.ref (bR 0), .ref (bC 0), .ref (bL 0), .int x3, .int x4] : List Value).toArray s 0 0 A) (F0 m 3 ls [])) ?_ ?_ FU
      · intro x5_1 vR_2 hf; cases hf
      · intro self3 ih5 x5_1 vR_2 hf H locs hP hD hS ls hl
        unfold f_X3_store_L3 at hf
        refine lv_iload hx hb dX3_store_3 (lv_at hl 5 rfl) ?_
        refine lv_aload_n hx hb dX3_store_5 rfl (lv_at hl 1 rfl) ?_
        refine va_get (D := g.1) (ci := 0) (fs := fcC bC vC) (v := .int (vC.1 2)) (C := RX0) (T := TX0) (N := 14) hx hb htu hinX0 hown hK hP 3 rfl rfl 2 (by decide) k_1_68 (fun _ h9 => h9) rfl dX3_store_6 ?_
        refine lv_icmp_ge (tgt := 67) hx hb dX3_store_9 (by decide) (fun c6 => ?_) (fun c6 => ?_)
        · have hf := it_t hf c6
          have e7 := Option.some.inj hf
          rw [e7] at hP hD
          exact k_vret hx hb hr hlocks hK hP hD hS dX3_store_67
        · have hf := it_f hf c6
          refine lv_aload_n hx hb dX3_store_12 rfl (lv_at hl 0 rfl) ?_
          refine lv_iload_n hx hb dX3_store_13 rfl (lv_at hl 3 rfl) ?_
          refine lv_iload hx hb dX3_store_14 (lv_at hl 5 rfl) ?_
          refine lv_iload hx hb dX3_store_16 (lv_at hl 4 rfl) ?_
          obtain ⟨r8, hg9, hf⟩ := o1_at hf
          refine k_viP ⟨hx, hb, hml, hown, htu⟩ hK hP hD hS hA hG (c_X3_rowOf l g bR nR qR0 qR1 vR_2 x3 x5_1 x4 r8 hg9) (cwV 3 htu (gU_V mw_2_98 hcX3_rowOf) rfl rfl rfl hdX3_rowOf ⟨Nat.le_of_ble_eq_true rfl, Nat.le_of_ble_eq_true rfl⟩) (q0 := 0) (ci := 3) (fs := fcR bR qR0 qR1 vR_2) (q := (RX3, TX3, 5)) rfl rfl rfl (wr := (cC g bC vC ++ (cL g bL vL))) (w2 := cR g bR nR qR0 qR1 vR_2 ++ (cC g bC vC ++ (cL g bL vL))) [0, 1, 2] [3, 4, 5, 6, 7, 8, 9, 10, 11, 12, 13, 14, 15, 16] [14, 15, 16, 0, 1, 2, 3, 4, 5, 6, 7, 8, 9, 10, 11, 12, 13] rfl rfl (by decide) (by decide) (by decide) rfl rfl (by decide) (As := [.int x3, .int x5_1, .int x4]) (rest := []) rfl rfl hl.1 (Nat.le_of_ble_eq_true rfl) dX3_store_18 (k1 := 0) (n1 := 0) rfl rfl ⟨Nat.zero_le _, Nat.zero_le _⟩ (fun H locs hP hD hS => ?_)
          refine lv_istore (lv' := [(6, .int r8), (0, .ref (bR 0)), (1, .ref (bC 0)), (2, .ref (bL 0)), (3, .int x3), (4, .int x4), (5, .int x5_1)]) hx hb dX3_store_21 hl (by decide) rfl (fun ls hl => ?_)
          refine lv_aload_n hx hb dX3_store_23 rfl (lv_at hl 1 rfl) ?_
          refine va_get (D := g.1) (ci := 3) (fs := fcR bR qR0 qR1 vR_2) (v := .ref (bR 3)) (C := RX3) (T := TX3) (N := 5) hx hb htu hinX3 hown hK hP 0 rfl rfl 2 (by decide) k_1_237 (fun _ h9 => h9) rfl dX3_store_24 ?_
          refine lv_iload hx hb dX3_store_27 (lv_at hl 0 rfl) ?_
          refine lv_aload_n hx hb dX3_store_29 rfl (lv_at hl 3 rfl) ?_
          refine va_get (D := g.1) (ci := 2) (fs := fcL bL vL) (v := .ref (bL 1)) (C := RX2) (T := TX2) (N := 2) hx hb htu hinX2 hown hK hP 14 rfl rfl 0 (by decide) k_1_224 (fun _ h9 => h9) rfl dX3_store_30 ?_
          refine lv_aload_n hx hb dX3_store_33 rfl (lv_at hl 2 rfl) ?_
          refine va_get (D := g.1) (ci := 0) (fs := fcC bC vC) (v := .ref (bC 11)) (C := RX0) (T := TX0) (N := 14) hx hb htu hinX0 hown hK hP 3 rfl rfl 10 (by decide) k_1_83 (fun _ h9 => h9) rfl dX3_store_34 ?_
          refine lv_iload hx hb dX3_store_37 (lv_at hl 6 rfl) ?_
          obtain ⟨h10, hf⟩ := gd_in hf
          refine va_iald (D := g.1) (f := (vC.2.1 10)) hx hb hK hP 10 0 rfl rfl h10 dX3_store_39 ?_
          obtain ⟨h11, hf⟩ := gd_in hf
          refine va_lald (D := g.1) (f := (vL.2.2 0)) hx hb hK hP 15 1 rfl rfl h11 dX3_store_40 ?_
          obtain ⟨h12, hf⟩ := gd_in hf
          refine va_last (D := g.1) (f := (vR_2.2.2 2)) hx hb hK hP hD hS 1 1 rfl rfl h12 dX3_store_41 (fun H locs hP hD hS => ?_)
          obtain ⟨vR_13, evR_13⟩ : ∃ z, z = sJ vR_2 2 (r8).toNatClampNeg (vL.2.2 0 ((vC.2.1 10 (x5_1).toNatClampNeg)).toNatClampNeg) := ⟨_, rfl⟩
          have hf := bn_at hf evR_13
          have hP : va_P g.1 vwCl (cR g bR nR qR0 qR1 vR_13 ++ (cC g bC vC ++ (cL g bL vL))) H := by rw [evR_13]; exact hP
          have hD : va_D A (cR g bR nR qR0 qR1 vR_13 ++ (cC g bC vC ++ (cL g bL vL))) := by rw [evR_13]; exact hD
          refine lv_aload_n hx hb dX3_store_42 rfl (lv_at hl 1 rfl) ?_
          refine va_get (D := g.1) (ci := 3) (fs := fcR bR qR0 qR1 vR_13) (v := .ref (bR 4)) (C := RX3) (T := TX3) (N := 5) hx hb htu hinX3 hown hK hP 0 rfl rfl 3 (by decide) k_1_238 (fun _ h9 => h9) rfl dX3_store_43 ?_
          refine lv_iload hx hb dX3_store_46 (lv_at hl 0 rfl) ?_
          refine lv_aload_n hx hb dX3_store_48 rfl (lv_at hl 3 rfl) ?_
          refine va_get (D := g.1) (ci := 2) (fs := fcL bL vL) (v := .ref (bL 2)) (C := RX2) (T := TX2) (N := 2) hx hb htu hinX2 hown hK hP 14 rfl rfl 1 (by decide) k_1_226 (fun _ h9 => h9) rfl dX3_store_49 ?_
          refine lv_aload_n hx hb dX3_store_52 rfl (lv_at hl 2 rfl) ?_
          refine va_get (D := g.1) (ci := 0) (fs := fcC bC vC) (v := .ref (bC 11)) (C := RX0) (T := TX0) (N := 14) hx hb htu hinX0 hown hK hP 3 rfl rfl 10 (by decide) k_1_83 (fun _ h9 => h9) rfl dX3_store_53 ?_
          refine lv_iload hx hb dX3_store_56 (lv_at hl 6 rfl) ?_
          obtain ⟨h14, hf⟩ := gd_in hf
          refine va_iald (D := g.1) (f := (vC.2.1 10)) hx hb hK hP 10 0 rfl rfl h14 dX3_store_58 ?_
          obtain ⟨h15, hf⟩ := gd_in hf
          refine va_lald (D := g.1) (f := (vL.2.2 1)) hx hb hK hP 16 1 rfl rfl h15 dX3_store_59 ?_
          obtain ⟨h16, hf⟩ := gd_in hf
          refine va_last (D := g.1) (f := (vR_13.2.2 3)) hx hb hK hP hD hS 2 1 rfl rfl h16 dX3_store_60 (fun H locs hP hD hS => ?_)
          obtain ⟨vR_17, evR_17⟩ : ∃ z, z = sJ vR_13 3 (r8).toNatClampNeg (vL.2.2 1 ((vC.2.1 10 (x5_1).toNatClampNeg)).toNatClampNeg) := ⟨_, rfl⟩
          have hf := bn_at hf evR_17
          have hP : va_P g.1 vwCl (cR g bR nR qR0 qR1 vR_17 ++ (cC g bC vC ++ (cL g bL vL))) H := by rw [evR_17]; exact hP
          have hD : va_D A (cR g bR nR qR0 qR1 vR_17 ++ (cC g bC vC ++ (cL g bL vL))) := by rw [evR_17]; exact hD
          refine lv_iinc (v := (x5_1 + (1 : Int32))) (lv' := [(5, .int (x5_1 + (1 : Int32))), (6, .int r8), (0, .ref (bR 0)), (1, .ref (bC 0)), (2, .ref (bL 0)), (3, .int x3), (4, .int x4)]) hx hb dX3_store_61 hl (k := 6) rfl rfl (by decide) rfl (fun ls hl => ?_)
          refine lv_goto (tgt := 3) hx hb dX3_store_64 (by decide) ?_
          exact ih5 (x5_1 + (1 : Int32)) vR_17 hf H locs hP hD hS _ (lv_sub hl [2, 3, 4, 5, 6, 0] rfl)
    exact hL4 (0 : Int32) vR hf H locs hP hD hS _ (lv_sub hl [1, 2, 3, 4, 5, 0] rfl)
  rw [hH, hlo] at hW
  exact hW
def f_X3_work_L27 (nR : Nat) (vC : Vs) (x2 : Int32) (r1 : Int32) (vG_3 : Vs) (self10 : Int32 → Vs → Vs → Option (Vs × Vs × Vs)) (x4_7 : Int32) (vR_8 : Vs) (vB_9 : Vs) : Option (Vs × Vs × Vs) :=
  if r1 ≤ x4_7 then some (vR_8, vG_3, vB_9) else o1 (f_X2_runFault vB_9 vC vG_3 x4_7) (fun (vB_17 : Vs) => o1 (f_X3_store nR vR_8 vC vB_17 x4_7 x2) (fun (vR_19 : Vs) => self10 (x4_7 + (1 : Int32)) vR_19 vB_17))
def f_X3_work (nR : Nat) (vR : Vs) (vG : Vs) (vB : Vs) (vC : Vs) (x2 : Int32) : Option (Vs × Vs × Vs) :=
  o1 (f_X0_faultCount vC) (fun (r1 : Int32) => o1 (f_X2_runGates vG vC) (fun (vG_3 : Vs) => o1 (f_X3_store nR vR vC vG_3 (-1 : Int32) x2) (fun (vR_5 : Vs) => lp (f_X3_work_L27 nR vC x2 r1 vG_3) (fun _ _ _ => none) FU (0 : Int32) vR_5 vB)))
abbrev wsX3_work : List Cond := .code yX3_work cX3_work 5 none :: UW
abbrev rmX3_work : Room := { frames := 2, cells := 0, slots := 0, locals := 60 }
set_option maxHeartbeats 4000000 in
set_option maxRecDepth 100000 in
theorem c_X3_work (l : Launch) (g : Gx) (bR : Nat → Nat) (nR : Nat) (vR : Vs) (bG : Nat → Nat) (vG : Vs) (bB : Nat → Nat) (vB : Vs) (bC : Nat → Nat) (vC : Vs) (x2 : Int32) (vR1 : Vs) (vG1 : Vs) (vB1 : Vs) (hf : f_X3_work nR vR vG vB vC x2 = some (vR1, vG1, vB1)) : CtV l yX3_work wsX3_work rmX3_work g [.ref (bR 0), .ref (bC 0), .int x2] (cR g bR nR (bG 0) (bB 0) vR ++ (cL g bG vG ++ (cL g bB vB ++ (cC g bC vC)))) (cR g bR nR (bG 0) (bB 0) vR1 ++ (cL g bG vG1 ++ (cL g bB vB1 ++ (cC g bC vC)))) 0 0 := by
  unfold CtV
  intro sz
  refine Met.ofW (cc := cX3_work) (maxL := 5) (ret := none) (by decide) rfl ?_
  intro p e s m args below meth c s₁ B hml hv
  obtain ⟨rfl, hsz, hP, hK, hD0, hG⟩ := hv
  have hx := B.exec
  have hb := B.bytes
  have hr := B.returns
  have hts := atoms_spec (ws := wsX3_work) B.pre
  have hown : s.vm.findClass RX3 = some m.cls := findClass_of_methodNamed B.named
  have hlocks := B.notSynchronized
  subst hsz
  have hD := hD0.self (sz := s.heap.size)
  generalize hAe : va_A (cR g bR nR (bG 0) (bB 0) vR ++ (cL g bG vG ++ (cL g bB vB ++ (cC g bC vC)))) s.heap.size = A at hD hG ⊢
  have hA : ∀ q : Nat, s.heap.size ≤ q → A q := fun q h => by rw [← hAe]; exact Or.inr h
  clear hAe hD0
  have hS : va_S A s.heap s.heap [] := va_S.rf
  have hl := lv_entry ([.ref (bR 0), .ref (bC 0), .int x2]) (n := 5) (Nat.le_of_ble_eq_true rfl)
  rw [lg_entry_eq]
  generalize (lg_sl ([.ref (bR 0), .ref (bC 0), .int x2]) ++ List.replicate (5 - (lg_sl ([.ref (bR 0), .ref (bC 0), .int x2])).length) Slot.unset).toArray = ls at hl ⊢
  have hl : lv_has ls 5 [(0, .ref (bR 0)), (1, .ref (bC 0)), (2, .int x2)] := hl
  have htu : ∀ w ∈ UW, w.before _ s = true := fun w h => hts w (List.mem_cons_of_mem _ h)
  have k_1_233 := htu _ mw_1_233
  have k_1_235 := htu _ mw_1_235
  unfold f_X3_work at hf
  obtain ⟨H, hH⟩ : ∃ z, z = s.heap := ⟨_, rfl⟩
  obtain ⟨locs, hlo⟩ : ∃ z : List Loc, z = [] := ⟨_, rfl⟩
  have hS : va_S A s.heap H locs := by rw [hH, hlo]; exact hS
  rw [← hH] at hP
  have hW : W p l e (headSpec wsX3_work rmX3_work).room s m ([.ref (bR 0), .ref (bC 0), .int x2] : List Value).toArray below meth c H locs 0 0 (MQ below (qV g A (cR g bR nR (bG 0) (bB 0) vR1 ++ (cL g bG vG1 ++ (cL g bB vB1 ++ (cC g bC vC))))) ([.ref (bR 0), .ref (bC 0), .int x2] : List Value).toArray s 0 0 A) (F0 m 0 ls []) := by
    refine lv_aload_n hx hb dX3_work_0 rfl (lv_at hl 1 rfl) ?_
    obtain ⟨r1, hg2, hf⟩ := o1_at hf
    refine k_viP ⟨hx, hb, hml, hown, htu⟩ hK hP hD hS hA hG (c_X0_faultCount l g bC vC r1 hg2) (cwV 0 htu (gU_V mw_2_85 hcX0_faultCount) rfl rfl rfl hdX0_faultCount ⟨Nat.le_of_ble_eq_true rfl, Nat.le_of_ble_eq_true rfl⟩) (q0 := 9) (ci := 0) (fs := fcC bC vC) (q := (RX0, TX0, 14)) rfl rfl rfl (wr := (cR g bR nR (bG 0) (bB 0) vR ++ (cL g bG vG ++ (cL g bB vB)))) (w2 := cR g bR nR (bG 0) (bB 0) vR ++ (cL g bG vG ++ (cL g bB vB ++ (cC g bC vC)))) [9, 10, 11, 12, 13, 14, 15, 16, 17, 18, 19] [0, 1, 2, 3, 4, 5, 6, 7, 8] [0, 1, 2, 3, 4, 5, 6, 7, 8, 9, 10, 11, 12, 13, 14, 15, 16, 17, 18, 19] rfl rfl (by decide) (by decide) (by decide) rfl rfl (by decide) (As := []) (rest := []) rfl rfl hl.1 (Nat.le_of_ble_eq_true rfl) dX3_work_1 (k1 := 0) (n1 := 0) rfl rfl ⟨Nat.zero_le _, Nat.zero_le _⟩ (fun H locs hP hD hS => ?_)
    refine lv_istore_n (lv' := [(3, .int r1), (0, .ref (bR 0)), (1, .ref (bC 0)), (2, .int x2)]) hx hb dX3_work_4 rfl hl (by decide) rfl (fun ls hl => ?_)
    refine lv_aload_n hx hb dX3_work_5 rfl (lv_at hl 1 rfl) ?_
    refine va_get (D := g.1) (ci := 3) (fs := fcR bR (bG 0) (bB 0) vR) (v := .ref (bG 0)) (C := RX3) (T := TX3) (N := 5) hx hb htu hinX3 hown hK hP 0 rfl rfl 0 (by decide) k_1_233 (fun _ h9 => h9) rfl dX3_work_6 ?_
    refine lv_aload_n hx hb dX3_work_9 rfl (lv_at hl 2 rfl) ?_
    obtain ⟨vG_3, hg4, hf⟩ := o1_at hf
    refine k_vvP ⟨hx, hb, hml, hown, htu⟩ hK hP hD hS hA hG (c_X2_runGates l g bG vG bC vC vG_3 hg4) (cwV 1 htu (gU_V mw_2_86 hcX2_runGates) rfl rfl rfl hdX2_runGates ⟨Nat.le_of_ble_eq_true rfl, Nat.le_of_ble_eq_true rfl⟩) (q0 := 3) (ci := 2) (fs := fcL bG vG) (q := (RX2, TX2, 2)) rfl rfl rfl (wr := (cR g bR nR (bG 0) (bB 0) vR ++ (cL g bB vB))) (w2 := cR g bR nR (bG 0) (bB 0) vR ++ (cL g bG vG_3 ++ (cL g bB vB ++ (cC g bC vC)))) [3, 4, 5, 9, 10, 11, 12, 13, 14, 15, 16, 17, 18, 19] [0, 1, 2, 6, 7, 8] [0, 1, 2, 6, 7, 8, 3, 4, 5, 9, 10, 11, 12, 13, 14, 15, 16, 17, 18, 19] rfl rfl (by decide) (by decide) (by decide) rfl rfl (by decide) (As := [.ref (bC 0)]) (rest := []) rfl rfl hl.1 (Nat.le_of_ble_eq_true rfl) dX3_work_10 (k1 := 0) (n1 := 0) rfl rfl ⟨Nat.zero_le _, Nat.zero_le _⟩ (fun H locs hP hD hS => ?_)
    refine lv_aload_n hx hb dX3_work_13 rfl (lv_at hl 1 rfl) ?_
    refine lv_aload_n hx hb dX3_work_14 rfl (lv_at hl 2 rfl) ?_
    refine lv_aload_n hx hb dX3_work_15 rfl (lv_at hl 1 rfl) ?_
    refine va_get (D := g.1) (ci := 3) (fs := fcR bR (bG 0) (bB 0) vR) (v := .ref (bG 0)) (C := RX3) (T := TX3) (N := 5) hx hb htu hinX3 hown hK hP 0 rfl rfl 0 (by decide) k_1_233 (fun _ h9 => h9) rfl dX3_work_16 ?_
    refine lv_iconst (v := (-1 : Int32)) hx hb dX3_work_19 (by decide) ?_
    refine lv_iload_n hx hb dX3_work_20 rfl (lv_at hl 3 rfl) ?_
    obtain ⟨vR_5, hg6, hf⟩ := o1_at hf
    refine k_vvP ⟨hx, hb, hml, hown, htu⟩ hK hP hD hS hA hG (c_X3_store l g bR nR (bG 0) (bB 0) vR bC vC bG vG_3 (-1 : Int32) x2 vR_5 hg6) (cwV 4 htu (gU_V mw_2_94 hcX3_store) rfl rfl rfl hdX3_store ⟨Nat.le_of_ble_eq_true rfl, Nat.le_of_ble_eq_true rfl⟩) (q0 := 0) (ci := 3) (fs := fcR bR (bG 0) (bB 0) vR) (q := (RX3, TX3, 5)) rfl rfl rfl (wr := (cL g bB vB)) (w2 := cR g bR nR (bG 0) (bB 0) vR_5 ++ (cL g bG vG_3 ++ (cL g bB vB ++ (cC g bC vC)))) [0, 1, 2, 9, 10, 11, 12, 13, 14, 15, 16, 17, 18, 19, 3, 4, 5] [6, 7, 8] [3, 4, 5, 17, 18, 19, 0, 1, 2, 6, 7, 8, 9, 10, 11, 12, 13, 14, 15, 16] rfl rfl (by decide) (by decide) (by decide) rfl rfl (by decide) (As := [.ref (bC 0), .ref (bG 0), .int (-1 : Int32), .int x2]) (rest := []) rfl rfl hl.1 (Nat.le_of_ble_eq_true rfl) dX3_work_21 (k1 := 0) (n1 := 0) rfl rfl ⟨Nat.zero_le _, Nat.zero_le _⟩ (fun H locs hP hD hS => ?_)
    refine lv_iconst (v := (0 : Int32)) hx hb dX3_work_24 (by decide) ?_
    refine lv_istore (lv' := [(4, .int (0 : Int32)), (3, .int r1), (0, .ref (bR 0)), (1, .ref (bC 0)), (2, .int x2)]) hx hb dX3_work_25 hl (by decide) rfl (fun ls hl => ?_)
    have hL11 : ∀ (x4_7 : Int32) (vR_8 : Vs) (vB_9 : Vs), lp (f_X3_work_L27 nR vC x2 r1 vG_3) (fun _ _ _ => none) FU x4_7 vR_8 vB_9 = some (vR1, vG1, vB1) → ∀ (H : Heap) (locs : List Loc), va_P g.1 vwCl (cR g bR nR (bG 0) (bB 0) vR_8 ++ (cL g bG vG_3 ++ (cL g bB vB_9 ++ (cC g bC vC)))) H → va_D A (cR g bR nR (bG 0) (bB 0) vR_8 ++ (cL g bG vG_3 ++ (cL g bB vB_9 ++ (cC g bC vC)))) → va_S A s.heap H locs → ∀ ls : Array Slot, lv_has ls 5 [(0, .ref (bR 0)), (1, .ref (bC 0)), (2, .int x2), (3, .int r1), (4, .int x4_7)] → W p l e (headSpec wsX3_work rmX3_work).room s m ([.ref (bR 0), .ref (bC 0), .int x2] : List Value).toArray below meth c H locs 0 0 (MQ below (qV g A (cR g bR nR (bG 0) (bB 0) vR1 ++ (cL g bG vG1 ++ (cL g bB vB1 ++ (cC g bC vC))))) ([.ref (bR 0), .ref (bC 0), .int x2] : List Value).toArray s 0 0 A) (F0 m 27 ls []) := by
      refine lp_ind (T := Int32 → Vs → Vs → Option (Vs × Vs × Vs)) (fun self10 => ∀ (x4_7 : Int32) (vR_8 : Vs) (vB_9 : Vs), self10 x4_7 vR_8 vB_9 = some (vR1, vG1, vB1) → ∀ (H : Heap) (locs : List Loc), va_P g.1 vwCl (cR g bR nR (bG 0) (bB 0) vR_8 ++ (cL g bG vG_3 ++ (cL g bB vB_9 ++ (cC g bC vC)))) H → va_D A (cR g bR nR (bG 0) (bB 0) vR_8 ++ (cL g bG vG_3 ++ (cL g bB vB_9 ++ (cC g bC vC)))) → va_S A s.heap H locs → ∀ ls : Array Slot, lv_has ls 5 [(0, .ref (bR 0)), (1, .ref (bC 0)), (2, .int x2), (3, .int r1), (4, .int x4_7)] → W p l e (headSpec wsX3_work rmX3_work).room s m ([.ref (bR 0), .ref (bC 0), .int x2] : List Value).toArray below meth c H locs 0 0 (MQ below (qV g A (cR g bR nR (bG 0) (bB 0) vR1 ++ (cL g bG vG1 ++ (cL g bB vB1 ++ (cC g bC vC))))) ([.ref (bR 0), .ref (bC 0), .int x2] : List Value).toArray s 0 0 A) (F0 m 27 ls [])) ?_ ?_ FU
      · intro x4_7 vR_8 vB_9 hf; cases hf
      · intro self10 ih12 x4_7 vR_8 vB_9 hf H locs hP hD hS ls hl
        unfold f_X3_work_L27 at hf
        refine lv_iload hx hb dX3_work_27 (lv_at hl 4 rfl) ?_
        refine lv_iload_n hx hb dX3_work_29 rfl (lv_at hl 3 rfl) ?_
        refine lv_icmp_ge (tgt := 65) hx hb dX3_work_30 (by decide) (fun c13 => ?_) (fun c13 => ?_)
        · have hf := it_t hf c13
          obtain ⟨e14, e15, e16⟩ := kp_3 hf
          rw [e14] at hP hD
          rw [e15] at hP hD
          rw [e16] at hP hD
          exact k_vret hx hb hr hlocks hK hP hD hS dX3_work_65
        · have hf := it_f hf c13
          refine lv_aload_n hx hb dX3_work_33 rfl (lv_at hl 0 rfl) ?_
          refine va_get (D := g.1) (ci := 3) (fs := fcR bR (bG 0) (bB 0) vR_8) (v := .ref (bB 0)) (C := RX3) (T := TX3) (N := 5) hx hb htu hinX3 hown hK hP 0 rfl rfl 1 (by decide) k_1_235 (fun _ h9 => h9) rfl dX3_work_34 ?_
          refine lv_aload_n hx hb dX3_work_37 rfl (lv_at hl 1 rfl) ?_
          refine lv_aload_n hx hb dX3_work_38 rfl (lv_at hl 0 rfl) ?_
          refine va_get (D := g.1) (ci := 3) (fs := fcR bR (bG 0) (bB 0) vR_8) (v := .ref (bG 0)) (C := RX3) (T := TX3) (N := 5) hx hb htu hinX3 hown hK hP 0 rfl rfl 0 (by decide) k_1_233 (fun _ h9 => h9) rfl dX3_work_39 ?_
          refine lv_iload hx hb dX3_work_42 (lv_at hl 4 rfl) ?_
          obtain ⟨vB_17, hg18, hf⟩ := o1_at hf
          refine k_vvP ⟨hx, hb, hml, hown, htu⟩ hK hP hD hS hA hG (c_X2_runFault l g bB vB_9 bC vC bG vG_3 x4_7 vB_17 hg18) (cwV 3 htu (gU_V mw_2_102 hcX2_runFault) rfl rfl rfl hdX2_runFault ⟨Nat.le_of_ble_eq_true rfl, Nat.le_of_ble_eq_true rfl⟩) (q0 := 6) (ci := 2) (fs := fcL bB vB_9) (q := (RX2, TX2, 2)) rfl rfl rfl (wr := (cR g bR nR (bG 0) (bB 0) vR_8)) (w2 := cR g bR nR (bG 0) (bB 0) vR_8 ++ (cL g bG vG_3 ++ (cL g bB vB_17 ++ (cC g bC vC)))) [6, 7, 8, 9, 10, 11, 12, 13, 14, 15, 16, 17, 18, 19, 3, 4, 5] [0, 1, 2] [0, 1, 2, 17, 18, 19, 3, 4, 5, 6, 7, 8, 9, 10, 11, 12, 13, 14, 15, 16] rfl rfl (by decide) (by decide) (by decide) rfl rfl (by decide) (As := [.ref (bC 0), .ref (bG 0), .int x4_7]) (rest := []) rfl rfl hl.1 (Nat.le_of_ble_eq_true rfl) dX3_work_44 (k1 := 0) (n1 := 0) rfl rfl ⟨Nat.zero_le _, Nat.zero_le _⟩ (fun H locs hP hD hS => ?_)
          refine lv_aload_n hx hb dX3_work_47 rfl (lv_at hl 0 rfl) ?_
          refine lv_aload_n hx hb dX3_work_48 rfl (lv_at hl 1 rfl) ?_
          refine lv_aload_n hx hb dX3_work_49 rfl (lv_at hl 0 rfl) ?_
          refine va_get (D := g.1) (ci := 3) (fs := fcR bR (bG 0) (bB 0) vR_8) (v := .ref (bB 0)) (C := RX3) (T := TX3) (N := 5) hx hb htu hinX3 hown hK hP 0 rfl rfl 1 (by decide) k_1_235 (fun _ h9 => h9) rfl dX3_work_50 ?_
          refine lv_iload hx hb dX3_work_53 (lv_at hl 4 rfl) ?_
          refine lv_iload_n hx hb dX3_work_55 rfl (lv_at hl 2 rfl) ?_
          obtain ⟨vR_19, hg20, hf⟩ := o1_at hf
          refine k_vvP ⟨hx, hb, hml, hown, htu⟩ hK hP hD hS hA hG (c_X3_store l g bR nR (bG 0) (bB 0) vR_8 bC vC bB vB_17 x4_7 x2 vR_19 hg20) (cwV 4 htu (gU_V mw_2_94 hcX3_store) rfl rfl rfl hdX3_store ⟨Nat.le_of_ble_eq_true rfl, Nat.le_of_ble_eq_true rfl⟩) (q0 := 0) (ci := 3) (fs := fcR bR (bG 0) (bB 0) vR_8) (q := (RX3, TX3, 5)) rfl rfl rfl (wr := (cL g bG vG_3)) (w2 := cR g bR nR (bG 0) (bB 0) vR_19 ++ (cL g bG vG_3 ++ (cL g bB vB_17 ++ (cC g bC vC)))) [0, 1, 2, 9, 10, 11, 12, 13, 14, 15, 16, 17, 18, 19, 6, 7, 8] [3, 4, 5] [3, 4, 5, 0, 1, 2, 17, 18, 19, 6, 7, 8, 9, 10, 11, 12, 13, 14, 15, 16] rfl rfl (by decide) (by decide) (by decide) rfl rfl (by decide) (As := [.ref (bC 0), .ref (bB 0), .int x4_7, .int x2]) (rest := []) rfl rfl hl.1 (Nat.le_of_ble_eq_true rfl) dX3_work_56 (k1 := 0) (n1 := 0) rfl rfl ⟨Nat.zero_le _, Nat.zero_le _⟩ (fun H locs hP hD hS => ?_)
          refine lv_iinc (v := (x4_7 + (1 : Int32))) (lv' := [(4, .int (x4_7 + (1 : Int32))), (0, .ref (bR 0)), (1, .ref (bC 0)), (2, .int x2), (3, .int r1)]) hx hb dX3_work_59 hl (k := 4) rfl rfl (by decide) rfl (fun ls hl => ?_)
          refine lv_goto (tgt := 27) hx hb dX3_work_62 (by decide) ?_
          exact ih12 (x4_7 + (1 : Int32)) vR_19 vB_17 hf H locs hP hD hS _ (lv_sub hl [1, 2, 3, 4, 0] rfl)
    exact hL11 (0 : Int32) vR_5 vB hf H locs hP hD hS _ (lv_sub hl [2, 3, 4, 1, 0] rfl)
  rw [hH, hlo] at hW
  exact hW
def f_X3_apart_L6 (nR : Nat) (vR : Vs) (vC : Vs) (x2 : Int32) (x3 : Int32) (x4 : Int32) (self3 : Int64 → Int32 → Option (Int64)) (x5_1 : Int64) (x7_2 : Int32) : Option (Int64) :=
  if (vC.1 2) ≤ x7_2 then some (x5_1) else o1 (f_X3_rowOf nR vR x2 x7_2 x4) (fun (r8 : Int32) => o1 (f_X3_rowOf nR vR x3 x7_2 x4) (fun (r10 : Int32) => gd (inb r8 nR) (gd (inb r10 nR) (gd (inb r8 nR) (gd (inb r10 nR) (bn ((x5_1 ||| (((vR.2.2 2 (r8).toNatClampNeg) &&& (vR.2.2 3 (r10).toNatClampNeg)) ||| ((vR.2.2 3 (r8).toNatClampNeg) &&& (vR.2.2 2 (r10).toNatClampNeg))))) (fun (y16 : Int64) => self3 y16 (x7_2 + (1 : Int32)))))))))
def f_X3_apart (nR : Nat) (vR : Vs) (vC : Vs) (x2 : Int32) (x3 : Int32) (x4 : Int32) : Option (Int64) :=
  lp (f_X3_apart_L6 nR vR vC x2 x3 x4) (fun _ _ => none) FU (0 : Int64) (0 : Int32)
abbrev wsX3_apart : List Cond := .code yX3_apart cX3_apart 10 (some .long) :: UW
abbrev rmX3_apart : Room := { frames := 1, cells := 0, slots := 0, locals := 23 }
set_option maxHeartbeats 4000000 in
set_option maxRecDepth 100000 in
theorem c_X3_apart (l : Launch) (g : Gx) (bR : Nat → Nat) (nR : Nat) (qR0 : Nat) (qR1 : Nat) (vR : Vs) (bC : Nat → Nat) (vC : Vs) (x2 : Int32) (x3 : Int32) (x4 : Int32) (r : Int64) (hf : f_X3_apart nR vR vC x2 x3 x4 = some r) : CtJ l yX3_apart wsX3_apart rmX3_apart g [.ref (bR 0), .ref (bC 0), .int x2, .int x3, .int x4] (cR g bR nR qR0 qR1 vR ++ (cC g bC vC)) (cR g bR nR qR0 qR1 vR ++ (cC g bC vC)) r 0 0 := by
  unfold CtJ
  intro sz
  refine Met.ofW (cc := cX3_apart) (maxL := 10) (ret := (some .long)) (by decide) rfl ?_
  intro p e s m args below meth c s₁ B hml hv
  obtain ⟨rfl, hsz, hP, hK, hD0, hG⟩ := hv
  have hx := B.exec
  have hb := B.bytes
  have hr := B.returns
  have hts := atoms_spec (ws := wsX3_apart) B.pre
  have hown : s.vm.findClass RX3 = some m.cls := findClass_of_methodNamed B.named
  have hlocks := B.notSynchronized
  subst hsz
  have hD := hD0.self (sz := s.heap.size)
  generalize hAe : va_A (cR g bR nR qR0 qR1 vR ++ (cC g bC vC)) s.heap.size = A at hD hG ⊢
  have hA : ∀ q : Nat, s.heap.size ≤ q → A q := fun q h => by rw [← hAe]; exact Or.inr h
  clear hAe hD0
  have hS : va_S A s.heap s.heap [] := va_S.rf
  have hl := lv_entry ([.ref (bR 0), .ref (bC 0), .int x2, .int x3, .int x4]) (n := 10) (Nat.le_of_ble_eq_true rfl)
  rw [lg_entry_eq]
  generalize (lg_sl ([.ref (bR 0), .ref (bC 0), .int x2, .int x3, .int x4]) ++ List.replicate (10 - (lg_sl ([.ref (bR 0), .ref (bC 0), .int x2, .int x3, .int x4])).length) Slot.unset).toArray = ls at hl ⊢
  have hl : lv_has ls 10 [(0, .ref (bR 0)), (1, .ref (bC 0)), (2, .int x2), (3, .int x3), (4, .int x4)] := hl
  have htu : ∀ w ∈ UW, w.before _ s = true := fun w h => hts w (List.mem_cons_of_mem _ h)
  have k_1_68 := htu _ mw_1_68
  have k_1_237 := htu _ mw_1_237
  have k_1_238 := htu _ mw_1_238
  unfold f_X3_apart at hf
  obtain ⟨H, hH⟩ : ∃ z, z = s.heap := ⟨_, rfl⟩
  obtain ⟨locs, hlo⟩ : ∃ z : List Loc, z = [] := ⟨_, rfl⟩
  have hS : va_S A s.heap H locs := by rw [hH, hlo]; exact hS
  rw [← hH] at hP
  have hW : W p l e (headSpec wsX3_apart rmX3_apart).room s m ([.ref (bR 0), .ref (bC 0), .int x2, .int x3, .int x4] : List Value).toArray below meth c H locs 0 0 (MQ below (qJ g A (cR g bR nR qR0 qR1 vR ++ (cC g bC vC)) r) ([.ref (bR 0), .ref (bC 0), .int x2, .int x3, .int x4] : List Value).toArray s 0 0 A) (F0 m 0 ls []) := by
    refine lv_lconst (v := (0 : Int64)) hx hb dX3_apart_0 (by decide) ?_
    refine lv_lstore (lv' := [(5, .long (0 : Int64)), (0, .ref (bR 0)), (1, .ref (bC 0)), (2, .int x2), (3, .int x3), (4, .int x4)]) hx hb dX3_apart_1 hl (by decide) rfl (fun ls hl => ?_)
    refine lv_iconst (v := (0 : Int32)) hx hb dX3_apart_3 (by decide) ?_
    refine lv_istore (lv' := [(7, .int (0 : Int32)), (5, .long (0 : Int64)), (0, .ref (bR 0)), (1, .ref (bC 0)), (2, .int x2), (3, .int x3), (4, .int x4)]) hx hb dX3_apart_4 hl (by decide) rfl (fun ls hl => ?_)
    have hL4 : ∀ (x5_1 : Int64) (x7_2 : Int32), lp (f_X3_apart_L6 nR vR vC x2 x3 x4) (fun _ _ => none) FU x5_1 x7_2 = some r → ∀ (H : Heap) (locs : List Loc), va_P g.1 vwCl (cR g bR nR qR0 qR1 vR ++ (cC g bC vC)) H → va_D A (cR g bR nR qR0 qR1 vR ++ (cC g bC vC)) → va_S A s.heap H locs → ∀ ls : Array Slot, lv_has ls 10 [(0, .ref (bR 0)), (1, .ref (bC 0)), (2, .int x2), (3, .int x3), (4, .int x4), (5, .long x5_1), (7, .int x7_2)] → W p l e (headSpec wsX3_apart rmX3_apart).room s m ([.ref (bR 0), .ref (bC 0), .int x2, .int x3, .int x4] : List Value).toArray below meth c H locs 0 0 (MQ below (qJ g A (cR g bR nR qR0 qR1 vR ++ (cC g bC vC)) r) ([.ref (bR 0), .ref (bC 0), .int x2, .int x3, .int x4] : List Value).toArray s 0 0 A) (F0 m 6 ls []) := by
      refine lp_ind (T := Int64 → Int32 → Option (Int64)) (fun self3 => ∀ (x5_1 : Int64) (x7_2 : Int32), self3 x5_1 x7_2 = some r → ∀ (H : Heap) (locs : List Loc), va_P g.1 vwCl (cR g bR nR qR0 qR1 vR ++ (cC g bC vC)) H → va_D A (cR g bR nR qR0 qR1 vR ++ (cC g bC vC)) → va_S A s.heap H locs → ∀ ls : Array Slot, lv_has ls 10 [(0, .ref (bR 0)), (1, .ref (bC 0)), (2, .int x2), (3, .int x3), (4, .int x4), (5, .long x5_1), (7, .int x7_2)] → W p l e (headSpec wsX3_apart rmX3_apart).room s m ([.ref (bR 0), .ref (bC 0), .int x2, .int x3, .int x4] : List Value).toArray below meth c H locs 0 0 (MQ below (qJ g A (cR g bR nR qR0 qR1 vR ++ (cC g bC vC)) r) ([.ref (bR 0), .ref (bC 0), .int x2, .int x3, .int x4] : List Value).toArray s 0 0 A) (F0 m 6 ls [])) ?_ ?_ FU
      · intro x5_1 x7_2 hf; cases hf
      · intro self3 ih5 x5_1 x7_2 hf H locs hP hD hS ls hl
        unfold f_X3_apart_L6 at hf
        refine lv_iload hx hb dX3_apart_6 (lv_at hl 6 rfl) ?_
        refine lv_aload_n hx hb dX3_apart_8 rfl (lv_at hl 1 rfl) ?_
        refine va_get (D := g.1) (ci := 0) (fs := fcC bC vC) (v := .int (vC.1 2)) (C := RX0) (T := TX0) (N := 14) hx hb htu hinX0 hown hK hP 3 rfl rfl 2 (by decide) k_1_68 (fun _ h9 => h9) rfl dX3_apart_9 ?_
        refine lv_icmp_ge (tgt := 79) hx hb dX3_apart_12 (by decide) (fun c6 => ?_) (fun c6 => ?_)
        · have hf := it_t hf c6
          refine lv_lload hx hb dX3_apart_79 (lv_at hl 5 rfl) ?_
          have e7 := Option.some.inj hf
          exact k_lret hx hb hr hlocks hK hP hD hS e7 dX3_apart_81
        · have hf := it_f hf c6
          refine lv_aload_n hx hb dX3_apart_15 rfl (lv_at hl 0 rfl) ?_
          refine lv_iload_n hx hb dX3_apart_16 rfl (lv_at hl 2 rfl) ?_
          refine lv_iload hx hb dX3_apart_17 (lv_at hl 6 rfl) ?_
          refine lv_iload hx hb dX3_apart_19 (lv_at hl 4 rfl) ?_
          obtain ⟨r8, hg9, hf⟩ := o1_at hf
          refine k_viP ⟨hx, hb, hml, hown, htu⟩ hK hP hD hS hA hG (c_X3_rowOf l g bR nR qR0 qR1 vR x2 x7_2 x4 r8 hg9) (cwV 3 htu (gU_V mw_2_98 hcX3_rowOf) rfl rfl rfl hdX3_rowOf ⟨Nat.le_of_ble_eq_true rfl, Nat.le_of_ble_eq_true rfl⟩) (q0 := 0) (ci := 3) (fs := fcR bR qR0 qR1 vR) (q := (RX3, TX3, 5)) rfl rfl rfl (wr := (cC g bC vC)) (w2 := cR g bR nR qR0 qR1 vR ++ (cC g bC vC)) [0, 1, 2] [3, 4, 5, 6, 7, 8, 9, 10, 11, 12, 13] [11, 12, 13, 0, 1, 2, 3, 4, 5, 6, 7, 8, 9, 10] rfl rfl (by decide) (by decide) (by decide) rfl rfl (by decide) (As := [.int x2, .int x7_2, .int x4]) (rest := []) rfl rfl hl.1 (Nat.le_of_ble_eq_true rfl) dX3_apart_21 (k1 := 0) (n1 := 0) rfl rfl ⟨Nat.zero_le _, Nat.zero_le _⟩ (fun H locs hP hD hS => ?_)
          refine lv_istore (lv' := [(8, .int r8), (0, .ref (bR 0)), (1, .ref (bC 0)), (2, .int x2), (3, .int x3), (4, .int x4), (5, .long x5_1), (7, .int x7_2)]) hx hb dX3_apart_24 hl (by decide) rfl (fun ls hl => ?_)
          refine lv_aload_n hx hb dX3_apart_26 rfl (lv_at hl 1 rfl) ?_
          refine lv_iload_n hx hb dX3_apart_27 rfl (lv_at hl 4 rfl) ?_
          refine lv_iload hx hb dX3_apart_28 (lv_at hl 7 rfl) ?_
          refine lv_iload hx hb dX3_apart_30 (lv_at hl 5 rfl) ?_
          obtain ⟨r10, hg11, hf⟩ := o1_at hf
          refine k_viP ⟨hx, hb, hml, hown, htu⟩ hK hP hD hS hA hG (c_X3_rowOf l g bR nR qR0 qR1 vR x3 x7_2 x4 r10 hg11) (cwV 3 htu (gU_V mw_2_98 hcX3_rowOf) rfl rfl rfl hdX3_rowOf ⟨Nat.le_of_ble_eq_true rfl, Nat.le_of_ble_eq_true rfl⟩) (q0 := 0) (ci := 3) (fs := fcR bR qR0 qR1 vR) (q := (RX3, TX3, 5)) rfl rfl rfl (wr := (cC g bC vC)) (w2 := cR g bR nR qR0 qR1 vR ++ (cC g bC vC)) [0, 1, 2] [3, 4, 5, 6, 7, 8, 9, 10, 11, 12, 13] [11, 12, 13, 0, 1, 2, 3, 4, 5, 6, 7, 8, 9, 10] rfl rfl (by decide) (by decide) (by decide) rfl rfl (by decide) (As := [.int x3, .int x7_2, .int x4]) (rest := []) rfl rfl hl.1 (Nat.le_of_ble_eq_true rfl) dX3_apart_32 (k1 := 0) (n1 := 0) rfl rfl ⟨Nat.zero_le _, Nat.zero_le _⟩ (fun H locs hP hD hS => ?_)
          refine lv_istore (lv' := [(9, .int r10), (8, .int r8), (0, .ref (bR 0)), (1, .ref (bC 0)), (2, .int x2), (3, .int x3), (4, .int x4), (5, .long x5_1), (7, .int x7_2)]) hx hb dX3_apart_35 hl (by decide) rfl (fun ls hl => ?_)
          refine lv_lload hx hb dX3_apart_37 (lv_at hl 7 rfl) ?_
          refine lv_aload_n hx hb dX3_apart_39 rfl (lv_at hl 2 rfl) ?_
          refine va_get (D := g.1) (ci := 3) (fs := fcR bR qR0 qR1 vR) (v := .ref (bR 3)) (C := RX3) (T := TX3) (N := 5) hx hb htu hinX3 hown hK hP 0 rfl rfl 2 (by decide) k_1_237 (fun _ h9 => h9) rfl dX3_apart_40 ?_
          refine lv_iload hx hb dX3_apart_43 (lv_at hl 1 rfl) ?_
          obtain ⟨h12, hf⟩ := gd_in hf
          refine va_lald (D := g.1) (f := (vR.2.2 2)) hx hb hK hP 1 1 rfl rfl h12 dX3_apart_45 ?_
          refine lv_aload_n hx hb dX3_apart_46 rfl (lv_at hl 2 rfl) ?_
          refine va_get (D := g.1) (ci := 3) (fs := fcR bR qR0 qR1 vR) (v := .ref (bR 4)) (C := RX3) (T := TX3) (N := 5) hx hb htu hinX3 hown hK hP 0 rfl rfl 3 (by decide) k_1_238 (fun _ h9 => h9) rfl dX3_apart_47 ?_
          refine lv_iload hx hb dX3_apart_50 (lv_at hl 0 rfl) ?_
          obtain ⟨h13, hf⟩ := gd_in hf
          refine va_lald (D := g.1) (f := (vR.2.2 3)) hx hb hK hP 2 1 rfl rfl h13 dX3_apart_52 ?_
          refine lv_land hx hb dX3_apart_53 ?_
          refine lv_aload_n hx hb dX3_apart_54 rfl (lv_at hl 2 rfl) ?_
          refine va_get (D := g.1) (ci := 3) (fs := fcR bR qR0 qR1 vR) (v := .ref (bR 4)) (C := RX3) (T := TX3) (N := 5) hx hb htu hinX3 hown hK hP 0 rfl rfl 3 (by decide) k_1_238 (fun _ h9 => h9) rfl dX3_apart_55 ?_
          refine lv_iload hx hb dX3_apart_58 (lv_at hl 1 rfl) ?_
          obtain ⟨h14, hf⟩ := gd_in hf
          refine va_lald (D := g.1) (f := (vR.2.2 3)) hx hb hK hP 2 1 rfl rfl h14 dX3_apart_60 ?_
          refine lv_aload_n hx hb dX3_apart_61 rfl (lv_at hl 2 rfl) ?_
          refine va_get (D := g.1) (ci := 3) (fs := fcR bR qR0 qR1 vR) (v := .ref (bR 3)) (C := RX3) (T := TX3) (N := 5) hx hb htu hinX3 hown hK hP 0 rfl rfl 2 (by decide) k_1_237 (fun _ h9 => h9) rfl dX3_apart_62 ?_
          refine lv_iload hx hb dX3_apart_65 (lv_at hl 0 rfl) ?_
          obtain ⟨h15, hf⟩ := gd_in hf
          refine va_lald (D := g.1) (f := (vR.2.2 2)) hx hb hK hP 1 1 rfl rfl h15 dX3_apart_67 ?_
          refine lv_land hx hb dX3_apart_68 ?_
          refine lv_lor hx hb dX3_apart_69 ?_
          refine lv_lor hx hb dX3_apart_70 ?_
          refine lv_topl (fun y16 ey16 => ?_)
          have hf := bn_at hf ey16
          refine lv_lstore (lv' := [(5, .long y16), (9, .int r10), (8, .int r8), (0, .ref (bR 0)), (1, .ref (bC 0)), (2, .int x2), (3, .int x3), (4, .int x4), (7, .int x7_2)]) hx hb dX3_apart_71 hl (by decide) rfl (fun ls hl => ?_)
          refine lv_iinc (v := (x7_2 + (1 : Int32))) (lv' := [(7, .int (x7_2 + (1 : Int32))), (5, .long y16), (9, .int r10), (8, .int r8), (0, .ref (bR 0)), (1, .ref (bC 0)), (2, .int x2), (3, .int x3), (4, .int x4)]) hx hb dX3_apart_73 hl (k := 8) rfl rfl (by decide) rfl (fun ls hl => ?_)
          refine lv_goto (tgt := 6) hx hb dX3_apart_76 (by decide) ?_
          exact ih5 y16 (x7_2 + (1 : Int32)) hf H locs hP hD hS _ (lv_sub hl [4, 5, 6, 7, 8, 1, 0] rfl)
    exact hL4 (0 : Int64) (0 : Int32) hf H locs hP hD hS _ (lv_sub hl [2, 3, 4, 5, 6, 1, 0] rfl)
  rw [hH, hlo] at hW
  exact hW
def f_X3_blurred_L6 (nR : Nat) (vR : Vs) (vC : Vs) (x2 : Int32) (x3 : Int32) (self3 : Int64 → Int32 → Option (Int64)) (x4_1 : Int64) (x6_2 : Int32) : Option (Int64) :=
  if (vC.1 2) ≤ x6_2 then some (x4_1) else o1 (f_X3_rowOf nR vR x2 x6_2 x3) (fun (r8 : Int32) => o1 (f_X3_rowOf nR vR (-1 : Int32) x6_2 x3) (fun (r10 : Int32) => gd (inb r10 nR) (gd (inb r10 nR) (gd (inb r8 nR) (gd (inb r8 nR) (bn ((x4_1 ||| (((vR.2.2 2 (r10).toNatClampNeg) ||| (vR.2.2 3 (r10).toNatClampNeg)) &&& (((vR.2.2 2 (r8).toNatClampNeg) ||| (vR.2.2 3 (r8).toNatClampNeg)) ^^^ (-1 : Int64))))) (fun (y16 : Int64) => self3 y16 (x6_2 + (1 : Int32)))))))))
def f_X3_blurred (nR : Nat) (vR : Vs) (vC : Vs) (x2 : Int32) (x3 : Int32) : Option (Int64) :=
  lp (f_X3_blurred_L6 nR vR vC x2 x3) (fun _ _ => none) FU (0 : Int64) (0 : Int32)
abbrev wsX3_blurred : List Cond := .code yX3_blurred cX3_blurred 9 (some .long) :: UW
abbrev rmX3_blurred : Room := { frames := 1, cells := 0, slots := 0, locals := 23 }
set_option maxHeartbeats 4000000 in
set_option maxRecDepth 100000 in
theorem c_X3_blurred (l : Launch) (g : Gx) (bR : Nat → Nat) (nR : Nat) (qR0 : Nat) (qR1 : Nat) (vR : Vs) (bC : Nat → Nat) (vC : Vs) (x2 : Int32) (x3 : Int32) (r : Int64) (hf : f_X3_blurred nR vR vC x2 x3 = some r) : CtJ l yX3_blurred wsX3_blurred rmX3_blurred g [.ref (bR 0), .ref (bC 0), .int x2, .int x3] (cR g bR nR qR0 qR1 vR ++ (cC g bC vC)) (cR g bR nR qR0 qR1 vR ++ (cC g bC vC)) r 0 0 := by
  unfold CtJ
  intro sz
  refine Met.ofW (cc := cX3_blurred) (maxL := 9) (ret := (some .long)) (by decide) rfl ?_
  intro p e s m args below meth c s₁ B hml hv
  obtain ⟨rfl, hsz, hP, hK, hD0, hG⟩ := hv
  have hx := B.exec
  have hb := B.bytes
  have hr := B.returns
  have hts := atoms_spec (ws := wsX3_blurred) B.pre
  have hown : s.vm.findClass RX3 = some m.cls := findClass_of_methodNamed B.named
  have hlocks := B.notSynchronized
  subst hsz
  have hD := hD0.self (sz := s.heap.size)
  generalize hAe : va_A (cR g bR nR qR0 qR1 vR ++ (cC g bC vC)) s.heap.size = A at hD hG ⊢
  have hA : ∀ q : Nat, s.heap.size ≤ q → A q := fun q h => by rw [← hAe]; exact Or.inr h
  clear hAe hD0
  have hS : va_S A s.heap s.heap [] := va_S.rf
  have hl := lv_entry ([.ref (bR 0), .ref (bC 0), .int x2, .int x3]) (n := 9) (Nat.le_of_ble_eq_true rfl)
  rw [lg_entry_eq]
  generalize (lg_sl ([.ref (bR 0), .ref (bC 0), .int x2, .int x3]) ++ List.replicate (9 - (lg_sl ([.ref (bR 0), .ref (bC 0), .int x2, .int x3])).length) Slot.unset).toArray = ls at hl ⊢
  have hl : lv_has ls 9 [(0, .ref (bR 0)), (1, .ref (bC 0)), (2, .int x2), (3, .int x3)] := hl
  have htu : ∀ w ∈ UW, w.before _ s = true := fun w h => hts w (List.mem_cons_of_mem _ h)
  have k_1_68 := htu _ mw_1_68
  have k_1_237 := htu _ mw_1_237
  have k_1_238 := htu _ mw_1_238
  have k_4_161 := htu _ mw_4_161
  unfold f_X3_blurred at hf
  obtain ⟨H, hH⟩ : ∃ z, z = s.heap := ⟨_, rfl⟩
  obtain ⟨locs, hlo⟩ : ∃ z : List Loc, z = [] := ⟨_, rfl⟩
  have hS : va_S A s.heap H locs := by rw [hH, hlo]; exact hS
  rw [← hH] at hP
  have hW : W p l e (headSpec wsX3_blurred rmX3_blurred).room s m ([.ref (bR 0), .ref (bC 0), .int x2, .int x3] : List Value).toArray below meth c H locs 0 0 (MQ below (qJ g A (cR g bR nR qR0 qR1 vR ++ (cC g bC vC)) r) ([.ref (bR 0), .ref (bC 0), .int x2, .int x3] : List Value).toArray s 0 0 A) (F0 m 0 ls []) := by
    refine lv_lconst (v := (0 : Int64)) hx hb dX3_blurred_0 (by decide) ?_
    refine lv_lstore (lv' := [(4, .long (0 : Int64)), (0, .ref (bR 0)), (1, .ref (bC 0)), (2, .int x2), (3, .int x3)]) hx hb dX3_blurred_1 hl (by decide) rfl (fun ls hl => ?_)
    refine lv_iconst (v := (0 : Int32)) hx hb dX3_blurred_3 (by decide) ?_
    refine lv_istore (lv' := [(6, .int (0 : Int32)), (4, .long (0 : Int64)), (0, .ref (bR 0)), (1, .ref (bC 0)), (2, .int x2), (3, .int x3)]) hx hb dX3_blurred_4 hl (by decide) rfl (fun ls hl => ?_)
    have hL4 : ∀ (x4_1 : Int64) (x6_2 : Int32), lp (f_X3_blurred_L6 nR vR vC x2 x3) (fun _ _ => none) FU x4_1 x6_2 = some r → ∀ (H : Heap) (locs : List Loc), va_P g.1 vwCl (cR g bR nR qR0 qR1 vR ++ (cC g bC vC)) H → va_D A (cR g bR nR qR0 qR1 vR ++ (cC g bC vC)) → va_S A s.heap H locs → ∀ ls : Array Slot, lv_has ls 9 [(0, .ref (bR 0)), (1, .ref (bC 0)), (2, .int x2), (3, .int x3), (4, .long x4_1), (6, .int x6_2)] → W p l e (headSpec wsX3_blurred rmX3_blurred).room s m ([.ref (bR 0), .ref (bC 0), .int x2, .int x3] : List Value).toArray below meth c H locs 0 0 (MQ below (qJ g A (cR g bR nR qR0 qR1 vR ++ (cC g bC vC)) r) ([.ref (bR 0), .ref (bC 0), .int x2, .int x3] : List Value).toArray s 0 0 A) (F0 m 6 ls []) := by
      refine lp_ind (T := Int64 → Int32 → Option (Int64)) (fun self3 => ∀ (x4_1 : Int64) (x6_2 : Int32), self3 x4_1 x6_2 = some r → ∀ (H : Heap) (locs : List Loc), va_P g.1 vwCl (cR g bR nR qR0 qR1 vR ++ (cC g bC vC)) H → va_D A (cR g bR nR qR0 qR1 vR ++ (cC g bC vC)) → va_S A s.heap H locs → ∀ ls : Array Slot, lv_has ls 9 [(0, .ref (bR 0)), (1, .ref (bC 0)), (2, .int x2), (3, .int x3), (4, .long x4_1), (6, .int x6_2)] → W p l e (headSpec wsX3_blurred rmX3_blurred).room s m ([.ref (bR 0), .ref (bC 0), .int x2, .int x3] : List Value).toArray below meth c H locs 0 0 (MQ below (qJ g A (cR g bR nR qR0 qR1 vR ++ (cC g bC vC)) r) ([.ref (bR 0), .ref (bC 0), .int x2, .int x3] : List Value).toArray s 0 0 A) (F0 m 6 ls [])) ?_ ?_ FU
      · intro x4_1 x6_2 hf; cases hf
      · intro self3 ih5 x4_1 x6_2 hf H locs hP hD hS ls hl
        unfold f_X3_blurred_L6 at hf
        refine lv_iload hx hb dX3_blurred_6 (lv_at hl 5 rfl) ?_
        refine lv_aload_n hx hb dX3_blurred_8 rfl (lv_at hl 1 rfl) ?_
        refine va_get (D := g.1) (ci := 0) (fs := fcC bC vC) (v := .int (vC.1 2)) (C := RX0) (T := TX0) (N := 14) hx hb htu hinX0 hown hK hP 3 rfl rfl 2 (by decide) k_1_68 (fun _ h9 => h9) rfl dX3_blurred_9 ?_
        refine lv_icmp_ge (tgt := 81) hx hb dX3_blurred_12 (by decide) (fun c6 => ?_) (fun c6 => ?_)
        · have hf := it_t hf c6
          refine lv_lload hx hb dX3_blurred_81 (lv_at hl 4 rfl) ?_
          have e7 := Option.some.inj hf
          exact k_lret hx hb hr hlocks hK hP hD hS e7 dX3_blurred_83
        · have hf := it_f hf c6
          refine lv_aload_n hx hb dX3_blurred_15 rfl (lv_at hl 0 rfl) ?_
          refine lv_iload_n hx hb dX3_blurred_16 rfl (lv_at hl 2 rfl) ?_
          refine lv_iload hx hb dX3_blurred_17 (lv_at hl 5 rfl) ?_
          refine lv_iload_n hx hb dX3_blurred_19 rfl (lv_at hl 3 rfl) ?_
          obtain ⟨r8, hg9, hf⟩ := o1_at hf
          refine k_viP ⟨hx, hb, hml, hown, htu⟩ hK hP hD hS hA hG (c_X3_rowOf l g bR nR qR0 qR1 vR x2 x6_2 x3 r8 hg9) (cwV 3 htu (gU_V mw_2_98 hcX3_rowOf) rfl rfl rfl hdX3_rowOf ⟨Nat.le_of_ble_eq_true rfl, Nat.le_of_ble_eq_true rfl⟩) (q0 := 0) (ci := 3) (fs := fcR bR qR0 qR1 vR) (q := (RX3, TX3, 5)) rfl rfl rfl (wr := (cC g bC vC)) (w2 := cR g bR nR qR0 qR1 vR ++ (cC g bC vC)) [0, 1, 2] [3, 4, 5, 6, 7, 8, 9, 10, 11, 12, 13] [11, 12, 13, 0, 1, 2, 3, 4, 5, 6, 7, 8, 9, 10] rfl rfl (by decide) (by decide) (by decide) rfl rfl (by decide) (As := [.int x2, .int x6_2, .int x3]) (rest := []) rfl rfl hl.1 (Nat.le_of_ble_eq_true rfl) dX3_blurred_20 (k1 := 0) (n1 := 0) rfl rfl ⟨Nat.zero_le _, Nat.zero_le _⟩ (fun H locs hP hD hS => ?_)
          refine lv_istore (lv' := [(7, .int r8), (0, .ref (bR 0)), (1, .ref (bC 0)), (2, .int x2), (3, .int x3), (4, .long x4_1), (6, .int x6_2)]) hx hb dX3_blurred_23 hl (by decide) rfl (fun ls hl => ?_)
          refine lv_aload_n hx hb dX3_blurred_25 rfl (lv_at hl 1 rfl) ?_
          refine lv_iconst (v := (-1 : Int32)) hx hb dX3_blurred_26 (by decide) ?_
          refine lv_iload hx hb dX3_blurred_27 (lv_at hl 6 rfl) ?_
          refine lv_iload_n hx hb dX3_blurred_29 rfl (lv_at hl 4 rfl) ?_
          obtain ⟨r10, hg11, hf⟩ := o1_at hf
          refine k_viP ⟨hx, hb, hml, hown, htu⟩ hK hP hD hS hA hG (c_X3_rowOf l g bR nR qR0 qR1 vR (-1 : Int32) x6_2 x3 r10 hg11) (cwV 3 htu (gU_V mw_2_98 hcX3_rowOf) rfl rfl rfl hdX3_rowOf ⟨Nat.le_of_ble_eq_true rfl, Nat.le_of_ble_eq_true rfl⟩) (q0 := 0) (ci := 3) (fs := fcR bR qR0 qR1 vR) (q := (RX3, TX3, 5)) rfl rfl rfl (wr := (cC g bC vC)) (w2 := cR g bR nR qR0 qR1 vR ++ (cC g bC vC)) [0, 1, 2] [3, 4, 5, 6, 7, 8, 9, 10, 11, 12, 13] [11, 12, 13, 0, 1, 2, 3, 4, 5, 6, 7, 8, 9, 10] rfl rfl (by decide) (by decide) (by decide) rfl rfl (by decide) (As := [.int (-1 : Int32), .int x6_2, .int x3]) (rest := []) rfl rfl hl.1 (Nat.le_of_ble_eq_true rfl) dX3_blurred_30 (k1 := 0) (n1 := 0) rfl rfl ⟨Nat.zero_le _, Nat.zero_le _⟩ (fun H locs hP hD hS => ?_)
          refine lv_istore (lv' := [(8, .int r10), (7, .int r8), (0, .ref (bR 0)), (1, .ref (bC 0)), (2, .int x2), (3, .int x3), (4, .long x4_1), (6, .int x6_2)]) hx hb dX3_blurred_33 hl (by decide) rfl (fun ls hl => ?_)
          refine lv_lload hx hb dX3_blurred_35 (lv_at hl 6 rfl) ?_
          refine lv_aload_n hx hb dX3_blurred_37 rfl (lv_at hl 2 rfl) ?_
          refine va_get (D := g.1) (ci := 3) (fs := fcR bR qR0 qR1 vR) (v := .ref (bR 3)) (C := RX3) (T := TX3) (N := 5) hx hb htu hinX3 hown hK hP 0 rfl rfl 2 (by decide) k_1_237 (fun _ h9 => h9) rfl dX3_blurred_38 ?_
          refine lv_iload hx hb dX3_blurred_41 (lv_at hl 0 rfl) ?_
          obtain ⟨h12, hf⟩ := gd_in hf
          refine va_lald (D := g.1) (f := (vR.2.2 2)) hx hb hK hP 1 1 rfl rfl h12 dX3_blurred_43 ?_
          refine lv_aload_n hx hb dX3_blurred_44 rfl (lv_at hl 2 rfl) ?_
          refine va_get (D := g.1) (ci := 3) (fs := fcR bR qR0 qR1 vR) (v := .ref (bR 4)) (C := RX3) (T := TX3) (N := 5) hx hb htu hinX3 hown hK hP 0 rfl rfl 3 (by decide) k_1_238 (fun _ h9 => h9) rfl dX3_blurred_45 ?_
          refine lv_iload hx hb dX3_blurred_48 (lv_at hl 0 rfl) ?_
          obtain ⟨h13, hf⟩ := gd_in hf
          refine va_lald (D := g.1) (f := (vR.2.2 3)) hx hb hK hP 2 1 rfl rfl h13 dX3_blurred_50 ?_
          refine lv_lor hx hb dX3_blurred_51 ?_
          refine lv_aload_n hx hb dX3_blurred_52 rfl (lv_at hl 2 rfl) ?_
          refine va_get (D := g.1) (ci := 3) (fs := fcR bR qR0 qR1 vR) (v := .ref (bR 3)) (C := RX3) (T := TX3) (N := 5) hx hb htu hinX3 hown hK hP 0 rfl rfl 2 (by decide) k_1_237 (fun _ h9 => h9) rfl dX3_blurred_53 ?_
          refine lv_iload hx hb dX3_blurred_56 (lv_at hl 1 rfl) ?_
          obtain ⟨h14, hf⟩ := gd_in hf
          refine va_lald (D := g.1) (f := (vR.2.2 2)) hx hb hK hP 1 1 rfl rfl h14 dX3_blurred_58 ?_
          refine lv_aload_n hx hb dX3_blurred_59 rfl (lv_at hl 2 rfl) ?_
          refine va_get (D := g.1) (ci := 3) (fs := fcR bR qR0 qR1 vR) (v := .ref (bR 4)) (C := RX3) (T := TX3) (N := 5) hx hb htu hinX3 hown hK hP 0 rfl rfl 3 (by decide) k_1_238 (fun _ h9 => h9) rfl dX3_blurred_60 ?_
          refine lv_iload hx hb dX3_blurred_63 (lv_at hl 1 rfl) ?_
          obtain ⟨h15, hf⟩ := gd_in hf
          refine va_lald (D := g.1) (f := (vR.2.2 3)) hx hb hK hP 2 1 rfl rfl h15 dX3_blurred_65 ?_
          refine lv_lor hx hb dX3_blurred_66 ?_
          refine lv_ldc2 (v := (-1 : Int64)) hx hb hown k_4_161 dX3_blurred_67 ?_
          refine lv_lxor hx hb dX3_blurred_70 ?_
          refine lv_land hx hb dX3_blurred_71 ?_
          refine lv_lor hx hb dX3_blurred_72 ?_
          refine lv_topl (fun y16 ey16 => ?_)
          have hf := bn_at hf ey16
          refine lv_lstore (lv' := [(4, .long y16), (8, .int r10), (7, .int r8), (0, .ref (bR 0)), (1, .ref (bC 0)), (2, .int x2), (3, .int x3), (6, .int x6_2)]) hx hb dX3_blurred_73 hl (by decide) rfl (fun ls hl => ?_)
          refine lv_iinc (v := (x6_2 + (1 : Int32))) (lv' := [(6, .int (x6_2 + (1 : Int32))), (4, .long y16), (8, .int r10), (7, .int r8), (0, .ref (bR 0)), (1, .ref (bC 0)), (2, .int x2), (3, .int x3)]) hx hb dX3_blurred_75 hl (k := 7) rfl rfl (by decide) rfl (fun ls hl => ?_)
          refine lv_goto (tgt := 6) hx hb dX3_blurred_78 (by decide) ?_
          exact ih5 y16 (x6_2 + (1 : Int32)) hf H locs hP hD hS _ (lv_sub hl [4, 5, 6, 7, 1, 0] rfl)
    exact hL4 (0 : Int64) (0 : Int32) hf H locs hP hD hS _ (lv_sub hl [2, 3, 4, 5, 1, 0] rfl)
  rw [hH, hlo] at hW
  exact hW
def f_X3_firstApart_L16 (nR : Nat) (vR : Vs) (vC : Vs) (x2 : Int32) (x3 : Int32) (r1 : Int32) (self4 : Int32 → Option (Int32)) (x5_3 : Int32) : Option (Int32) :=
  if (if (vR.1 4) < r1 then (vR.1 4) else r1) ≤ x5_3 then some ((-1 : Int32)) else o1 (f_X3_apart nR vR vC x2 x3 x5_3) (fun (r9 : Int64) => if (lg_cmp r9 (0 : Int64)) = 0 then self4 (x5_3 + (1 : Int32)) else o1 (f_J13_bitCount_95d88 ((r9 &&& (-r9)) - (1 : Int64))) (fun (r12 : Int32) => some (((x5_3 * (64 : Int32)) + r12))))
def f_X3_firstApart (nR : Nat) (vR : Vs) (vC : Vs) (x2 : Int32) (x3 : Int32) : Option (Int32) :=
  o1 (f_X0_fullWords vC) (fun (r1 : Int32) => lp (f_X3_firstApart_L16 nR vR vC x2 x3 r1) (fun _ => none) FU (0 : Int32))
abbrev wsX3_firstApart : List Cond := .code yX3_firstApart cX3_firstApart 8 (some .int) :: UW
abbrev rmX3_firstApart : Room := { frames := 2, cells := 0, slots := 0, locals := 52 }
set_option maxHeartbeats 4000000 in
set_option maxRecDepth 100000 in
theorem c_X3_firstApart (l : Launch) (g : Gx) (bR : Nat → Nat) (nR : Nat) (qR0 : Nat) (qR1 : Nat) (vR : Vs) (bC : Nat → Nat) (vC : Vs) (x2 : Int32) (x3 : Int32) (r : Int32) (hf : f_X3_firstApart nR vR vC x2 x3 = some r) : CtI l yX3_firstApart wsX3_firstApart rmX3_firstApart g [.ref (bR 0), .ref (bC 0), .int x2, .int x3] (cR g bR nR qR0 qR1 vR ++ (cC g bC vC)) (cR g bR nR qR0 qR1 vR ++ (cC g bC vC)) r 0 0 := by
  unfold CtI
  intro sz
  refine Met.ofW (cc := cX3_firstApart) (maxL := 8) (ret := (some .int)) (by decide) rfl ?_
  intro p e s m args below meth c s₁ B hml hv
  obtain ⟨rfl, hsz, hP, hK, hD0, hG⟩ := hv
  have hx := B.exec
  have hb := B.bytes
  have hr := B.returns
  have hts := atoms_spec (ws := wsX3_firstApart) B.pre
  have hown : s.vm.findClass RX3 = some m.cls := findClass_of_methodNamed B.named
  have hlocks := B.notSynchronized
  subst hsz
  have hD := hD0.self (sz := s.heap.size)
  generalize hAe : va_A (cR g bR nR qR0 qR1 vR ++ (cC g bC vC)) s.heap.size = A at hD hG ⊢
  have hA : ∀ q : Nat, s.heap.size ≤ q → A q := fun q h => by rw [← hAe]; exact Or.inr h
  clear hAe hD0
  have hS : va_S A s.heap s.heap [] := va_S.rf
  have hl := lv_entry ([.ref (bR 0), .ref (bC 0), .int x2, .int x3]) (n := 8) (Nat.le_of_ble_eq_true rfl)
  rw [lg_entry_eq]
  generalize (lg_sl ([.ref (bR 0), .ref (bC 0), .int x2, .int x3]) ++ List.replicate (8 - (lg_sl ([.ref (bR 0), .ref (bC 0), .int x2, .int x3])).length) Slot.unset).toArray = ls at hl ⊢
  have hl : lv_has ls 8 [(0, .ref (bR 0)), (1, .ref (bC 0)), (2, .int x2), (3, .int x3)] := hl
  have htu : ∀ w ∈ UW, w.before _ s = true := fun w h => hts w (List.mem_cons_of_mem _ h)
  have k_1_239 := htu _ mw_1_239
  have k_3_6 := htu _ mw_3_6
  have k_2_116 := htu _ mw_2_116
  have k_1_7 := htu _ mw_1_7
  have k_2_117 := htu _ mw_2_117
  unfold f_X3_firstApart at hf
  obtain ⟨H, hH⟩ : ∃ z, z = s.heap := ⟨_, rfl⟩
  obtain ⟨locs, hlo⟩ : ∃ z : List Loc, z = [] := ⟨_, rfl⟩
  have hS : va_S A s.heap H locs := by rw [hH, hlo]; exact hS
  rw [← hH] at hP
  have hW : W p l e (headSpec wsX3_firstApart rmX3_firstApart).room s m ([.ref (bR 0), .ref (bC 0), .int x2, .int x3] : List Value).toArray below meth c H locs 0 0 (MQ below (qI g A (cR g bR nR qR0 qR1 vR ++ (cC g bC vC)) r) ([.ref (bR 0), .ref (bC 0), .int x2, .int x3] : List Value).toArray s 0 0 A) (F0 m 0 ls []) := by
    refine lv_aload_n hx hb dX3_firstApart_0 rfl (lv_at hl 1 rfl) ?_
    obtain ⟨r1, hg2, hf⟩ := o1_at hf
    refine k_viP ⟨hx, hb, hml, hown, htu⟩ hK hP hD hS hA hG (c_X0_fullWords l g bC vC r1 hg2) (cwV 0 htu (gU_V mw_3_5 hcX0_fullWords) rfl rfl rfl hdX0_fullWords ⟨Nat.le_of_ble_eq_true rfl, Nat.le_of_ble_eq_true rfl⟩) (q0 := 3) (ci := 0) (fs := fcC bC vC) (q := (RX0, TX0, 14)) rfl rfl rfl (wr := (cR g bR nR qR0 qR1 vR)) (w2 := cR g bR nR qR0 qR1 vR ++ (cC g bC vC)) [3, 4, 5, 6, 7, 8, 9, 10, 11, 12, 13] [0, 1, 2] [0, 1, 2, 3, 4, 5, 6, 7, 8, 9, 10, 11, 12, 13] rfl rfl (by decide) (by decide) (by decide) rfl rfl (by decide) (As := []) (rest := []) rfl rfl hl.1 (Nat.le_of_ble_eq_true rfl) dX3_firstApart_1 (k1 := 0) (n1 := 0) rfl rfl ⟨Nat.zero_le _, Nat.zero_le _⟩ (fun H locs hP hD hS => ?_)
    refine lv_aload_n hx hb dX3_firstApart_4 rfl (lv_at hl 0 rfl) ?_
    refine va_get (D := g.1) (ci := 3) (fs := fcR bR qR0 qR1 vR) (v := .int (vR.1 4)) (C := RX3) (T := TX3) (N := 5) hx hb htu hinX3 hown hK hP 0 rfl rfl 4 (by decide) k_1_239 (fun _ h9 => h9) rfl dX3_firstApart_5 ?_
    refine va_mmin hx hb (hml.trans hl.1.symm) hown k_3_6 k_2_116 k_1_7 k_2_117 (Nat.le_of_ble_eq_true rfl) (Nat.le_of_ble_eq_true rfl) (Nat.zero_le _) (Nat.zero_le _) dX3_firstApart_8 ?_
    refine lv_istore (lv' := [(4, .int (if (vR.1 4) < r1 then (vR.1 4) else r1)), (0, .ref (bR 0)), (1, .ref (bC 0)), (2, .int x2), (3, .int x3)]) hx hb dX3_firstApart_11 hl (by decide) rfl (fun ls hl => ?_)
    refine lv_iconst (v := (0 : Int32)) hx hb dX3_firstApart_13 (by decide) ?_
    refine lv_istore (lv' := [(5, .int (0 : Int32)), (4, .int (if (vR.1 4) < r1 then (vR.1 4) else r1)), (0, .ref (bR 0)), (1, .ref (bC 0)), (2, .int x2), (3, .int x3)]) hx hb dX3_firstApart_14 hl (by decide) rfl (fun ls hl => ?_)
    have hL5 : ∀ (x5_3 : Int32), lp (f_X3_firstApart_L16 nR vR vC x2 x3 r1) (fun _ => none) FU x5_3 = some r → ∀ (H : Heap) (locs : List Loc), va_P g.1 vwCl (cR g bR nR qR0 qR1 vR ++ (cC g bC vC)) H → va_D A (cR g bR nR qR0 qR1 vR ++ (cC g bC vC)) → va_S A s.heap H locs → ∀ ls : Array Slot, lv_has ls 8 [(0, .ref (bR 0)), (1, .ref (bC 0)), (2, .int x2), (3, .int x3), (4, .int (if (vR.1 4) < r1 then (vR.1 4) else r1)), (5, .int x5_3)] → W p l e (headSpec wsX3_firstApart rmX3_firstApart).room s m ([.ref (bR 0), .ref (bC 0), .int x2, .int x3] : List Value).toArray below meth c H locs 0 0 (MQ below (qI g A (cR g bR nR qR0 qR1 vR ++ (cC g bC vC)) r) ([.ref (bR 0), .ref (bC 0), .int x2, .int x3] : List Value).toArray s 0 0 A) (F0 m 16 ls []) := by
      refine lp_ind (T := Int32 → Option (Int32)) (fun self4 => ∀ (x5_3 : Int32), self4 x5_3 = some r → ∀ (H : Heap) (locs : List Loc), va_P g.1 vwCl (cR g bR nR qR0 qR1 vR ++ (cC g bC vC)) H → va_D A (cR g bR nR qR0 qR1 vR ++ (cC g bC vC)) → va_S A s.heap H locs → ∀ ls : Array Slot, lv_has ls 8 [(0, .ref (bR 0)), (1, .ref (bC 0)), (2, .int x2), (3, .int x3), (4, .int (if (vR.1 4) < r1 then (vR.1 4) else r1)), (5, .int x5_3)] → W p l e (headSpec wsX3_firstApart rmX3_firstApart).room s m ([.ref (bR 0), .ref (bC 0), .int x2, .int x3] : List Value).toArray below meth c H locs 0 0 (MQ below (qI g A (cR g bR nR qR0 qR1 vR ++ (cC g bC vC)) r) ([.ref (bR 0), .ref (bC 0), .int x2, .int x3] : List Value).toArray s 0 0 A) (F0 m 16 ls [])) ?_ ?_ FU
      · intro x5_3 hf; cases hf
      · intro self4 ih6 x5_3 hf H locs hP hD hS ls hl
        unfold f_X3_firstApart_L16 at hf
        refine lv_iload hx hb dX3_firstApart_16 (lv_at hl 5 rfl) ?_
        refine lv_iload hx hb dX3_firstApart_18 (lv_at hl 4 rfl) ?_
        refine lv_icmp_ge (tgt := 65) hx hb dX3_firstApart_20 (by decide) (fun c7 => ?_) (fun c7 => ?_)
        · have hf := it_t hf c7
          refine lv_iconst (v := (-1 : Int32)) hx hb dX3_firstApart_65 (by decide) ?_
          have e8 := Option.some.inj hf
          exact k_iret hx hb hr hlocks hK hP hD hS e8 dX3_firstApart_66
        · have hf := it_f hf c7
          refine lv_aload_n hx hb dX3_firstApart_23 rfl (lv_at hl 0 rfl) ?_
          refine lv_aload_n hx hb dX3_firstApart_24 rfl (lv_at hl 1 rfl) ?_
          refine lv_iload_n hx hb dX3_firstApart_25 rfl (lv_at hl 2 rfl) ?_
          refine lv_iload_n hx hb dX3_firstApart_26 rfl (lv_at hl 3 rfl) ?_
          refine lv_iload hx hb dX3_firstApart_27 (lv_at hl 5 rfl) ?_
          obtain ⟨r9, hg10, hf⟩ := o1_at hf
          refine k_vlW ⟨hx, hb, hml, hown, htu⟩ hK hP hD hS hA hG (c_X3_apart l g bR nR qR0 qR1 vR bC vC x2 x3 x5_3 r9 hg10) (cwV 4 htu (gU_V mw_3_7 hcX3_apart) rfl rfl rfl hdX3_apart ⟨Nat.le_of_ble_eq_true rfl, Nat.le_of_ble_eq_true rfl⟩) (q0 := 0) (ci := 3) (fs := fcR bR qR0 qR1 vR) (q := (RX3, TX3, 5)) rfl rfl rfl (As := [.ref (bC 0), .int x2, .int x3, .int x5_3]) (rest := []) rfl rfl hl.1 (Nat.le_of_ble_eq_true rfl) dX3_firstApart_29 (k1 := 0) (n1 := 0) rfl rfl ⟨Nat.zero_le _, Nat.zero_le _⟩ (fun H locs hP hD hS => ?_)
          refine lv_lstore (lv' := [(6, .long r9), (0, .ref (bR 0)), (1, .ref (bC 0)), (2, .int x2), (3, .int x3), (4, .int (if (vR.1 4) < r1 then (vR.1 4) else r1)), (5, .int x5_3)]) hx hb dX3_firstApart_32 hl (by decide) rfl (fun ls hl => ?_)
          refine lv_lload hx hb dX3_firstApart_34 (lv_at hl 0 rfl) ?_
          refine lv_lconst (v := (0 : Int64)) hx hb dX3_firstApart_36 (by decide) ?_
          refine W.lcmp hx hb dX3_firstApart_37 ?_
          refine lv_if_eq (tgt := 59) hx hb dX3_firstApart_38 (by decide) (fun c11 => ?_) (fun c11 => ?_)
          · have hf := it_t hf c11
            refine lv_iinc (v := (x5_3 + (1 : Int32))) (lv' := [(5, .int (x5_3 + (1 : Int32))), (6, .long r9), (0, .ref (bR 0)), (1, .ref (bC 0)), (2, .int x2), (3, .int x3), (4, .int (if (vR.1 4) < r1 then (vR.1 4) else r1))]) hx hb dX3_firstApart_59 hl (k := 6) rfl rfl (by decide) rfl (fun ls hl => ?_)
            refine lv_goto (tgt := 16) hx hb dX3_firstApart_62 (by decide) ?_
            exact ih6 (x5_3 + (1 : Int32)) hf H locs hP hD hS _ (lv_sub hl [2, 3, 4, 5, 6, 0] rfl)
          · have hf := it_f hf c11
            refine lv_iload hx hb dX3_firstApart_41 (lv_at hl 6 rfl) ?_
            refine lv_bipush (v := (64 : Int32)) hx hb dX3_firstApart_43 (by decide) ?_
            refine lv_imul hx hb dX3_firstApart_45 ?_
            refine lv_lload hx hb dX3_firstApart_46 (lv_at hl 0 rfl) ?_
            refine lv_lload hx hb dX3_firstApart_48 (lv_at hl 0 rfl) ?_
            refine lv_lneg hx hb dX3_firstApart_50 ?_
            refine lv_land hx hb dX3_firstApart_51 ?_
            refine lv_lconst (v := (1 : Int64)) hx hb dX3_firstApart_52 (by decide) ?_
            refine lv_lsub hx hb dX3_firstApart_53 ?_
            obtain ⟨r12, hg13, hf⟩ := o1_at hf
            refine k_si0 ⟨hx, hb, hml, hown, htu⟩ hK hP hD hS hA hG (c_J13_bitCount_95d88 l g ((r9 &&& (-r9)) - (1 : Int64)) r12 hg13) (va_cwS 1 htu (gU_S mw_3_8 hcJ13_bitCount_95d88) rfl rfl rfl hdJ13_bitCount_95d88 ⟨Nat.le_of_ble_eq_true rfl, Nat.le_of_ble_eq_true rfl⟩) (As := [.long ((r9 &&& (-r9)) - (1 : Int64))]) (rest := [.int (x5_3 * (64 : Int32))]) rfl rfl hl.1 (Nat.le_of_ble_eq_true rfl) dX3_firstApart_54 (k1 := 0) (n1 := 0) rfl rfl ⟨Nat.zero_le _, Nat.zero_le _⟩ (fun H locs hP hD hS => ?_)
            refine lv_iadd hx hb dX3_firstApart_57 ?_
            have e14 := Option.some.inj hf
            exact k_iret hx hb hr hlocks hK hP hD hS e14 dX3_firstApart_58
    exact hL5 (0 : Int32) hf H locs hP hD hS _ (lv_sub hl [2, 3, 4, 5, 1, 0] rfl)
  rw [hH, hlo] at hW
  exact hW
