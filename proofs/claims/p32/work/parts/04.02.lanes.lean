def f_X7_hasLane (x0 : Int64) (x2 : Int32) : Option (Int32) :=
  jn (fun (t1 : Int32) => gd (isB t1) (some (t1))) (fun k2 => if (lg_cmp ((lus x0 x2) &&& (1 : Int64)) (0 : Int64)) = 0 then k2 (0 : Int32) else k2 (1 : Int32))
abbrev wsX7_hasLane : List Cond := .code yX7_hasLane cX7_hasLane 3 (some .boolean) :: UW
abbrev rmX7_hasLane : Room := { frames := 0, cells := 0, slots := 0, locals := 0 }
set_option maxHeartbeats 4000000 in
set_option maxRecDepth 100000 in
theorem c_X7_hasLane (l : Launch) (g : Gx) (x0 : Int64) (x2 : Int32) (r : Int32) (hf : f_X7_hasLane x0 x2 = some r) : CtI l yX7_hasLane wsX7_hasLane rmX7_hasLane g [.long x0, .int x2] ([]) ([]) r 0 0 := by
  unfold CtI
  intro sz
  refine Met.ofW (cc := cX7_hasLane) (maxL := 3) (ret := (some .boolean)) (by decide) rfl ?_
  intro p e s m args below meth c s₁ B hml hv
  obtain ⟨rfl, hsz, hP, hK, hD0, hG⟩ := hv
  have hx := B.exec
  have hb := B.bytes
  have hr := B.returns
  have hts := atoms_spec (ws := wsX7_hasLane) B.pre
  have hown : s.vm.findClass RX7 = some m.cls := findClass_of_methodNamed B.named
  have hlocks := B.notSynchronized
  subst hsz
  have hD := hD0.self (sz := s.heap.size)
  generalize hAe : va_A ([]) s.heap.size = A at hD hG ⊢
  have hA : ∀ q : Nat, s.heap.size ≤ q → A q := fun q h => by rw [← hAe]; exact Or.inr h
  clear hAe hD0
  have hS : va_S A s.heap s.heap [] := va_S.rf
  have hl := lv_entry ([.long x0, .int x2]) (n := 3) (Nat.le_of_ble_eq_true rfl)
  rw [lg_entry_eq]
  generalize (lg_sl ([.long x0, .int x2]) ++ List.replicate (3 - (lg_sl ([.long x0, .int x2])).length) Slot.unset).toArray = ls at hl ⊢
  have hl : lv_has ls 3 [(0, .long x0), (2, .int x2)] := hl
  have htu : ∀ w ∈ UW, w.before _ s = true := fun w h => hts w (List.mem_cons_of_mem _ h)
  unfold f_X7_hasLane at hf
  obtain ⟨H, hH⟩ : ∃ z, z = s.heap := ⟨_, rfl⟩
  obtain ⟨locs, hlo⟩ : ∃ z : List Loc, z = [] := ⟨_, rfl⟩
  have hS : va_S A s.heap H locs := by rw [hH, hlo]; exact hS
  rw [← hH] at hP
  have hW : W p l e (headSpec wsX7_hasLane rmX7_hasLane).room s m ([.long x0, .int x2] : List Value).toArray below meth c H locs 0 0 (MQ below (qI g A ([]) r) ([.long x0, .int x2] : List Value).toArray s 0 0 A) (F0 m 0 ls []) := by
    refine lv_lload_n hx hb dX7_hasLane_0 rfl (lv_at hl 0 rfl) ?_
    refine lv_iload_n hx hb dX7_hasLane_1 rfl (lv_at hl 1 rfl) ?_
    refine lv_lushr (v := (lus x0 x2)) hx hb dX7_hasLane_2 rfl ?_
    refine lv_lconst (v := (1 : Int64)) hx hb dX7_hasLane_3 (by decide) ?_
    refine lv_land hx hb dX7_hasLane_4 ?_
    refine lv_lconst (v := (0 : Int64)) hx hb dX7_hasLane_5 (by decide) ?_
    refine W.lcmp hx hb dX7_hasLane_6 ?_
    obtain ⟨k2, hk6, hf⟩ := jn_at hf
    have hJ3 : ∀ (t1 : Int32), k2 t1 = some r → ∀ (H : Heap) (locs : List Loc), va_P g.1 vwCl ([]) H → va_D A ([]) → va_S A s.heap H locs → ∀ ls : Array Slot, lv_has ls 3 [] → W p l e (headSpec wsX7_hasLane rmX7_hasLane).room s m ([.long x0, .int x2] : List Value).toArray below meth c H locs 0 0 (MQ below (qI g A ([]) r) ([.long x0, .int x2] : List Value).toArray s 0 0 A) (F0 m 15 ls [.int t1]) := by
      intro t1 hf H locs hP hD hS ls hl
      rw [hk6] at hf
      dsimp only at hf
      clear hk6
      obtain ⟨h4, hf⟩ := gd_isB hf
      have e5 := Option.some.inj hf
      exact k_zret hx hb hr hlocks hK hP hD hS e5 h4 dX7_hasLane_15
    refine lv_if_eq (tgt := 14) hx hb dX7_hasLane_7 (by decide) (fun c7 => ?_) (fun c7 => ?_)
    · have hf := it_t hf c7
      refine lv_iconst (v := (0 : Int32)) hx hb dX7_hasLane_14 (by decide) ?_
      exact hJ3 (0 : Int32) hf H locs hP hD hS _ (lv_sub hl [] rfl)
    · have hf := it_f hf c7
      refine lv_iconst (v := (1 : Int32)) hx hb dX7_hasLane_10 (by decide) ?_
      refine lv_goto (tgt := 15) hx hb dX7_hasLane_11 (by decide) ?_
      exact hJ3 (1 : Int32) hf H locs hP hD hS _ (lv_sub hl [] rfl)
  rw [hH, hlo] at hW
  exact hW
def f_X2_lane (vL : Vs) (x1 : Int32) (x2 : Int32) : Option (Int32) :=
  gd (inb x1 24) (o1 (f_X7_hasLane (vL.2.2 0 (x1).toNatClampNeg) x2) (fun (r2 : Int32) => if r2 = 0 then gd (inb x1 24) (o1 (f_X7_hasLane (vL.2.2 1 (x1).toNatClampNeg) x2) (fun (r6 : Int32) => jn (fun (t8 : Int32) => some (t8)) (fun k9 => if r6 = 0 then k9 (2 : Int32) else k9 (1 : Int32)))) else some ((0 : Int32))))
abbrev wsX2_lane : List Cond := .code yX2_lane cX2_lane 3 (some .int) :: UW
abbrev rmX2_lane : Room := { frames := 1, cells := 0, slots := 0, locals := 22 }
set_option maxHeartbeats 4000000 in
set_option maxRecDepth 100000 in
theorem c_X2_lane (l : Launch) (g : Gx) (bL : Nat → Nat) (vL : Vs) (x1 : Int32) (x2 : Int32) (r : Int32) (hf : f_X2_lane vL x1 x2 = some r) : CtI l yX2_lane wsX2_lane rmX2_lane g [.ref (bL 0), .int x1, .int x2] (cL g bL vL) (cL g bL vL) r 0 0 := by
  unfold CtI
  intro sz
  refine Met.ofW (cc := cX2_lane) (maxL := 3) (ret := (some .int)) (by decide) rfl ?_
  intro p e s m args below meth c s₁ B hml hv
  obtain ⟨rfl, hsz, hP, hK, hD0, hG⟩ := hv
  have hx := B.exec
  have hb := B.bytes
  have hr := B.returns
  have hts := atoms_spec (ws := wsX2_lane) B.pre
  have hown : s.vm.findClass RX2 = some m.cls := findClass_of_methodNamed B.named
  have hlocks := B.notSynchronized
  subst hsz
  have hD := hD0.self (sz := s.heap.size)
  generalize hAe : va_A (cL g bL vL) s.heap.size = A at hD hG ⊢
  have hA : ∀ q : Nat, s.heap.size ≤ q → A q := fun q h => by rw [← hAe]; exact Or.inr h
  clear hAe hD0
  have hS : va_S A s.heap s.heap [] := va_S.rf
  have hl := lv_entry ([.ref (bL 0), .int x1, .int x2]) (n := 3) (Nat.le_of_ble_eq_true rfl)
  rw [lg_entry_eq]
  generalize (lg_sl ([.ref (bL 0), .int x1, .int x2]) ++ List.replicate (3 - (lg_sl ([.ref (bL 0), .int x1, .int x2])).length) Slot.unset).toArray = ls at hl ⊢
  have hl : lv_has ls 3 [(0, .ref (bL 0)), (1, .int x1), (2, .int x2)] := hl
  have htu : ∀ w ∈ UW, w.before _ s = true := fun w h => hts w (List.mem_cons_of_mem _ h)
  have k_1_223 := htu _ mw_1_223
  have k_1_225 := htu _ mw_1_225
  unfold f_X2_lane at hf
  obtain ⟨H, hH⟩ : ∃ z, z = s.heap := ⟨_, rfl⟩
  obtain ⟨locs, hlo⟩ : ∃ z : List Loc, z = [] := ⟨_, rfl⟩
  have hS : va_S A s.heap H locs := by rw [hH, hlo]; exact hS
  rw [← hH] at hP
  have hW : W p l e (headSpec wsX2_lane rmX2_lane).room s m ([.ref (bL 0), .int x1, .int x2] : List Value).toArray below meth c H locs 0 0 (MQ below (qI g A (cL g bL vL) r) ([.ref (bL 0), .int x1, .int x2] : List Value).toArray s 0 0 A) (F0 m 0 ls []) := by
    refine lv_aload_n hx hb dX2_lane_0 rfl (lv_at hl 0 rfl) ?_
    refine va_get (D := g.1) (ci := 2) (fs := fcL bL vL) (v := .ref (bL 1)) (C := RX2) (T := TX2) (N := 2) hx hb htu hinX2 hown hK hP 0 rfl rfl 0 (by decide) k_1_223 (fun _ h9 => h9) rfl dX2_lane_1 ?_
    refine lv_iload_n hx hb dX2_lane_4 rfl (lv_at hl 1 rfl) ?_
    obtain ⟨h1, hf⟩ := gd_in hf
    refine va_lald (D := g.1) (f := (vL.2.2 0)) hx hb hK hP 1 1 rfl rfl h1 dX2_lane_5 ?_
    refine lv_iload_n hx hb dX2_lane_6 rfl (lv_at hl 2 rfl) ?_
    obtain ⟨r2, hg3, hf⟩ := o1_at hf
    refine k_siN ⟨hx, hb, hml, hown, htu⟩ hK hP hD hS hA hG (c_X7_hasLane l g (vL.2.2 0 (x1).toNatClampNeg) x2 r2 hg3) ⟨va_cnB 2 htu (gU_0 hcX7_hasLane.2.2) rfl rfl rfl (hG.1.2.2.1 ("FaultTests$Lanes", 18, yX7_hasLane, "FaultTests") (List.mem_of_getElem? (i := 7) rfl)) (htu _ hcX7_hasLane.2.1) hdX7_hasLane ⟨Nat.le_of_ble_eq_true rfl, Nat.le_of_ble_eq_true rfl⟩, htu _ hcX7_hasLane.1, trivial⟩ (As := [.long (vL.2.2 0 (x1).toNatClampNeg), .int x2]) (rest := []) rfl rfl hl.1 (Nat.le_of_ble_eq_true rfl) dX2_lane_7 (k1 := 0) (n1 := 0) rfl rfl ⟨Nat.zero_le _, Nat.zero_le _⟩ (fun H locs hP hD hS => ?_)
    refine lv_if_eq (tgt := 15) hx hb dX2_lane_10 (by decide) (fun c4 => ?_) (fun c4 => ?_)
    · have hf := it_t hf c4
      refine lv_aload_n hx hb dX2_lane_15 rfl (lv_at hl 0 rfl) ?_
      refine va_get (D := g.1) (ci := 2) (fs := fcL bL vL) (v := .ref (bL 2)) (C := RX2) (T := TX2) (N := 2) hx hb htu hinX2 hown hK hP 0 rfl rfl 1 (by decide) k_1_225 (fun _ h9 => h9) rfl dX2_lane_16 ?_
      refine lv_iload_n hx hb dX2_lane_19 rfl (lv_at hl 1 rfl) ?_
      obtain ⟨h5, hf⟩ := gd_in hf
      refine va_lald (D := g.1) (f := (vL.2.2 1)) hx hb hK hP 2 1 rfl rfl h5 dX2_lane_20 ?_
      refine lv_iload_n hx hb dX2_lane_21 rfl (lv_at hl 2 rfl) ?_
      obtain ⟨r6, hg7, hf⟩ := o1_at hf
      refine k_siN ⟨hx, hb, hml, hown, htu⟩ hK hP hD hS hA hG (c_X7_hasLane l g (vL.2.2 1 (x1).toNatClampNeg) x2 r6 hg7) ⟨va_cnB 2 htu (gU_0 hcX7_hasLane.2.2) rfl rfl rfl (hG.1.2.2.1 ("FaultTests$Lanes", 18, yX7_hasLane, "FaultTests") (List.mem_of_getElem? (i := 7) rfl)) (htu _ hcX7_hasLane.2.1) hdX7_hasLane ⟨Nat.le_of_ble_eq_true rfl, Nat.le_of_ble_eq_true rfl⟩, htu _ hcX7_hasLane.1, trivial⟩ (As := [.long (vL.2.2 1 (x1).toNatClampNeg), .int x2]) (rest := []) rfl rfl hl.1 (Nat.le_of_ble_eq_true rfl) dX2_lane_22 (k1 := 0) (n1 := 0) rfl rfl ⟨Nat.zero_le _, Nat.zero_le _⟩ (fun H locs hP hD hS => ?_)
      obtain ⟨k9, hk12, hf⟩ := jn_at hf
      have hJ10 : ∀ (t8 : Int32), k9 t8 = some r → ∀ (H : Heap) (locs : List Loc), va_P g.1 vwCl (cL g bL vL) H → va_D A (cL g bL vL) → va_S A s.heap H locs → ∀ ls : Array Slot, lv_has ls 3 [] → W p l e (headSpec wsX2_lane rmX2_lane).room s m ([.ref (bL 0), .int x1, .int x2] : List Value).toArray below meth c H locs 0 0 (MQ below (qI g A (cL g bL vL) r) ([.ref (bL 0), .int x1, .int x2] : List Value).toArray s 0 0 A) (F0 m 33 ls [.int t8]) := by
        intro t8 hf H locs hP hD hS ls hl
        rw [hk12] at hf
        dsimp only at hf
        clear hk12
        have e11 := Option.some.inj hf
        exact k_iret hx hb hr hlocks hK hP hD hS e11 dX2_lane_33
      refine lv_if_eq (tgt := 32) hx hb dX2_lane_25 (by decide) (fun c13 => ?_) (fun c13 => ?_)
      · have hf := it_t hf c13
        refine lv_iconst (v := (2 : Int32)) hx hb dX2_lane_32 (by decide) ?_
        exact hJ10 (2 : Int32) hf H locs hP hD hS _ (lv_sub hl [] rfl)
      · have hf := it_f hf c13
        refine lv_iconst (v := (1 : Int32)) hx hb dX2_lane_28 (by decide) ?_
        refine lv_goto (tgt := 33) hx hb dX2_lane_29 (by decide) ?_
        exact hJ10 (1 : Int32) hf H locs hP hD hS _ (lv_sub hl [] rfl)
    · have hf := it_f hf c4
      refine lv_iconst (v := (0 : Int32)) hx hb dX2_lane_13 (by decide) ?_
      have e14 := Option.some.inj hf
      exact k_iret hx hb hr hlocks hK hP hD hS e14 dX2_lane_14
  rw [hH, hlo] at hW
  exact hW
def f_X2_setFullInputs_L2 (x1 : Int32) (x2 : Int32) (self3 : Int32 → Vs → Option (Vs)) (x3_1 : Int32) (vL_2 : Vs) : Option (Vs) :=
  if x1 ≤ x3_1 then some (vL_2) else jn (fun (vL_8 : Vs) => gd (inb x3_1 24) (gd (inb x3_1 24) (bn (sJ vL_8 0 (x3_1).toNatClampNeg ((vL_8.2.2 1 (x3_1).toNatClampNeg) ^^^ (-1 : Int64))) (fun (vL_13 : Vs) => self3 (x3_1 + (1 : Int32)) vL_13)))) (fun k9 => if (6 : Int32) ≤ x3_1 then o1 (f_X0_hasBit x2 (x3_1 - (6 : Int32))) (fun (r16 : Int32) => jn (fun (t18 : Int64) => gd (inb x3_1 24) (bn (sJ vL_2 1 (x3_1).toNatClampNeg t18) (fun (vL_22 : Vs) => k9 vL_22))) (fun k19 => if r16 = 0 then k19 (0 : Int64) else k19 (-1 : Int64))) else gd (inb x3_1 6) (gd (inb x3_1 24) (bn (sJ vL_2 1 (x3_1).toNatClampNeg (lanesJ (x3_1).toNatClampNeg)) (fun (vL_27 : Vs) => k9 vL_27))))
def f_X2_setFullInputs (vL : Vs) (x1 : Int32) (x2 : Int32) : Option (Vs) :=
  lp (f_X2_setFullInputs_L2 x1 x2) (fun _ _ => none) FU (0 : Int32) vL
abbrev wsX2_setFullInputs : List Cond := .code yX2_setFullInputs cX2_setFullInputs 4 none :: UW
abbrev rmX2_setFullInputs : Room := { frames := 1, cells := 0, slots := 0, locals := 21 }
set_option maxHeartbeats 4000000 in
set_option maxRecDepth 100000 in
theorem c_X2_setFullInputs (l : Launch) (g : Gx) (bL : Nat → Nat) (vL : Vs) (x1 : Int32) (x2 : Int32) (vL1 : Vs) (hf : f_X2_setFullInputs vL x1 x2 = some vL1) : CtV l yX2_setFullInputs wsX2_setFullInputs rmX2_setFullInputs g [.ref (bL 0), .int x1, .int x2] (cL g bL vL) (cL g bL vL1) 0 0 := by
  unfold CtV
  intro sz
  refine Met.ofW (cc := cX2_setFullInputs) (maxL := 4) (ret := none) (by decide) rfl ?_
  intro p e s m args below meth c s₁ B hml hv
  obtain ⟨rfl, hsz, hP, hK, hD0, hG⟩ := hv
  have hx := B.exec
  have hb := B.bytes
  have hr := B.returns
  have hts := atoms_spec (ws := wsX2_setFullInputs) B.pre
  have hown : s.vm.findClass RX2 = some m.cls := findClass_of_methodNamed B.named
  have hlocks := B.notSynchronized
  subst hsz
  have hD := hD0.self (sz := s.heap.size)
  generalize hAe : va_A (cL g bL vL) s.heap.size = A at hD hG ⊢
  have hA : ∀ q : Nat, s.heap.size ≤ q → A q := fun q h => by rw [← hAe]; exact Or.inr h
  clear hAe hD0
  have hS : va_S A s.heap s.heap [] := va_S.rf
  have hl := lv_entry ([.ref (bL 0), .int x1, .int x2]) (n := 4) (Nat.le_of_ble_eq_true rfl)
  rw [lg_entry_eq]
  generalize (lg_sl ([.ref (bL 0), .int x1, .int x2]) ++ List.replicate (4 - (lg_sl ([.ref (bL 0), .int x1, .int x2])).length) Slot.unset).toArray = ls at hl ⊢
  have hl : lv_has ls 4 [(0, .ref (bL 0)), (1, .int x1), (2, .int x2)] := hl
  have htu : ∀ w ∈ UW, w.before _ s = true := fun w h => hts w (List.mem_cons_of_mem _ h)
  have k_1_223 := htu _ mw_1_223
  have k_1_225 := htu _ mw_1_225
  have k_2_110 := htu _ mw_2_110
  unfold f_X2_setFullInputs at hf
  obtain ⟨H, hH⟩ : ∃ z, z = s.heap := ⟨_, rfl⟩
  obtain ⟨locs, hlo⟩ : ∃ z : List Loc, z = [] := ⟨_, rfl⟩
  have hS : va_S A s.heap H locs := by rw [hH, hlo]; exact hS
  rw [← hH] at hP
  have hW : W p l e (headSpec wsX2_setFullInputs rmX2_setFullInputs).room s m ([.ref (bL 0), .int x1, .int x2] : List Value).toArray below meth c H locs 0 0 (MQ below (qV g A (cL g bL vL1)) ([.ref (bL 0), .int x1, .int x2] : List Value).toArray s 0 0 A) (F0 m 0 ls []) := by
    refine lv_iconst (v := (0 : Int32)) hx hb dX2_setFullInputs_0 (by decide) ?_
    refine lv_istore_n (lv' := [(3, .int (0 : Int32)), (0, .ref (bL 0)), (1, .int x1), (2, .int x2)]) hx hb dX2_setFullInputs_1 rfl hl (by decide) rfl (fun ls hl => ?_)
    have hL4 : ∀ (x3_1 : Int32) (vL_2 : Vs), lp (f_X2_setFullInputs_L2 x1 x2) (fun _ _ => none) FU x3_1 vL_2 = some vL1 → ∀ (H : Heap) (locs : List Loc), va_P g.1 vwCl (cL g bL vL_2) H → va_D A (cL g bL vL_2) → va_S A s.heap H locs → ∀ ls : Array Slot, lv_has ls 4 [(0, .ref (bL 0)), (1, .int x1), (2, .int x2), (3, .int x3_1)] → W p l e (headSpec wsX2_setFullInputs rmX2_setFullInputs).room s m ([.ref (bL 0), .int x1, .int x2] : List Value).toArray below meth c H locs 0 0 (MQ below (qV g A (cL g bL vL1)) ([.ref (bL 0), .int x1, .int x2] : List Value).toArray s 0 0 A) (F0 m 2 ls []) := by
      refine lp_ind (T := Int32 → Vs → Option (Vs)) (fun self3 => ∀ (x3_1 : Int32) (vL_2 : Vs), self3 x3_1 vL_2 = some vL1 → ∀ (H : Heap) (locs : List Loc), va_P g.1 vwCl (cL g bL vL_2) H → va_D A (cL g bL vL_2) → va_S A s.heap H locs → ∀ ls : Array Slot, lv_has ls 4 [(0, .ref (bL 0)), (1, .int x1), (2, .int x2), (3, .int x3_1)] → W p l e (headSpec wsX2_setFullInputs rmX2_setFullInputs).room s m ([.ref (bL 0), .int x1, .int x2] : List Value).toArray below meth c H locs 0 0 (MQ below (qV g A (cL g bL vL1)) ([.ref (bL 0), .int x1, .int x2] : List Value).toArray s 0 0 A) (F0 m 2 ls [])) ?_ ?_ FU
      · intro x3_1 vL_2 hf; cases hf
      · intro self3 ih5 x3_1 vL_2 hf H locs hP hD hS ls hl
        unfold f_X2_setFullInputs_L2 at hf
        refine lv_iload_n hx hb dX2_setFullInputs_2 rfl (lv_at hl 3 rfl) ?_
        refine lv_iload_n hx hb dX2_setFullInputs_3 rfl (lv_at hl 1 rfl) ?_
        refine lv_icmp_ge (tgt := 73) hx hb dX2_setFullInputs_4 (by decide) (fun c6 => ?_) (fun c6 => ?_)
        · have hf := it_t hf c6
          have e7 := Option.some.inj hf
          rw [e7] at hP hD
          exact k_vret hx hb hr hlocks hK hP hD hS dX2_setFullInputs_73
        · have hf := it_f hf c6
          refine lv_iload_n hx hb dX2_setFullInputs_7 rfl (lv_at hl 3 rfl) ?_
          refine lv_bipush (v := (6 : Int32)) hx hb dX2_setFullInputs_8 (by decide) ?_
          obtain ⟨k9, hk14, hf⟩ := jn_at hf
          have hJ10 : ∀ (vL_8 : Vs), k9 vL_8 = some vL1 → ∀ (H : Heap) (locs : List Loc), va_P g.1 vwCl (cL g bL vL_8) H → va_D A (cL g bL vL_8) → va_S A s.heap H locs → ∀ ls : Array Slot, lv_has ls 4 [(0, .ref (bL 0)), (1, .int x1), (2, .int x2), (3, .int x3_1)] → W p l e (headSpec wsX2_setFullInputs rmX2_setFullInputs).room s m ([.ref (bL 0), .int x1, .int x2] : List Value).toArray below meth c H locs 0 0 (MQ below (qV g A (cL g bL vL1)) ([.ref (bL 0), .int x1, .int x2] : List Value).toArray s 0 0 A) (F0 m 51 ls []) := by
            intro vL_8 hf H locs hP hD hS ls hl
            rw [hk14] at hf
            dsimp only at hf
            clear hk14
            refine lv_aload_n hx hb dX2_setFullInputs_51 rfl (lv_at hl 0 rfl) ?_
            refine va_get (D := g.1) (ci := 2) (fs := fcL bL vL_8) (v := .ref (bL 1)) (C := RX2) (T := TX2) (N := 2) hx hb htu hinX2 hown hK hP 0 rfl rfl 0 (by decide) k_1_223 (fun _ h9 => h9) rfl dX2_setFullInputs_52 ?_
            refine lv_iload_n hx hb dX2_setFullInputs_55 rfl (lv_at hl 3 rfl) ?_
            refine lv_aload_n hx hb dX2_setFullInputs_56 rfl (lv_at hl 0 rfl) ?_
            refine va_get (D := g.1) (ci := 2) (fs := fcL bL vL_8) (v := .ref (bL 2)) (C := RX2) (T := TX2) (N := 2) hx hb htu hinX2 hown hK hP 0 rfl rfl 1 (by decide) k_1_225 (fun _ h9 => h9) rfl dX2_setFullInputs_57 ?_
            refine lv_iload_n hx hb dX2_setFullInputs_60 rfl (lv_at hl 3 rfl) ?_
            obtain ⟨h11, hf⟩ := gd_in hf
            refine va_lald (D := g.1) (f := (vL_8.2.2 1)) hx hb hK hP 2 1 rfl rfl h11 dX2_setFullInputs_61 ?_
            refine lv_ldc2 (v := (-1 : Int64)) hx hb hown k_2_110 dX2_setFullInputs_62 ?_
            refine lv_lxor hx hb dX2_setFullInputs_65 ?_
            obtain ⟨h12, hf⟩ := gd_in hf
            refine va_last (D := g.1) (f := (vL_8.2.2 0)) hx hb hK hP hD hS 1 1 rfl rfl h12 dX2_setFullInputs_66 (fun H locs hP hD hS => ?_)
            obtain ⟨vL_13, evL_13⟩ : ∃ z, z = sJ vL_8 0 (x3_1).toNatClampNeg ((vL_8.2.2 1 (x3_1).toNatClampNeg) ^^^ (-1 : Int64)) := ⟨_, rfl⟩
            have hf := bn_at hf evL_13
            have hP : va_P g.1 vwCl (cL g bL vL_13) H := by rw [evL_13]; exact hP
            have hD : va_D A (cL g bL vL_13) := by rw [evL_13]; exact hD
            refine lv_iinc (v := (x3_1 + (1 : Int32))) (lv' := [(3, .int (x3_1 + (1 : Int32))), (0, .ref (bL 0)), (1, .int x1), (2, .int x2)]) hx hb dX2_setFullInputs_67 hl (k := 3) rfl rfl (by decide) rfl (fun ls hl => ?_)
            refine lv_goto (tgt := 2) hx hb dX2_setFullInputs_70 (by decide) ?_
            exact ih5 (x3_1 + (1 : Int32)) vL_13 hf H locs hP hD hS _ (lv_sub hl [1, 2, 3, 0] rfl)
          refine lv_icmp_ge (tgt := 27) hx hb dX2_setFullInputs_10 (by decide) (fun c15 => ?_) (fun c15 => ?_)
          · have hf := it_t hf c15
            refine lv_aload_n hx hb dX2_setFullInputs_27 rfl (lv_at hl 0 rfl) ?_
            refine va_get (D := g.1) (ci := 2) (fs := fcL bL vL_2) (v := .ref (bL 2)) (C := RX2) (T := TX2) (N := 2) hx hb htu hinX2 hown hK hP 0 rfl rfl 1 (by decide) k_1_225 (fun _ h9 => h9) rfl dX2_setFullInputs_28 ?_
            refine lv_iload_n hx hb dX2_setFullInputs_31 rfl (lv_at hl 3 rfl) ?_
            refine lv_iload_n hx hb dX2_setFullInputs_32 rfl (lv_at hl 2 rfl) ?_
            refine lv_iload_n hx hb dX2_setFullInputs_33 rfl (lv_at hl 3 rfl) ?_
            refine lv_bipush (v := (6 : Int32)) hx hb dX2_setFullInputs_34 (by decide) ?_
            refine lv_isub hx hb dX2_setFullInputs_36 ?_
            obtain ⟨r16, hg17, hf⟩ := o1_at hf
            refine k_si0 ⟨hx, hb, hml, hown, htu⟩ hK hP hD hS hA hG (c_X0_hasBit l g x2 (x3_1 - (6 : Int32)) r16 hg17) (va_cwS 2 htu (gU_S mw_2_78 hcX0_hasBit) rfl rfl rfl hdX0_hasBit ⟨Nat.le_of_ble_eq_true rfl, Nat.le_of_ble_eq_true rfl⟩) (As := [.int x2, .int (x3_1 - (6 : Int32))]) (rest := [.int x3_1, .ref (bL 2)]) rfl rfl hl.1 (Nat.le_of_ble_eq_true rfl) dX2_setFullInputs_37 (k1 := 0) (n1 := 0) rfl rfl ⟨Nat.zero_le _, Nat.zero_le _⟩ (fun H locs hP hD hS => ?_)
            obtain ⟨k19, hk23, hf⟩ := jn_at hf
            have hJ20 : ∀ (t18 : Int64), k19 t18 = some vL1 → ∀ (H : Heap) (locs : List Loc), va_P g.1 vwCl (cL g bL vL_2) H → va_D A (cL g bL vL_2) → va_S A s.heap H locs → ∀ ls : Array Slot, lv_has ls 4 [(0, .ref (bL 0)), (1, .int x1), (2, .int x2), (3, .int x3_1)] → W p l e (headSpec wsX2_setFullInputs rmX2_setFullInputs).room s m ([.ref (bL 0), .int x1, .int x2] : List Value).toArray below meth c H locs 0 0 (MQ below (qV g A (cL g bL vL1)) ([.ref (bL 0), .int x1, .int x2] : List Value).toArray s 0 0 A) (F0 m 50 ls [.long t18, .int x3_1, .ref (bL 2)]) := by
              intro t18 hf H locs hP hD hS ls hl
              rw [hk23] at hf
              dsimp only at hf
              clear hk23
              obtain ⟨h21, hf⟩ := gd_in hf
              refine va_last (D := g.1) (f := (vL_2.2.2 1)) hx hb hK hP hD hS 2 1 rfl rfl h21 dX2_setFullInputs_50 (fun H locs hP hD hS => ?_)
              obtain ⟨vL_22, evL_22⟩ : ∃ z, z = sJ vL_2 1 (x3_1).toNatClampNeg t18 := ⟨_, rfl⟩
              have hf := bn_at hf evL_22
              have hP : va_P g.1 vwCl (cL g bL vL_22) H := by rw [evL_22]; exact hP
              have hD : va_D A (cL g bL vL_22) := by rw [evL_22]; exact hD
              exact hJ10 vL_22 hf H locs hP hD hS _ (lv_sub hl [0, 1, 2, 3] rfl)
            refine lv_if_eq (tgt := 49) hx hb dX2_setFullInputs_40 (by decide) (fun c24 => ?_) (fun c24 => ?_)
            · have hf := it_t hf c24
              refine lv_lconst (v := (0 : Int64)) hx hb dX2_setFullInputs_49 (by decide) ?_
              exact hJ20 (0 : Int64) hf H locs hP hD hS _ (lv_sub hl [0, 1, 2, 3] rfl)
            · have hf := it_f hf c24
              refine lv_ldc2 (v := (-1 : Int64)) hx hb hown k_2_110 dX2_setFullInputs_43 ?_
              refine lv_goto (tgt := 50) hx hb dX2_setFullInputs_46 (by decide) ?_
              exact hJ20 (-1 : Int64) hf H locs hP hD hS _ (lv_sub hl [0, 1, 2, 3] rfl)
          · have hf := it_f hf c15
            refine lv_aload_n hx hb dX2_setFullInputs_13 rfl (lv_at hl 0 rfl) ?_
            refine va_get (D := g.1) (ci := 2) (fs := fcL bL vL_2) (v := .ref (bL 2)) (C := RX2) (T := TX2) (N := 2) hx hb htu hinX2 hown hK hP 0 rfl rfl 1 (by decide) k_1_225 (fun _ h9 => h9) rfl dX2_setFullInputs_14 ?_
            refine lv_iload_n hx hb dX2_setFullInputs_17 rfl (lv_at hl 3 rfl) ?_
            refine va_getsN (v := .ref (adS g 0)) hx hb hG.2.2.2.2.1.1 hS hown (va_Nw.use rfl (hG.1.2.1 _ (List.mem_of_getElem? (i := 0) rfl))) (fun _ h9 => h9) dX2_setFullInputs_18 ?_
            refine lv_iload_n hx hb dX2_setFullInputs_21 rfl (lv_at hl 3 rfl) ?_
            obtain ⟨h25, hf⟩ := gd_in hf
            refine va_tl (v := .long (lanesJ (x3_1).toNatClampNeg)) hx hb hG.2.2.2.2.1.2 hS h25 rfl dX2_setFullInputs_22 ?_
            obtain ⟨h26, hf⟩ := gd_in hf
            refine va_last (D := g.1) (f := (vL_2.2.2 1)) hx hb hK hP hD hS 2 1 rfl rfl h26 dX2_setFullInputs_23 (fun H locs hP hD hS => ?_)
            obtain ⟨vL_27, evL_27⟩ : ∃ z, z = sJ vL_2 1 (x3_1).toNatClampNeg (lanesJ (x3_1).toNatClampNeg) := ⟨_, rfl⟩
            have hf := bn_at hf evL_27
            have hP : va_P g.1 vwCl (cL g bL vL_27) H := by rw [evL_27]; exact hP
            have hD : va_D A (cL g bL vL_27) := by rw [evL_27]; exact hD
            refine lv_goto (tgt := 51) hx hb dX2_setFullInputs_24 (by decide) ?_
            exact hJ10 vL_27 hf H locs hP hD hS _ (lv_sub hl [0, 1, 2, 3] rfl)
    exact hL4 (0 : Int32) vL hf H locs hP hD hS _ (lv_sub hl [1, 2, 3, 0] rfl)
  rw [hH, hlo] at hW
  exact hW
def f_X2_setTestInputs_L24 (vT : Vs) (x3_1 : Int32) (self3 : Int32 → Vs → Option (Vs)) (self14 : Int32 → Vs → Option (Vs)) (x4_12 : Int32) (vL_13 : Vs) : Option (Vs) :=
  if (vT.1 0) ≤ x4_12 then self3 (x3_1 + (1 : Int32)) vL_13 else gd (inb x4_12 16) (o1 (f_X0_hasBit (vT.2.1 1 (x4_12).toNatClampNeg) x3_1) (fun (r19 : Int32) => jn (fun (vL_21 : Vs) => self14 (x4_12 + (1 : Int32)) vL_21) (fun k22 => if r19 = 0 then gd (inb x4_12 16) (o1 (f_X0_hasBit (vT.2.1 2 (x4_12).toNatClampNeg) x3_1) (fun (r27 : Int32) => if r27 = 0 then gd (inb x3_1 24) (gd (inb x3_1 24) (bn (sJ vL_13 0 (x3_1).toNatClampNeg ((vL_13.2.2 0 (x3_1).toNatClampNeg) ||| ((1 : Int64) <<< ((x4_12).toInt64 &&& 63)))) (fun (vL_32 : Vs) => k22 vL_32))) else k22 vL_13)) else gd (inb x3_1 24) (gd (inb x3_1 24) (bn (sJ vL_13 1 (x3_1).toNatClampNeg ((vL_13.2.2 1 (x3_1).toNatClampNeg) ||| ((1 : Int64) <<< ((x4_12).toInt64 &&& 63)))) (fun (vL_35 : Vs) => k22 vL_35))))))
def f_X2_setTestInputs_L2 (vT : Vs) (x1 : Int32) (self3 : Int32 → Vs → Option (Vs)) (x3_1 : Int32) (vL_2 : Vs) : Option (Vs) :=
  if x1 ≤ x3_1 then some (vL_2) else gd (inb x3_1 24) (bn (sJ vL_2 0 (x3_1).toNatClampNeg (0 : Int64)) (fun (vL_9 : Vs) => gd (inb x3_1 24) (bn (sJ vL_9 1 (x3_1).toNatClampNeg (0 : Int64)) (fun (vL_11 : Vs) => lp (f_X2_setTestInputs_L24 vT x3_1 self3) (fun _ _ => none) FU (0 : Int32) vL_11))))
def f_X2_setTestInputs (vL : Vs) (vT : Vs) (x1 : Int32) : Option (Vs) :=
  lp (f_X2_setTestInputs_L2 vT x1) (fun _ _ => none) FU (0 : Int32) vL
abbrev wsX2_setTestInputs : List Cond := .code yX2_setTestInputs cX2_setTestInputs 5 none :: UW
abbrev rmX2_setTestInputs : Room := { frames := 1, cells := 0, slots := 0, locals := 21 }
set_option maxHeartbeats 4000000 in
set_option maxRecDepth 100000 in
theorem c_X2_setTestInputs (l : Launch) (g : Gx) (bL : Nat → Nat) (vL : Vs) (bT : Nat → Nat) (vT : Vs) (x1 : Int32) (vL1 : Vs) (hf : f_X2_setTestInputs vL vT x1 = some vL1) : CtV l yX2_setTestInputs wsX2_setTestInputs rmX2_setTestInputs g [.ref (bL 0), .int x1, .ref (bT 0)] (cL g bL vL ++ (cT g bT vT)) (cL g bL vL1 ++ (cT g bT vT)) 0 0 := by
  unfold CtV
  intro sz
  refine Met.ofW (cc := cX2_setTestInputs) (maxL := 5) (ret := none) (by decide) rfl ?_
  intro p e s m args below meth c s₁ B hml hv
  obtain ⟨rfl, hsz, hP, hK, hD0, hG⟩ := hv
  have hx := B.exec
  have hb := B.bytes
  have hr := B.returns
  have hts := atoms_spec (ws := wsX2_setTestInputs) B.pre
  have hown : s.vm.findClass RX2 = some m.cls := findClass_of_methodNamed B.named
  have hlocks := B.notSynchronized
  subst hsz
  have hD := hD0.self (sz := s.heap.size)
  generalize hAe : va_A (cL g bL vL ++ (cT g bT vT)) s.heap.size = A at hD hG ⊢
  have hA : ∀ q : Nat, s.heap.size ≤ q → A q := fun q h => by rw [← hAe]; exact Or.inr h
  clear hAe hD0
  have hS : va_S A s.heap s.heap [] := va_S.rf
  have hl := lv_entry ([.ref (bL 0), .int x1, .ref (bT 0)]) (n := 5) (Nat.le_of_ble_eq_true rfl)
  rw [lg_entry_eq]
  generalize (lg_sl ([.ref (bL 0), .int x1, .ref (bT 0)]) ++ List.replicate (5 - (lg_sl ([.ref (bL 0), .int x1, .ref (bT 0)])).length) Slot.unset).toArray = ls at hl ⊢
  have hl : lv_has ls 5 [(0, .ref (bL 0)), (1, .int x1), (2, .ref (bT 0))] := hl
  have htu : ∀ w ∈ UW, w.before _ s = true := fun w h => hts w (List.mem_cons_of_mem _ h)
  have k_1_223 := htu _ mw_1_223
  have k_1_225 := htu _ mw_1_225
  have k_1_127 := htu _ mw_1_127
  have k_1_130 := htu _ mw_1_130
  have k_1_132 := htu _ mw_1_132
  unfold f_X2_setTestInputs at hf
  obtain ⟨H, hH⟩ : ∃ z, z = s.heap := ⟨_, rfl⟩
  obtain ⟨locs, hlo⟩ : ∃ z : List Loc, z = [] := ⟨_, rfl⟩
  have hS : va_S A s.heap H locs := by rw [hH, hlo]; exact hS
  rw [← hH] at hP
  have hW : W p l e (headSpec wsX2_setTestInputs rmX2_setTestInputs).room s m ([.ref (bL 0), .int x1, .ref (bT 0)] : List Value).toArray below meth c H locs 0 0 (MQ below (qV g A (cL g bL vL1 ++ (cT g bT vT))) ([.ref (bL 0), .int x1, .ref (bT 0)] : List Value).toArray s 0 0 A) (F0 m 0 ls []) := by
    refine lv_iconst (v := (0 : Int32)) hx hb dX2_setTestInputs_0 (by decide) ?_
    refine lv_istore_n (lv' := [(3, .int (0 : Int32)), (0, .ref (bL 0)), (1, .int x1), (2, .ref (bT 0))]) hx hb dX2_setTestInputs_1 rfl hl (by decide) rfl (fun ls hl => ?_)
    have hL4 : ∀ (x3_1 : Int32) (vL_2 : Vs), lp (f_X2_setTestInputs_L2 vT x1) (fun _ _ => none) FU x3_1 vL_2 = some vL1 → ∀ (H : Heap) (locs : List Loc), va_P g.1 vwCl (cL g bL vL_2 ++ (cT g bT vT)) H → va_D A (cL g bL vL_2 ++ (cT g bT vT)) → va_S A s.heap H locs → ∀ ls : Array Slot, lv_has ls 5 [(0, .ref (bL 0)), (1, .int x1), (2, .ref (bT 0)), (3, .int x3_1)] → W p l e (headSpec wsX2_setTestInputs rmX2_setTestInputs).room s m ([.ref (bL 0), .int x1, .ref (bT 0)] : List Value).toArray below meth c H locs 0 0 (MQ below (qV g A (cL g bL vL1 ++ (cT g bT vT))) ([.ref (bL 0), .int x1, .ref (bT 0)] : List Value).toArray s 0 0 A) (F0 m 2 ls []) := by
      refine lp_ind (T := Int32 → Vs → Option (Vs)) (fun self3 => ∀ (x3_1 : Int32) (vL_2 : Vs), self3 x3_1 vL_2 = some vL1 → ∀ (H : Heap) (locs : List Loc), va_P g.1 vwCl (cL g bL vL_2 ++ (cT g bT vT)) H → va_D A (cL g bL vL_2 ++ (cT g bT vT)) → va_S A s.heap H locs → ∀ ls : Array Slot, lv_has ls 5 [(0, .ref (bL 0)), (1, .int x1), (2, .ref (bT 0)), (3, .int x3_1)] → W p l e (headSpec wsX2_setTestInputs rmX2_setTestInputs).room s m ([.ref (bL 0), .int x1, .ref (bT 0)] : List Value).toArray below meth c H locs 0 0 (MQ below (qV g A (cL g bL vL1 ++ (cT g bT vT))) ([.ref (bL 0), .int x1, .ref (bT 0)] : List Value).toArray s 0 0 A) (F0 m 2 ls [])) ?_ ?_ FU
      · intro x3_1 vL_2 hf; cases hf
      · intro self3 ih5 x3_1 vL_2 hf H locs hP hD hS ls hl
        unfold f_X2_setTestInputs_L2 at hf
        refine lv_iload_n hx hb dX2_setTestInputs_2 rfl (lv_at hl 3 rfl) ?_
        refine lv_iload_n hx hb dX2_setTestInputs_3 rfl (lv_at hl 1 rfl) ?_
        refine lv_icmp_ge (tgt := 102) hx hb dX2_setTestInputs_4 (by decide) (fun c6 => ?_) (fun c6 => ?_)
        · have hf := it_t hf c6
          have e7 := Option.some.inj hf
          rw [e7] at hP hD
          exact k_vret hx hb hr hlocks hK hP hD hS dX2_setTestInputs_102
        · have hf := it_f hf c6
          refine lv_aload_n hx hb dX2_setTestInputs_7 rfl (lv_at hl 0 rfl) ?_
          refine va_get (D := g.1) (ci := 2) (fs := fcL bL vL_2) (v := .ref (bL 1)) (C := RX2) (T := TX2) (N := 2) hx hb htu hinX2 hown hK hP 0 rfl rfl 0 (by decide) k_1_223 (fun _ h9 => h9) rfl dX2_setTestInputs_8 ?_
          refine lv_iload_n hx hb dX2_setTestInputs_11 rfl (lv_at hl 3 rfl) ?_
          refine lv_lconst (v := (0 : Int64)) hx hb dX2_setTestInputs_12 (by decide) ?_
          obtain ⟨h8, hf⟩ := gd_in hf
          refine va_last (D := g.1) (f := (vL_2.2.2 0)) hx hb hK hP hD hS 1 1 rfl rfl h8 dX2_setTestInputs_13 (fun H locs hP hD hS => ?_)
          obtain ⟨vL_9, evL_9⟩ : ∃ z, z = sJ vL_2 0 (x3_1).toNatClampNeg (0 : Int64) := ⟨_, rfl⟩
          have hf := bn_at hf evL_9
          have hP : va_P g.1 vwCl (cL g bL vL_9 ++ (cT g bT vT)) H := by rw [evL_9]; exact hP
          have hD : va_D A (cL g bL vL_9 ++ (cT g bT vT)) := by rw [evL_9]; exact hD
          refine lv_aload_n hx hb dX2_setTestInputs_14 rfl (lv_at hl 0 rfl) ?_
          refine va_get (D := g.1) (ci := 2) (fs := fcL bL vL_9) (v := .ref (bL 2)) (C := RX2) (T := TX2) (N := 2) hx hb htu hinX2 hown hK hP 0 rfl rfl 1 (by decide) k_1_225 (fun _ h9 => h9) rfl dX2_setTestInputs_15 ?_
          refine lv_iload_n hx hb dX2_setTestInputs_18 rfl (lv_at hl 3 rfl) ?_
          refine lv_lconst (v := (0 : Int64)) hx hb dX2_setTestInputs_19 (by decide) ?_
          obtain ⟨h10, hf⟩ := gd_in hf
          refine va_last (D := g.1) (f := (vL_9.2.2 1)) hx hb hK hP hD hS 2 1 rfl rfl h10 dX2_setTestInputs_20 (fun H locs hP hD hS => ?_)
          obtain ⟨vL_11, evL_11⟩ : ∃ z, z = sJ vL_9 1 (x3_1).toNatClampNeg (0 : Int64) := ⟨_, rfl⟩
          have hf := bn_at hf evL_11
          have hP : va_P g.1 vwCl (cL g bL vL_11 ++ (cT g bT vT)) H := by rw [evL_11]; exact hP
          have hD : va_D A (cL g bL vL_11 ++ (cT g bT vT)) := by rw [evL_11]; exact hD
          refine lv_iconst (v := (0 : Int32)) hx hb dX2_setTestInputs_21 (by decide) ?_
          refine lv_istore (lv' := [(4, .int (0 : Int32)), (0, .ref (bL 0)), (1, .int x1), (2, .ref (bT 0)), (3, .int x3_1)]) hx hb dX2_setTestInputs_22 hl (by decide) rfl (fun ls hl => ?_)
          have hL15 : ∀ (x4_12 : Int32) (vL_13 : Vs), lp (f_X2_setTestInputs_L24 vT x3_1 self3) (fun _ _ => none) FU x4_12 vL_13 = some vL1 → ∀ (H : Heap) (locs : List Loc), va_P g.1 vwCl (cL g bL vL_13 ++ (cT g bT vT)) H → va_D A (cL g bL vL_13 ++ (cT g bT vT)) → va_S A s.heap H locs → ∀ ls : Array Slot, lv_has ls 5 [(0, .ref (bL 0)), (1, .int x1), (2, .ref (bT 0)), (3, .int x3_1), (4, .int x4_12)] → W p l e (headSpec wsX2_setTestInputs rmX2_setTestInputs).room s m ([.ref (bL 0), .int x1, .ref (bT 0)] : List Value).toArray below meth c H locs 0 0 (MQ below (qV g A (cL g bL vL1 ++ (cT g bT vT))) ([.ref (bL 0), .int x1, .ref (bT 0)] : List Value).toArray s 0 0 A) (F0 m 24 ls []) := by
            refine lp_ind (T := Int32 → Vs → Option (Vs)) (fun self14 => ∀ (x4_12 : Int32) (vL_13 : Vs), self14 x4_12 vL_13 = some vL1 → ∀ (H : Heap) (locs : List Loc), va_P g.1 vwCl (cL g bL vL_13 ++ (cT g bT vT)) H → va_D A (cL g bL vL_13 ++ (cT g bT vT)) → va_S A s.heap H locs → ∀ ls : Array Slot, lv_has ls 5 [(0, .ref (bL 0)), (1, .int x1), (2, .ref (bT 0)), (3, .int x3_1), (4, .int x4_12)] → W p l e (headSpec wsX2_setTestInputs rmX2_setTestInputs).room s m ([.ref (bL 0), .int x1, .ref (bT 0)] : List Value).toArray below meth c H locs 0 0 (MQ below (qV g A (cL g bL vL1 ++ (cT g bT vT))) ([.ref (bL 0), .int x1, .ref (bT 0)] : List Value).toArray s 0 0 A) (F0 m 24 ls [])) ?_ ?_ FU
            · intro x4_12 vL_13 hf; cases hf
            · intro self14 ih16 x4_12 vL_13 hf H locs hP hD hS ls hl
              unfold f_X2_setTestInputs_L24 at hf
              refine lv_iload hx hb dX2_setTestInputs_24 (lv_at hl 4 rfl) ?_
              refine lv_aload_n hx hb dX2_setTestInputs_26 rfl (lv_at hl 2 rfl) ?_
              refine va_get (D := g.1) (ci := 6) (fs := fcT bT vT) (v := .int (vT.1 0)) (C := RX6) (T := TX6) (N := 5) hx hb htu hinX6 hown hK hP 3 rfl rfl 0 (by decide) k_1_127 (fun _ h9 => h9) rfl dX2_setTestInputs_27 ?_
              refine lv_icmp_ge (tgt := 96) hx hb dX2_setTestInputs_30 (by decide) (fun c17 => ?_) (fun c17 => ?_)
              · have hf := it_t hf c17
                refine lv_iinc (v := (x3_1 + (1 : Int32))) (lv' := [(3, .int (x3_1 + (1 : Int32))), (0, .ref (bL 0)), (1, .int x1), (2, .ref (bT 0)), (4, .int x4_12)]) hx hb dX2_setTestInputs_96 hl (k := 3) rfl rfl (by decide) rfl (fun ls hl => ?_)
                refine lv_goto (tgt := 2) hx hb dX2_setTestInputs_99 (by decide) ?_
                exact ih5 (x3_1 + (1 : Int32)) vL_13 hf H locs hP hD hS _ (lv_sub hl [1, 2, 3, 0] rfl)
              · have hf := it_f hf c17
                refine lv_aload_n hx hb dX2_setTestInputs_33 rfl (lv_at hl 2 rfl) ?_
                refine va_get (D := g.1) (ci := 6) (fs := fcT bT vT) (v := .ref (bT 2)) (C := RX6) (T := TX6) (N := 5) hx hb htu hinX6 hown hK hP 3 rfl rfl 1 (by decide) k_1_130 (fun _ h9 => h9) rfl dX2_setTestInputs_34 ?_
                refine lv_iload hx hb dX2_setTestInputs_37 (lv_at hl 4 rfl) ?_
                obtain ⟨h18, hf⟩ := gd_in hf
                refine va_iald (D := g.1) (f := (vT.2.1 1)) hx hb hK hP 4 0 rfl rfl h18 dX2_setTestInputs_39 ?_
                refine lv_iload_n hx hb dX2_setTestInputs_40 rfl (lv_at hl 3 rfl) ?_
                obtain ⟨r19, hg20, hf⟩ := o1_at hf
                refine k_si0 ⟨hx, hb, hml, hown, htu⟩ hK hP hD hS hA hG (c_X0_hasBit l g (vT.2.1 1 (x4_12).toNatClampNeg) x3_1 r19 hg20) (va_cwS 2 htu (gU_S mw_2_78 hcX0_hasBit) rfl rfl rfl hdX0_hasBit ⟨Nat.le_of_ble_eq_true rfl, Nat.le_of_ble_eq_true rfl⟩) (As := [.int (vT.2.1 1 (x4_12).toNatClampNeg), .int x3_1]) (rest := []) rfl rfl hl.1 (Nat.le_of_ble_eq_true rfl) dX2_setTestInputs_41 (k1 := 0) (n1 := 0) rfl rfl ⟨Nat.zero_le _, Nat.zero_le _⟩ (fun H locs hP hD hS => ?_)
                obtain ⟨k22, hk24, hf⟩ := jn_at hf
                have hJ23 : ∀ (vL_21 : Vs), k22 vL_21 = some vL1 → ∀ (H : Heap) (locs : List Loc), va_P g.1 vwCl (cL g bL vL_21 ++ (cT g bT vT)) H → va_D A (cL g bL vL_21 ++ (cT g bT vT)) → va_S A s.heap H locs → ∀ ls : Array Slot, lv_has ls 5 [(0, .ref (bL 0)), (1, .int x1), (2, .ref (bT 0)), (3, .int x3_1), (4, .int x4_12)] → W p l e (headSpec wsX2_setTestInputs rmX2_setTestInputs).room s m ([.ref (bL 0), .int x1, .ref (bT 0)] : List Value).toArray below meth c H locs 0 0 (MQ below (qV g A (cL g bL vL1 ++ (cT g bT vT))) ([.ref (bL 0), .int x1, .ref (bT 0)] : List Value).toArray s 0 0 A) (F0 m 90 ls []) := by
                  intro vL_21 hf H locs hP hD hS ls hl
                  rw [hk24] at hf
                  dsimp only at hf
                  clear hk24
                  refine lv_iinc (v := (x4_12 + (1 : Int32))) (lv' := [(4, .int (x4_12 + (1 : Int32))), (0, .ref (bL 0)), (1, .int x1), (2, .ref (bT 0)), (3, .int x3_1)]) hx hb dX2_setTestInputs_90 hl (k := 4) rfl rfl (by decide) rfl (fun ls hl => ?_)
                  refine lv_goto (tgt := 24) hx hb dX2_setTestInputs_93 (by decide) ?_
                  exact ih16 (x4_12 + (1 : Int32)) vL_21 hf H locs hP hD hS _ (lv_sub hl [1, 2, 3, 4, 0] rfl)
                refine lv_if_eq (tgt := 63) hx hb dX2_setTestInputs_44 (by decide) (fun c25 => ?_) (fun c25 => ?_)
                · have hf := it_t hf c25
                  refine lv_aload_n hx hb dX2_setTestInputs_63 rfl (lv_at hl 2 rfl) ?_
                  refine va_get (D := g.1) (ci := 6) (fs := fcT bT vT) (v := .ref (bT 3)) (C := RX6) (T := TX6) (N := 5) hx hb htu hinX6 hown hK hP 3 rfl rfl 2 (by decide) k_1_132 (fun _ h9 => h9) rfl dX2_setTestInputs_64 ?_
                  refine lv_iload hx hb dX2_setTestInputs_67 (lv_at hl 4 rfl) ?_
                  obtain ⟨h26, hf⟩ := gd_in hf
                  refine va_iald (D := g.1) (f := (vT.2.1 2)) hx hb hK hP 5 0 rfl rfl h26 dX2_setTestInputs_69 ?_
                  refine lv_iload_n hx hb dX2_setTestInputs_70 rfl (lv_at hl 3 rfl) ?_
                  obtain ⟨r27, hg28, hf⟩ := o1_at hf
                  refine k_si0 ⟨hx, hb, hml, hown, htu⟩ hK hP hD hS hA hG (c_X0_hasBit l g (vT.2.1 2 (x4_12).toNatClampNeg) x3_1 r27 hg28) (va_cwS 2 htu (gU_S mw_2_78 hcX0_hasBit) rfl rfl rfl hdX0_hasBit ⟨Nat.le_of_ble_eq_true rfl, Nat.le_of_ble_eq_true rfl⟩) (As := [.int (vT.2.1 2 (x4_12).toNatClampNeg), .int x3_1]) (rest := []) rfl rfl hl.1 (Nat.le_of_ble_eq_true rfl) dX2_setTestInputs_71 (k1 := 0) (n1 := 0) rfl rfl ⟨Nat.zero_le _, Nat.zero_le _⟩ (fun H locs hP hD hS => ?_)
                  refine lv_if_ne (tgt := 90) hx hb dX2_setTestInputs_74 (by decide) (fun c29 => ?_) (fun c29 => ?_)
                  · have hf := it_f hf c29
                    exact hJ23 vL_13 hf H locs hP hD hS _ (lv_sub hl [0, 1, 2, 3, 4] rfl)
                  · have hf := it_t hf c29
                    refine lv_aload_n hx hb dX2_setTestInputs_77 rfl (lv_at hl 0 rfl) ?_
                    refine va_get (D := g.1) (ci := 2) (fs := fcL bL vL_13) (v := .ref (bL 1)) (C := RX2) (T := TX2) (N := 2) hx hb htu hinX2 hown hK hP 0 rfl rfl 0 (by decide) k_1_223 (fun _ h9 => h9) rfl dX2_setTestInputs_78 ?_
                    refine lv_iload_n hx hb dX2_setTestInputs_81 rfl (lv_at hl 3 rfl) ?_
                    refine lv_dup2_11 hx hb dX2_setTestInputs_82 rfl rfl ?_
                    obtain ⟨h30, hf⟩ := gd_in hf
                    refine va_lald (D := g.1) (f := (vL_13.2.2 0)) hx hb hK hP 1 1 rfl rfl h30 dX2_setTestInputs_83 ?_
                    refine lv_lconst (v := (1 : Int64)) hx hb dX2_setTestInputs_84 (by decide) ?_
                    refine lv_iload hx hb dX2_setTestInputs_85 (lv_at hl 4 rfl) ?_
                    refine lv_lshl (v := ((1 : Int64) <<< ((x4_12).toInt64 &&& 63))) hx hb dX2_setTestInputs_87 rfl ?_
                    refine lv_lor hx hb dX2_setTestInputs_88 ?_
                    obtain ⟨h31, hf⟩ := gd_in hf
                    refine va_last (D := g.1) (f := (vL_13.2.2 0)) hx hb hK hP hD hS 1 1 rfl rfl h31 dX2_setTestInputs_89 (fun H locs hP hD hS => ?_)
                    obtain ⟨vL_32, evL_32⟩ : ∃ z, z = sJ vL_13 0 (x3_1).toNatClampNeg ((vL_13.2.2 0 (x3_1).toNatClampNeg) ||| ((1 : Int64) <<< ((x4_12).toInt64 &&& 63))) := ⟨_, rfl⟩
                    have hf := bn_at hf evL_32
                    have hP : va_P g.1 vwCl (cL g bL vL_32 ++ (cT g bT vT)) H := by rw [evL_32]; exact hP
                    have hD : va_D A (cL g bL vL_32 ++ (cT g bT vT)) := by rw [evL_32]; exact hD
                    exact hJ23 vL_32 hf H locs hP hD hS _ (lv_sub hl [0, 1, 2, 3, 4] rfl)
                · have hf := it_f hf c25
                  refine lv_aload_n hx hb dX2_setTestInputs_47 rfl (lv_at hl 0 rfl) ?_
                  refine va_get (D := g.1) (ci := 2) (fs := fcL bL vL_13) (v := .ref (bL 2)) (C := RX2) (T := TX2) (N := 2) hx hb htu hinX2 hown hK hP 0 rfl rfl 1 (by decide) k_1_225 (fun _ h9 => h9) rfl dX2_setTestInputs_48 ?_
                  refine lv_iload_n hx hb dX2_setTestInputs_51 rfl (lv_at hl 3 rfl) ?_
                  refine lv_dup2_11 hx hb dX2_setTestInputs_52 rfl rfl ?_
                  obtain ⟨h33, hf⟩ := gd_in hf
                  refine va_lald (D := g.1) (f := (vL_13.2.2 1)) hx hb hK hP 2 1 rfl rfl h33 dX2_setTestInputs_53 ?_
                  refine lv_lconst (v := (1 : Int64)) hx hb dX2_setTestInputs_54 (by decide) ?_
                  refine lv_iload hx hb dX2_setTestInputs_55 (lv_at hl 4 rfl) ?_
                  refine lv_lshl (v := ((1 : Int64) <<< ((x4_12).toInt64 &&& 63))) hx hb dX2_setTestInputs_57 rfl ?_
                  refine lv_lor hx hb dX2_setTestInputs_58 ?_
                  obtain ⟨h34, hf⟩ := gd_in hf
                  refine va_last (D := g.1) (f := (vL_13.2.2 1)) hx hb hK hP hD hS 2 1 rfl rfl h34 dX2_setTestInputs_59 (fun H locs hP hD hS => ?_)
                  obtain ⟨vL_35, evL_35⟩ : ∃ z, z = sJ vL_13 1 (x3_1).toNatClampNeg ((vL_13.2.2 1 (x3_1).toNatClampNeg) ||| ((1 : Int64) <<< ((x4_12).toInt64 &&& 63))) := ⟨_, rfl⟩
                  have hf := bn_at hf evL_35
                  have hP : va_P g.1 vwCl (cL g bL vL_35 ++ (cT g bT vT)) H := by rw [evL_35]; exact hP
                  have hD : va_D A (cL g bL vL_35 ++ (cT g bT vT)) := by rw [evL_35]; exact hD
                  refine lv_goto (tgt := 90) hx hb dX2_setTestInputs_60 (by decide) ?_
                  exact hJ23 vL_35 hf H locs hP hD hS _ (lv_sub hl [0, 1, 2, 3, 4] rfl)
          exact hL15 (0 : Int32) vL_11 hf H locs hP hD hS _ (lv_sub hl [1, 2, 3, 4, 0] rfl)
    exact hL4 (0 : Int32) vL hf H locs hP hD hS _ (lv_sub hl [1, 2, 3, 0] rfl)
  rw [hH, hlo] at hW
  exact hW
def f_X2_runGate_L187 (vL : Vs) (vC : Vs) (x2 : Int32) (self12 : Int64 → Int64 → Int32 → Option (Vs)) (x5_9 : Int64) (x7_10 : Int64) (x9_11 : Int32) : Option (Vs) :=
  gd (inb x2 24) (if (vC.2.1 5 (x2).toNatClampNeg) ≤ x9_11 then jn (fun (t17 : Int32) => jn (fun (t20 : Int64) => gd (inb x2 24) (bn (sJ vL 0 (x2).toNatClampNeg t20) (fun (vL_24 : Vs) => jn (fun (t25 : Int64) => gd (inb x2 24) (bn (sJ vL_24 1 (x2).toNatClampNeg t25) (fun (vL_29 : Vs) => some (vL_29)))) (fun k26 => if t17 = 0 then k26 x7_10 else k26 x5_9)))) (fun k21 => if t17 = 0 then k21 x5_9 else k21 x7_10)) (fun k18 => jn (k18 (1 : Int32)) (fun k36 => if (vC.2.1 4 (x2).toNatClampNeg) = (2 : Int32) then k36 else if (vC.2.1 4 (x2).toNatClampNeg) = (3 : Int32) then k36 else if (vC.2.1 4 (x2).toNatClampNeg) = (5 : Int32) then k36 else if (vC.2.1 4 (x2).toNatClampNeg) = (6 : Int32) then k36 else k18 (0 : Int32))) else gd (inb ((x2 * (4 : Int32)) + x9_11) 96) (gd (inb (vC.2.1 6 (((x2 * (4 : Int32)) + x9_11)).toNatClampNeg) 24) (bn ((vL.2.2 0 ((vC.2.1 6 (((x2 * (4 : Int32)) + x9_11)).toNatClampNeg)).toNatClampNeg)) (fun (y45 : Int64) => gd (inb ((x2 * (4 : Int32)) + x9_11) 96) (gd (inb (vC.2.1 6 (((x2 * (4 : Int32)) + x9_11)).toNatClampNeg) 24) (bn ((vL.2.2 1 ((vC.2.1 6 (((x2 * (4 : Int32)) + x9_11)).toNatClampNeg)).toNatClampNeg)) (fun (y48 : Int64) => jn (fun (x5_49 : Int64) (x7_50 : Int64) => self12 x5_49 x7_50 (x9_11 + (1 : Int32))) (fun k51 => jn (k51 (x5_9 ||| y45) (x7_10 &&& y48)) (fun k54 => if (vC.2.1 4 (x2).toNatClampNeg) = 0 then k54 else if (vC.2.1 4 (x2).toNatClampNeg) = (2 : Int32) then k54 else jn (k51 (x5_9 &&& y45) (x7_10 ||| y48)) (fun k59 => if (vC.2.1 4 (x2).toNatClampNeg) = (1 : Int32) then k59 else if (vC.2.1 4 (x2).toNatClampNeg) = (3 : Int32) then k59 else k51 ((x5_9 &&& y45) ||| (x7_10 &&& y48)) ((x5_9 &&& y48) ||| (x7_10 &&& y45))))))))))))
def f_X2_runGate (vL : Vs) (vC : Vs) (x2 : Int32) : Option (Vs) :=
  gd (inb x2 24) (if (vC.2.1 4 (x2).toNatClampNeg) = (8 : Int32) then gd (inb (x2 * (4 : Int32)) 96) (gd (inb ((x2 * (4 : Int32)) + (1 : Int32)) 96) (bn ((vC.2.1 6 (((x2 * (4 : Int32)) + (1 : Int32))).toNatClampNeg)) (fun (y66 : Int32) => gd (inb ((x2 * (4 : Int32)) + (2 : Int32)) 96) (bn ((vC.2.1 6 (((x2 * (4 : Int32)) + (2 : Int32))).toNatClampNeg)) (fun (y68 : Int32) => gd (inb (vC.2.1 6 ((x2 * (4 : Int32))).toNatClampNeg) 24) (gd (inb y66 24) (gd (inb (vC.2.1 6 ((x2 * (4 : Int32))).toNatClampNeg) 24) (gd (inb y68 24) (gd (inb y66 24) (gd (inb y68 24) (gd (inb x2 24) (bn (sJ vL 0 (x2).toNatClampNeg ((((vL.2.2 0 ((vC.2.1 6 ((x2 * (4 : Int32))).toNatClampNeg)).toNatClampNeg) &&& (vL.2.2 0 (y66).toNatClampNeg)) ||| ((vL.2.2 1 ((vC.2.1 6 ((x2 * (4 : Int32))).toNatClampNeg)).toNatClampNeg) &&& (vL.2.2 0 (y68).toNatClampNeg))) ||| ((vL.2.2 0 (y66).toNatClampNeg) &&& (vL.2.2 0 (y68).toNatClampNeg)))) (fun (vL_76 : Vs) => gd (inb (vC.2.1 6 ((x2 * (4 : Int32))).toNatClampNeg) 24) (gd (inb y66 24) (gd (inb (vC.2.1 6 ((x2 * (4 : Int32))).toNatClampNeg) 24) (gd (inb y68 24) (gd (inb y66 24) (gd (inb y68 24) (gd (inb x2 24) (bn (sJ vL_76 1 (x2).toNatClampNeg ((((vL_76.2.2 0 ((vC.2.1 6 ((x2 * (4 : Int32))).toNatClampNeg)).toNatClampNeg) &&& (vL_76.2.2 1 (y66).toNatClampNeg)) ||| ((vL_76.2.2 1 ((vC.2.1 6 ((x2 * (4 : Int32))).toNatClampNeg)).toNatClampNeg) &&& (vL_76.2.2 1 (y68).toNatClampNeg))) ||| ((vL_76.2.2 1 (y66).toNatClampNeg) &&& (vL_76.2.2 1 (y68).toNatClampNeg)))) (fun (vL_84 : Vs) => some (vL_84)))))))))))))))))))))) else gd (inb (x2 * (4 : Int32)) 96) (gd (inb (vC.2.1 6 ((x2 * (4 : Int32))).toNatClampNeg) 24) (bn ((vL.2.2 0 ((vC.2.1 6 ((x2 * (4 : Int32))).toNatClampNeg)).toNatClampNeg)) (fun (y5 : Int64) => gd (inb (x2 * (4 : Int32)) 96) (gd (inb (vC.2.1 6 ((x2 * (4 : Int32))).toNatClampNeg) 24) (bn ((vL.2.2 1 ((vC.2.1 6 ((x2 * (4 : Int32))).toNatClampNeg)).toNatClampNeg)) (fun (y8 : Int64) => lp (f_X2_runGate_L187 vL vC x2) (fun _ _ _ => none) FU y5 y8 (1 : Int32))))))))
abbrev wsX2_runGate : List Cond := .code yX2_runGate cX2_runGate 16 none :: UW
abbrev rmX2_runGate : Room := { frames := 0, cells := 0, slots := 0, locals := 0 }
set_option maxHeartbeats 4000000 in
set_option maxRecDepth 100000 in
theorem c_X2_runGate (l : Launch) (g : Gx) (bL : Nat → Nat) (vL : Vs) (bC : Nat → Nat) (vC : Vs) (x2 : Int32) (vL1 : Vs) (hf : f_X2_runGate vL vC x2 = some vL1) : CtV l yX2_runGate wsX2_runGate rmX2_runGate g [.ref (bL 0), .ref (bC 0), .int x2] (cL g bL vL ++ (cC g bC vC)) (cL g bL vL1 ++ (cC g bC vC)) 0 0 := by
  unfold CtV
  intro sz
  refine Met.ofW (cc := cX2_runGate) (maxL := 16) (ret := none) (by decide) rfl ?_
  intro p e s m args below meth c s₁ B hml hv
  obtain ⟨rfl, hsz, hP, hK, hD0, hG⟩ := hv
  have hx := B.exec
  have hb := B.bytes
  have hr := B.returns
  have hts := atoms_spec (ws := wsX2_runGate) B.pre
  have hown : s.vm.findClass RX2 = some m.cls := findClass_of_methodNamed B.named
  have hlocks := B.notSynchronized
  subst hsz
  have hD := hD0.self (sz := s.heap.size)
  generalize hAe : va_A (cL g bL vL ++ (cC g bC vC)) s.heap.size = A at hD hG ⊢
  have hA : ∀ q : Nat, s.heap.size ≤ q → A q := fun q h => by rw [← hAe]; exact Or.inr h
  clear hAe hD0
  have hS : va_S A s.heap s.heap [] := va_S.rf
  have hl := lv_entry ([.ref (bL 0), .ref (bC 0), .int x2]) (n := 16) (Nat.le_of_ble_eq_true rfl)
  rw [lg_entry_eq]
  generalize (lg_sl ([.ref (bL 0), .ref (bC 0), .int x2]) ++ List.replicate (16 - (lg_sl ([.ref (bL 0), .ref (bC 0), .int x2])).length) Slot.unset).toArray = ls at hl ⊢
  have hl : lv_has ls 16 [(0, .ref (bL 0)), (1, .ref (bC 0)), (2, .int x2)] := hl
  have htu : ∀ w ∈ UW, w.before _ s = true := fun w h => hts w (List.mem_cons_of_mem _ h)
  have k_1_73 := htu _ mw_1_73
  have k_1_223 := htu _ mw_1_223
  have k_1_77 := htu _ mw_1_77
  have k_1_225 := htu _ mw_1_225
  have k_1_75 := htu _ mw_1_75
  unfold f_X2_runGate at hf
  obtain ⟨H, hH⟩ : ∃ z, z = s.heap := ⟨_, rfl⟩
  obtain ⟨locs, hlo⟩ : ∃ z : List Loc, z = [] := ⟨_, rfl⟩
  have hS : va_S A s.heap H locs := by rw [hH, hlo]; exact hS
  rw [← hH] at hP
  have hW : W p l e (headSpec wsX2_runGate rmX2_runGate).room s m ([.ref (bL 0), .ref (bC 0), .int x2] : List Value).toArray below meth c H locs 0 0 (MQ below (qV g A (cL g bL vL1 ++ (cC g bC vC))) ([.ref (bL 0), .ref (bC 0), .int x2] : List Value).toArray s 0 0 A) (F0 m 0 ls []) := by
    refine lv_aload_n hx hb dX2_runGate_0 rfl (lv_at hl 1 rfl) ?_
    refine va_get (D := g.1) (ci := 0) (fs := fcC bC vC) (v := .ref (bC 5)) (C := RX0) (T := TX0) (N := 14) hx hb htu hinX0 hown hK hP 3 rfl rfl 4 (by decide) k_1_73 (fun _ h9 => h9) rfl dX2_runGate_1 ?_
    refine lv_iload_n hx hb dX2_runGate_4 rfl (lv_at hl 2 rfl) ?_
    obtain ⟨h1, hf⟩ := gd_in hf
    refine va_iald (D := g.1) (f := (vC.2.1 4)) hx hb hK hP 4 0 rfl rfl h1 dX2_runGate_5 ?_
    refine lv_istore_n (lv' := [(3, .int (vC.2.1 4 (x2).toNatClampNeg)), (0, .ref (bL 0)), (1, .ref (bC 0)), (2, .int x2)]) hx hb dX2_runGate_6 rfl hl (by decide) rfl (fun ls hl => ?_)
    refine lv_iload_n hx hb dX2_runGate_7 rfl (lv_at hl 3 rfl) ?_
    refine lv_iconst (v := (4 : Int32)) hx hb dX2_runGate_8 (by decide) ?_
    refine lv_imul hx hb dX2_runGate_9 ?_
    refine lv_istore (lv' := [(4, .int (x2 * (4 : Int32))), (3, .int (vC.2.1 4 (x2).toNatClampNeg)), (0, .ref (bL 0)), (1, .ref (bC 0)), (2, .int x2)]) hx hb dX2_runGate_10 hl (by decide) rfl (fun ls hl => ?_)
    refine lv_iload_n hx hb dX2_runGate_12 rfl (lv_at hl 1 rfl) ?_
    refine lv_bipush (v := (8 : Int32)) hx hb dX2_runGate_13 (by decide) ?_
    refine lv_icmp_ne (tgt := 156) hx hb dX2_runGate_15 (by decide) (fun c2 => ?_) (fun c2 => ?_)
    · have hf := it_f hf c2
      refine lv_aload_n hx hb dX2_runGate_156 rfl (lv_at hl 2 rfl) ?_
      refine va_get (D := g.1) (ci := 2) (fs := fcL bL vL) (v := .ref (bL 1)) (C := RX2) (T := TX2) (N := 2) hx hb htu hinX2 hown hK hP 0 rfl rfl 0 (by decide) k_1_223 (fun _ h9 => h9) rfl dX2_runGate_157 ?_
      refine lv_aload_n hx hb dX2_runGate_160 rfl (lv_at hl 3 rfl) ?_
      refine va_get (D := g.1) (ci := 0) (fs := fcC bC vC) (v := .ref (bC 7)) (C := RX0) (T := TX0) (N := 14) hx hb htu hinX0 hown hK hP 3 rfl rfl 6 (by decide) k_1_77 (fun _ h9 => h9) rfl dX2_runGate_161 ?_
      refine lv_iload hx hb dX2_runGate_164 (lv_at hl 0 rfl) ?_
      obtain ⟨h3, hf⟩ := gd_in hf
      refine va_iald (D := g.1) (f := (vC.2.1 6)) hx hb hK hP 6 0 rfl rfl h3 dX2_runGate_166 ?_
      obtain ⟨h4, hf⟩ := gd_in hf
      refine va_lald (D := g.1) (f := (vL.2.2 0)) hx hb hK hP 1 1 rfl rfl h4 dX2_runGate_167 ?_
      refine lv_topl (fun y5 ey5 => ?_)
      have hf := bn_at hf ey5
      refine lv_lstore (lv' := [(5, .long y5), (4, .int (x2 * (4 : Int32))), (3, .int (vC.2.1 4 (x2).toNatClampNeg)), (0, .ref (bL 0)), (1, .ref (bC 0)), (2, .int x2)]) hx hb dX2_runGate_168 hl (by decide) rfl (fun ls hl => ?_)
      refine lv_aload_n hx hb dX2_runGate_170 rfl (lv_at hl 3 rfl) ?_
      refine va_get (D := g.1) (ci := 2) (fs := fcL bL vL) (v := .ref (bL 2)) (C := RX2) (T := TX2) (N := 2) hx hb htu hinX2 hown hK hP 0 rfl rfl 1 (by decide) k_1_225 (fun _ h9 => h9) rfl dX2_runGate_171 ?_
      refine lv_aload_n hx hb dX2_runGate_174 rfl (lv_at hl 4 rfl) ?_
      refine va_get (D := g.1) (ci := 0) (fs := fcC bC vC) (v := .ref (bC 7)) (C := RX0) (T := TX0) (N := 14) hx hb htu hinX0 hown hK hP 3 rfl rfl 6 (by decide) k_1_77 (fun _ h9 => h9) rfl dX2_runGate_175 ?_
      refine lv_iload hx hb dX2_runGate_178 (lv_at hl 1 rfl) ?_
      obtain ⟨h6, hf⟩ := gd_in hf
      refine va_iald (D := g.1) (f := (vC.2.1 6)) hx hb hK hP 6 0 rfl rfl h6 dX2_runGate_180 ?_
      obtain ⟨h7, hf⟩ := gd_in hf
      refine va_lald (D := g.1) (f := (vL.2.2 1)) hx hb hK hP 2 1 rfl rfl h7 dX2_runGate_181 ?_
      refine lv_topl (fun y8 ey8 => ?_)
      have hf := bn_at hf ey8
      refine lv_lstore (lv' := [(7, .long y8), (5, .long y5), (4, .int (x2 * (4 : Int32))), (3, .int (vC.2.1 4 (x2).toNatClampNeg)), (0, .ref (bL 0)), (1, .ref (bC 0)), (2, .int x2)]) hx hb dX2_runGate_182 hl (by decide) rfl (fun ls hl => ?_)
      refine lv_iconst (v := (1 : Int32)) hx hb dX2_runGate_184 (by decide) ?_
      refine lv_istore (lv' := [(9, .int (1 : Int32)), (7, .long y8), (5, .long y5), (4, .int (x2 * (4 : Int32))), (3, .int (vC.2.1 4 (x2).toNatClampNeg)), (0, .ref (bL 0)), (1, .ref (bC 0)), (2, .int x2)]) hx hb dX2_runGate_185 hl (by decide) rfl (fun ls hl => ?_)
      have hL13 : ∀ (x5_9 : Int64) (x7_10 : Int64) (x9_11 : Int32), lp (f_X2_runGate_L187 vL vC x2) (fun _ _ _ => none) FU x5_9 x7_10 x9_11 = some vL1 → ∀ (H : Heap) (locs : List Loc), va_P g.1 vwCl (cL g bL vL ++ (cC g bC vC)) H → va_D A (cL g bL vL ++ (cC g bC vC)) → va_S A s.heap H locs → ∀ ls : Array Slot, lv_has ls 16 [(0, .ref (bL 0)), (1, .ref (bC 0)), (2, .int x2), (3, .int (vC.2.1 4 (x2).toNatClampNeg)), (4, .int (x2 * (4 : Int32))), (5, .long x5_9), (7, .long x7_10), (9, .int x9_11)] → W p l e (headSpec wsX2_runGate rmX2_runGate).room s m ([.ref (bL 0), .ref (bC 0), .int x2] : List Value).toArray below meth c H locs 0 0 (MQ below (qV g A (cL g bL vL1 ++ (cC g bC vC))) ([.ref (bL 0), .ref (bC 0), .int x2] : List Value).toArray s 0 0 A) (F0 m 187 ls []) := by
        refine lp_ind (T := Int64 → Int64 → Int32 → Option (Vs)) (fun self12 => ∀ (x5_9 : Int64) (x7_10 : Int64) (x9_11 : Int32), self12 x5_9 x7_10 x9_11 = some vL1 → ∀ (H : Heap) (locs : List Loc), va_P g.1 vwCl (cL g bL vL ++ (cC g bC vC)) H → va_D A (cL g bL vL ++ (cC g bC vC)) → va_S A s.heap H locs → ∀ ls : Array Slot, lv_has ls 16 [(0, .ref (bL 0)), (1, .ref (bC 0)), (2, .int x2), (3, .int (vC.2.1 4 (x2).toNatClampNeg)), (4, .int (x2 * (4 : Int32))), (5, .long x5_9), (7, .long x7_10), (9, .int x9_11)] → W p l e (headSpec wsX2_runGate rmX2_runGate).room s m ([.ref (bL 0), .ref (bC 0), .int x2] : List Value).toArray below meth c H locs 0 0 (MQ below (qV g A (cL g bL vL1 ++ (cC g bC vC))) ([.ref (bL 0), .ref (bC 0), .int x2] : List Value).toArray s 0 0 A) (F0 m 187 ls [])) ?_ ?_ FU
        · intro x5_9 x7_10 x9_11 hf; cases hf
        · intro self12 ih14 x5_9 x7_10 x9_11 hf H locs hP hD hS ls hl
          unfold f_X2_runGate_L187 at hf
          refine lv_iload hx hb dX2_runGate_187 (lv_at hl 7 rfl) ?_
          refine lv_aload_n hx hb dX2_runGate_189 rfl (lv_at hl 1 rfl) ?_
          refine va_get (D := g.1) (ci := 0) (fs := fcC bC vC) (v := .ref (bC 6)) (C := RX0) (T := TX0) (N := 14) hx hb htu hinX0 hown hK hP 3 rfl rfl 5 (by decide) k_1_75 (fun _ h9 => h9) rfl dX2_runGate_190 ?_
          refine lv_iload_n hx hb dX2_runGate_193 rfl (lv_at hl 2 rfl) ?_
          obtain ⟨h15, hf⟩ := gd_in hf
          refine va_iald (D := g.1) (f := (vC.2.1 5)) hx hb hK hP 5 0 rfl rfl h15 dX2_runGate_194 ?_
          refine lv_icmp_ge (tgt := 321) hx hb dX2_runGate_195 (by decide) (fun c16 => ?_) (fun c16 => ?_)
          · have hf := it_t hf c16
            refine lv_iload_n hx hb dX2_runGate_321 rfl (lv_at hl 3 rfl) ?_
            refine lv_iconst (v := (2 : Int32)) hx hb dX2_runGate_322 (by decide) ?_
            obtain ⟨k18, hk35, hf⟩ := jn_at hf
            have hJ19 : ∀ (t17 : Int32), k18 t17 = some vL1 → ∀ (H : Heap) (locs : List Loc), va_P g.1 vwCl (cL g bL vL ++ (cC g bC vC)) H → va_D A (cL g bL vL ++ (cC g bC vC)) → va_S A s.heap H locs → ∀ ls : Array Slot, lv_has ls 16 [(0, .ref (bL 0)), (2, .int x2), (5, .long x5_9), (7, .long x7_10)] → W p l e (headSpec wsX2_runGate rmX2_runGate).room s m ([.ref (bL 0), .ref (bC 0), .int x2] : List Value).toArray below meth c H locs 0 0 (MQ below (qV g A (cL g bL vL1 ++ (cC g bC vC))) ([.ref (bL 0), .ref (bC 0), .int x2] : List Value).toArray s 0 0 A) (F0 m 347 ls [.int t17]) := by
              intro t17 hf H locs hP hD hS ls hl
              rw [hk35] at hf
              dsimp only at hf
              clear hk35
              refine lv_istore (lv' := [(9, .int t17), (0, .ref (bL 0)), (2, .int x2), (5, .long x5_9), (7, .long x7_10)]) hx hb dX2_runGate_347 hl (by decide) rfl (fun ls hl => ?_)
              refine lv_aload_n hx hb dX2_runGate_349 rfl (lv_at hl 1 rfl) ?_
              refine va_get (D := g.1) (ci := 2) (fs := fcL bL vL) (v := .ref (bL 1)) (C := RX2) (T := TX2) (N := 2) hx hb htu hinX2 hown hK hP 0 rfl rfl 0 (by decide) k_1_223 (fun _ h9 => h9) rfl dX2_runGate_350 ?_
              refine lv_iload_n hx hb dX2_runGate_353 rfl (lv_at hl 2 rfl) ?_
              refine lv_iload hx hb dX2_runGate_354 (lv_at hl 0 rfl) ?_
              obtain ⟨k21, hk33, hf⟩ := jn_at hf
              have hJ22 : ∀ (t20 : Int64), k21 t20 = some vL1 → ∀ (H : Heap) (locs : List Loc), va_P g.1 vwCl (cL g bL vL ++ (cC g bC vC)) H → va_D A (cL g bL vL ++ (cC g bC vC)) → va_S A s.heap H locs → ∀ ls : Array Slot, lv_has ls 16 [(0, .ref (bL 0)), (2, .int x2), (5, .long x5_9), (7, .long x7_10), (9, .int t17)] → W p l e (headSpec wsX2_runGate rmX2_runGate).room s m ([.ref (bL 0), .ref (bC 0), .int x2] : List Value).toArray below meth c H locs 0 0 (MQ below (qV g A (cL g bL vL1 ++ (cC g bC vC))) ([.ref (bL 0), .ref (bC 0), .int x2] : List Value).toArray s 0 0 A) (F0 m 366 ls [.long t20, .int x2, .ref (bL 1)]) := by
                intro t20 hf H locs hP hD hS ls hl
                rw [hk33] at hf
                dsimp only at hf
                clear hk33
                obtain ⟨h23, hf⟩ := gd_in hf
                refine va_last (D := g.1) (f := (vL.2.2 0)) hx hb hK hP hD hS 1 1 rfl rfl h23 dX2_runGate_366 (fun H locs hP hD hS => ?_)
                obtain ⟨vL_24, evL_24⟩ : ∃ z, z = sJ vL 0 (x2).toNatClampNeg t20 := ⟨_, rfl⟩
                have hf := bn_at hf evL_24
                have hP : va_P g.1 vwCl (cL g bL vL_24 ++ (cC g bC vC)) H := by rw [evL_24]; exact hP
                have hD : va_D A (cL g bL vL_24 ++ (cC g bC vC)) := by rw [evL_24]; exact hD
                refine lv_aload_n hx hb dX2_runGate_367 rfl (lv_at hl 0 rfl) ?_
                refine va_get (D := g.1) (ci := 2) (fs := fcL bL vL_24) (v := .ref (bL 2)) (C := RX2) (T := TX2) (N := 2) hx hb htu hinX2 hown hK hP 0 rfl rfl 1 (by decide) k_1_225 (fun _ h9 => h9) rfl dX2_runGate_368 ?_
                refine lv_iload_n hx hb dX2_runGate_371 rfl (lv_at hl 1 rfl) ?_
                refine lv_iload hx hb dX2_runGate_372 (lv_at hl 4 rfl) ?_
                obtain ⟨k26, hk31, hf⟩ := jn_at hf
                have hJ27 : ∀ (t25 : Int64), k26 t25 = some vL1 → ∀ (H : Heap) (locs : List Loc), va_P g.1 vwCl (cL g bL vL_24 ++ (cC g bC vC)) H → va_D A (cL g bL vL_24 ++ (cC g bC vC)) → va_S A s.heap H locs → ∀ ls : Array Slot, lv_has ls 16 [] → W p l e (headSpec wsX2_runGate rmX2_runGate).room s m ([.ref (bL 0), .ref (bC 0), .int x2] : List Value).toArray below meth c H locs 0 0 (MQ below (qV g A (cL g bL vL1 ++ (cC g bC vC))) ([.ref (bL 0), .ref (bC 0), .int x2] : List Value).toArray s 0 0 A) (F0 m 384 ls [.long t25, .int x2, .ref (bL 2)]) := by
                  intro t25 hf H locs hP hD hS ls hl
                  rw [hk31] at hf
                  dsimp only at hf
                  clear hk31
                  obtain ⟨h28, hf⟩ := gd_in hf
                  refine va_last (D := g.1) (f := (vL_24.2.2 1)) hx hb hK hP hD hS 2 1 rfl rfl h28 dX2_runGate_384 (fun H locs hP hD hS => ?_)
                  obtain ⟨vL_29, evL_29⟩ : ∃ z, z = sJ vL_24 1 (x2).toNatClampNeg t25 := ⟨_, rfl⟩
                  have hf := bn_at hf evL_29
                  have hP : va_P g.1 vwCl (cL g bL vL_29 ++ (cC g bC vC)) H := by rw [evL_29]; exact hP
                  have hD : va_D A (cL g bL vL_29 ++ (cC g bC vC)) := by rw [evL_29]; exact hD
                  have e30 := Option.some.inj hf
                  rw [e30] at hP hD
                  exact k_vret hx hb hr hlocks hK hP hD hS dX2_runGate_385
                refine lv_if_eq (tgt := 382) hx hb dX2_runGate_374 (by decide) (fun c32 => ?_) (fun c32 => ?_)
                · have hf := it_t hf c32
                  refine lv_lload hx hb dX2_runGate_382 (lv_at hl 3 rfl) ?_
                  exact hJ27 x7_10 hf H locs hP hD hS _ (lv_sub hl [] rfl)
                · have hf := it_f hf c32
                  refine lv_lload hx hb dX2_runGate_377 (lv_at hl 2 rfl) ?_
                  refine lv_goto (tgt := 384) hx hb dX2_runGate_379 (by decide) ?_
                  exact hJ27 x5_9 hf H locs hP hD hS _ (lv_sub hl [] rfl)
              refine lv_if_eq (tgt := 364) hx hb dX2_runGate_356 (by decide) (fun c34 => ?_) (fun c34 => ?_)
              · have hf := it_t hf c34
                refine lv_lload hx hb dX2_runGate_364 (lv_at hl 3 rfl) ?_
                exact hJ22 x5_9 hf H locs hP hD hS _ (lv_sub hl [1, 2, 3, 4, 0] rfl)
              · have hf := it_f hf c34
                refine lv_lload hx hb dX2_runGate_359 (lv_at hl 4 rfl) ?_
                refine lv_goto (tgt := 366) hx hb dX2_runGate_361 (by decide) ?_
                exact hJ22 x7_10 hf H locs hP hD hS _ (lv_sub hl [1, 2, 3, 4, 0] rfl)
            obtain ⟨k36, hk38, hf⟩ := jn_at hf
            have hJ37 : k36 = some vL1 → ∀ (H : Heap) (locs : List Loc), va_P g.1 vwCl (cL g bL vL ++ (cC g bC vC)) H → va_D A (cL g bL vL ++ (cC g bC vC)) → va_S A s.heap H locs → ∀ ls : Array Slot, lv_has ls 16 [(0, .ref (bL 0)), (2, .int x2), (5, .long x5_9), (7, .long x7_10)] → W p l e (headSpec wsX2_runGate rmX2_runGate).room s m ([.ref (bL 0), .ref (bC 0), .int x2] : List Value).toArray below meth c H locs 0 0 (MQ below (qV g A (cL g bL vL1 ++ (cC g bC vC))) ([.ref (bL 0), .ref (bC 0), .int x2] : List Value).toArray s 0 0 A) (F0 m 342 ls []) := by
              intro hf H locs hP hD hS ls hl
              rw [hk38] at hf
              clear hk38
              refine lv_iconst (v := (1 : Int32)) hx hb dX2_runGate_342 (by decide) ?_
              refine lv_goto (tgt := 347) hx hb dX2_runGate_343 (by decide) ?_
              exact hJ19 (1 : Int32) hf H locs hP hD hS _ (lv_sub hl [0, 1, 2, 3] rfl)
            refine lv_icmp_eq (tgt := 342) hx hb dX2_runGate_323 (by decide) (fun c39 => ?_) (fun c39 => ?_)
            · have hf := it_t hf c39
              exact hJ37 hf H locs hP hD hS _ (lv_sub hl [0, 2, 5, 6] rfl)
            · have hf := it_f hf c39
              refine lv_iload_n hx hb dX2_runGate_326 rfl (lv_at hl 3 rfl) ?_
              refine lv_iconst (v := (3 : Int32)) hx hb dX2_runGate_327 (by decide) ?_
              refine lv_icmp_eq (tgt := 342) hx hb dX2_runGate_328 (by decide) (fun c40 => ?_) (fun c40 => ?_)
              · have hf := it_t hf c40
                exact hJ37 hf H locs hP hD hS _ (lv_sub hl [0, 2, 5, 6] rfl)
              · have hf := it_f hf c40
                refine lv_iload_n hx hb dX2_runGate_331 rfl (lv_at hl 3 rfl) ?_
                refine lv_iconst (v := (5 : Int32)) hx hb dX2_runGate_332 (by decide) ?_
                refine lv_icmp_eq (tgt := 342) hx hb dX2_runGate_333 (by decide) (fun c41 => ?_) (fun c41 => ?_)
                · have hf := it_t hf c41
                  exact hJ37 hf H locs hP hD hS _ (lv_sub hl [0, 2, 5, 6] rfl)
                · have hf := it_f hf c41
                  refine lv_iload_n hx hb dX2_runGate_336 rfl (lv_at hl 3 rfl) ?_
                  refine lv_bipush (v := (6 : Int32)) hx hb dX2_runGate_337 (by decide) ?_
                  refine lv_icmp_ne (tgt := 346) hx hb dX2_runGate_339 (by decide) (fun c42 => ?_) (fun c42 => ?_)
                  · have hf := it_f hf c42
                    refine lv_iconst (v := (0 : Int32)) hx hb dX2_runGate_346 (by decide) ?_
                    exact hJ19 (0 : Int32) hf H locs hP hD hS _ (lv_sub hl [0, 2, 5, 6] rfl)
                  · have hf := it_t hf c42
                    exact hJ37 hf H locs hP hD hS _ (lv_sub hl [0, 2, 5, 6] rfl)
          · have hf := it_f hf c16
            refine lv_aload_n hx hb dX2_runGate_198 rfl (lv_at hl 0 rfl) ?_
            refine va_get (D := g.1) (ci := 2) (fs := fcL bL vL) (v := .ref (bL 1)) (C := RX2) (T := TX2) (N := 2) hx hb htu hinX2 hown hK hP 0 rfl rfl 0 (by decide) k_1_223 (fun _ h9 => h9) rfl dX2_runGate_199 ?_
            refine lv_aload_n hx hb dX2_runGate_202 rfl (lv_at hl 1 rfl) ?_
            refine va_get (D := g.1) (ci := 0) (fs := fcC bC vC) (v := .ref (bC 7)) (C := RX0) (T := TX0) (N := 14) hx hb htu hinX0 hown hK hP 3 rfl rfl 6 (by decide) k_1_77 (fun _ h9 => h9) rfl dX2_runGate_203 ?_
            refine lv_iload hx hb dX2_runGate_206 (lv_at hl 4 rfl) ?_
            refine lv_iload hx hb dX2_runGate_208 (lv_at hl 7 rfl) ?_
            refine lv_iadd hx hb dX2_runGate_210 ?_
            obtain ⟨h43, hf⟩ := gd_in hf
            refine va_iald (D := g.1) (f := (vC.2.1 6)) hx hb hK hP 6 0 rfl rfl h43 dX2_runGate_211 ?_
            obtain ⟨h44, hf⟩ := gd_in hf
            refine va_lald (D := g.1) (f := (vL.2.2 0)) hx hb hK hP 1 1 rfl rfl h44 dX2_runGate_212 ?_
            refine lv_topl (fun y45 ey45 => ?_)
            have hf := bn_at hf ey45
            refine lv_lstore (lv' := [(10, .long y45), (0, .ref (bL 0)), (1, .ref (bC 0)), (2, .int x2), (3, .int (vC.2.1 4 (x2).toNatClampNeg)), (4, .int (x2 * (4 : Int32))), (5, .long x5_9), (7, .long x7_10), (9, .int x9_11)]) hx hb dX2_runGate_213 hl (by decide) rfl (fun ls hl => ?_)
            refine lv_aload_n hx hb dX2_runGate_215 rfl (lv_at hl 1 rfl) ?_
            refine va_get (D := g.1) (ci := 2) (fs := fcL bL vL) (v := .ref (bL 2)) (C := RX2) (T := TX2) (N := 2) hx hb htu hinX2 hown hK hP 0 rfl rfl 1 (by decide) k_1_225 (fun _ h9 => h9) rfl dX2_runGate_216 ?_
            refine lv_aload_n hx hb dX2_runGate_219 rfl (lv_at hl 2 rfl) ?_
            refine va_get (D := g.1) (ci := 0) (fs := fcC bC vC) (v := .ref (bC 7)) (C := RX0) (T := TX0) (N := 14) hx hb htu hinX0 hown hK hP 3 rfl rfl 6 (by decide) k_1_77 (fun _ h9 => h9) rfl dX2_runGate_220 ?_
            refine lv_iload hx hb dX2_runGate_223 (lv_at hl 5 rfl) ?_
            refine lv_iload hx hb dX2_runGate_225 (lv_at hl 8 rfl) ?_
            refine lv_iadd hx hb dX2_runGate_227 ?_
            obtain ⟨h46, hf⟩ := gd_in hf
            refine va_iald (D := g.1) (f := (vC.2.1 6)) hx hb hK hP 6 0 rfl rfl h46 dX2_runGate_228 ?_
            obtain ⟨h47, hf⟩ := gd_in hf
            refine va_lald (D := g.1) (f := (vL.2.2 1)) hx hb hK hP 2 1 rfl rfl h47 dX2_runGate_229 ?_
            refine lv_topl (fun y48 ey48 => ?_)
            have hf := bn_at hf ey48
            refine lv_lstore (lv' := [(12, .long y48), (10, .long y45), (0, .ref (bL 0)), (1, .ref (bC 0)), (2, .int x2), (3, .int (vC.2.1 4 (x2).toNatClampNeg)), (4, .int (x2 * (4 : Int32))), (5, .long x5_9), (7, .long x7_10), (9, .int x9_11)]) hx hb dX2_runGate_230 hl (by decide) rfl (fun ls hl => ?_)
            refine lv_iload_n hx hb dX2_runGate_232 rfl (lv_at hl 5 rfl) ?_
            obtain ⟨k51, hk53, hf⟩ := jn_at hf
            have hJ52 : ∀ (x5_49 : Int64) (x7_50 : Int64), k51 x5_49 x7_50 = some vL1 → ∀ (H : Heap) (locs : List Loc), va_P g.1 vwCl (cL g bL vL ++ (cC g bC vC)) H → va_D A (cL g bL vL ++ (cC g bC vC)) → va_S A s.heap H locs → ∀ ls : Array Slot, lv_has ls 16 [(0, .ref (bL 0)), (1, .ref (bC 0)), (2, .int x2), (3, .int (vC.2.1 4 (x2).toNatClampNeg)), (4, .int (x2 * (4 : Int32))), (5, .long x5_49), (7, .long x7_50), (9, .int x9_11)] → W p l e (headSpec wsX2_runGate rmX2_runGate).room s m ([.ref (bL 0), .ref (bC 0), .int x2] : List Value).toArray below meth c H locs 0 0 (MQ below (qV g A (cL g bL vL1 ++ (cC g bC vC))) ([.ref (bL 0), .ref (bC 0), .int x2] : List Value).toArray s 0 0 A) (F0 m 315 ls []) := by
              intro x5_49 x7_50 hf H locs hP hD hS ls hl
              rw [hk53] at hf
              dsimp only at hf
              clear hk53
              refine lv_iinc (v := (x9_11 + (1 : Int32))) (lv' := [(9, .int (x9_11 + (1 : Int32))), (0, .ref (bL 0)), (1, .ref (bC 0)), (2, .int x2), (3, .int (vC.2.1 4 (x2).toNatClampNeg)), (4, .int (x2 * (4 : Int32))), (5, .long x5_49), (7, .long x7_50)]) hx hb dX2_runGate_315 hl (k := 7) rfl rfl (by decide) rfl (fun ls hl => ?_)
              refine lv_goto (tgt := 187) hx hb dX2_runGate_318 (by decide) ?_
              exact ih14 x5_49 x7_50 (x9_11 + (1 : Int32)) hf H locs hP hD hS _ (lv_sub hl [1, 2, 3, 4, 5, 6, 7, 0] rfl)
            obtain ⟨k54, hk56, hf⟩ := jn_at hf
            have hJ55 : k54 = some vL1 → ∀ (H : Heap) (locs : List Loc), va_P g.1 vwCl (cL g bL vL ++ (cC g bC vC)) H → va_D A (cL g bL vL ++ (cC g bC vC)) → va_S A s.heap H locs → ∀ ls : Array Slot, lv_has ls 16 [(0, .ref (bL 0)), (1, .ref (bC 0)), (2, .int x2), (3, .int (vC.2.1 4 (x2).toNatClampNeg)), (4, .int (x2 * (4 : Int32))), (5, .long x5_9), (7, .long x7_10), (9, .int x9_11), (10, .long y45), (12, .long y48)] → W p l e (headSpec wsX2_runGate rmX2_runGate).room s m ([.ref (bL 0), .ref (bC 0), .int x2] : List Value).toArray below meth c H locs 0 0 (MQ below (qV g A (cL g bL vL1 ++ (cC g bC vC))) ([.ref (bL 0), .ref (bC 0), .int x2] : List Value).toArray s 0 0 A) (F0 m 241 ls []) := by
              intro hf H locs hP hD hS ls hl
              rw [hk56] at hf
              clear hk56
              refine lv_lload hx hb dX2_runGate_241 (lv_at hl 5 rfl) ?_
              refine lv_lload hx hb dX2_runGate_243 (lv_at hl 8 rfl) ?_
              refine lv_lor hx hb dX2_runGate_245 ?_
              refine lv_lstore (lv' := [(5, .long (x5_9 ||| y45)), (0, .ref (bL 0)), (1, .ref (bC 0)), (2, .int x2), (3, .int (vC.2.1 4 (x2).toNatClampNeg)), (4, .int (x2 * (4 : Int32))), (7, .long x7_10), (9, .int x9_11), (10, .long y45), (12, .long y48)]) hx hb dX2_runGate_246 hl (by decide) rfl (fun ls hl => ?_)
              refine lv_lload hx hb dX2_runGate_248 (lv_at hl 6 rfl) ?_
              refine lv_lload hx hb dX2_runGate_250 (lv_at hl 9 rfl) ?_
              refine lv_land hx hb dX2_runGate_252 ?_
              refine lv_lstore (lv' := [(7, .long (x7_10 &&& y48)), (5, .long (x5_9 ||| y45)), (0, .ref (bL 0)), (1, .ref (bC 0)), (2, .int x2), (3, .int (vC.2.1 4 (x2).toNatClampNeg)), (4, .int (x2 * (4 : Int32))), (9, .int x9_11), (10, .long y45), (12, .long y48)]) hx hb dX2_runGate_253 hl (by decide) rfl (fun ls hl => ?_)
              refine lv_goto (tgt := 315) hx hb dX2_runGate_255 (by decide) ?_
              exact hJ52 (x5_9 ||| y45) (x7_10 &&& y48) hf H locs hP hD hS _ (lv_sub hl [2, 3, 4, 5, 6, 1, 0, 7] rfl)
            refine lv_if_eq (tgt := 241) hx hb dX2_runGate_233 (by decide) (fun c57 => ?_) (fun c57 => ?_)
            · have hf := it_t hf c57
              exact hJ55 hf H locs hP hD hS _ (lv_sub hl [2, 3, 4, 5, 6, 7, 8, 9, 1, 0] rfl)
            · have hf := it_f hf c57
              refine lv_iload_n hx hb dX2_runGate_236 rfl (lv_at hl 5 rfl) ?_
              refine lv_iconst (v := (2 : Int32)) hx hb dX2_runGate_237 (by decide) ?_
              refine lv_icmp_ne (tgt := 258) hx hb dX2_runGate_238 (by decide) (fun c58 => ?_) (fun c58 => ?_)
              · have hf := it_f hf c58
                refine lv_iload_n hx hb dX2_runGate_258 rfl (lv_at hl 5 rfl) ?_
                refine lv_iconst (v := (1 : Int32)) hx hb dX2_runGate_259 (by decide) ?_
                obtain ⟨k59, hk61, hf⟩ := jn_at hf
                have hJ60 : k59 = some vL1 → ∀ (H : Heap) (locs : List Loc), va_P g.1 vwCl (cL g bL vL ++ (cC g bC vC)) H → va_D A (cL g bL vL ++ (cC g bC vC)) → va_S A s.heap H locs → ∀ ls : Array Slot, lv_has ls 16 [(0, .ref (bL 0)), (1, .ref (bC 0)), (2, .int x2), (3, .int (vC.2.1 4 (x2).toNatClampNeg)), (4, .int (x2 * (4 : Int32))), (5, .long x5_9), (7, .long x7_10), (9, .int x9_11), (10, .long y45), (12, .long y48)] → W p l e (headSpec wsX2_runGate rmX2_runGate).room s m ([.ref (bL 0), .ref (bC 0), .int x2] : List Value).toArray below meth c H locs 0 0 (MQ below (qV g A (cL g bL vL1 ++ (cC g bC vC))) ([.ref (bL 0), .ref (bC 0), .int x2] : List Value).toArray s 0 0 A) (F0 m 268 ls []) := by
                  intro hf H locs hP hD hS ls hl
                  rw [hk61] at hf
                  clear hk61
                  refine lv_lload hx hb dX2_runGate_268 (lv_at hl 5 rfl) ?_
                  refine lv_lload hx hb dX2_runGate_270 (lv_at hl 8 rfl) ?_
                  refine lv_land hx hb dX2_runGate_272 ?_
                  refine lv_lstore (lv' := [(5, .long (x5_9 &&& y45)), (0, .ref (bL 0)), (1, .ref (bC 0)), (2, .int x2), (3, .int (vC.2.1 4 (x2).toNatClampNeg)), (4, .int (x2 * (4 : Int32))), (7, .long x7_10), (9, .int x9_11), (10, .long y45), (12, .long y48)]) hx hb dX2_runGate_273 hl (by decide) rfl (fun ls hl => ?_)
                  refine lv_lload hx hb dX2_runGate_275 (lv_at hl 6 rfl) ?_
                  refine lv_lload hx hb dX2_runGate_277 (lv_at hl 9 rfl) ?_
                  refine lv_lor hx hb dX2_runGate_279 ?_
                  refine lv_lstore (lv' := [(7, .long (x7_10 ||| y48)), (5, .long (x5_9 &&& y45)), (0, .ref (bL 0)), (1, .ref (bC 0)), (2, .int x2), (3, .int (vC.2.1 4 (x2).toNatClampNeg)), (4, .int (x2 * (4 : Int32))), (9, .int x9_11), (10, .long y45), (12, .long y48)]) hx hb dX2_runGate_280 hl (by decide) rfl (fun ls hl => ?_)
                  refine lv_goto (tgt := 315) hx hb dX2_runGate_282 (by decide) ?_
                  exact hJ52 (x5_9 &&& y45) (x7_10 ||| y48) hf H locs hP hD hS _ (lv_sub hl [2, 3, 4, 5, 6, 1, 0, 7] rfl)
                refine lv_icmp_eq (tgt := 268) hx hb dX2_runGate_260 (by decide) (fun c62 => ?_) (fun c62 => ?_)
                · have hf := it_t hf c62
                  exact hJ60 hf H locs hP hD hS _ (lv_sub hl [2, 3, 4, 5, 6, 7, 8, 9, 1, 0] rfl)
                · have hf := it_f hf c62
                  refine lv_iload_n hx hb dX2_runGate_263 rfl (lv_at hl 5 rfl) ?_
                  refine lv_iconst (v := (3 : Int32)) hx hb dX2_runGate_264 (by decide) ?_
                  refine lv_icmp_ne (tgt := 285) hx hb dX2_runGate_265 (by decide) (fun c63 => ?_) (fun c63 => ?_)
                  · have hf := it_f hf c63
                    refine lv_lload hx hb dX2_runGate_285 (lv_at hl 7 rfl) ?_
                    refine lv_lload hx hb dX2_runGate_287 (lv_at hl 0 rfl) ?_
                    refine lv_land hx hb dX2_runGate_289 ?_
                    refine lv_lload hx hb dX2_runGate_290 (lv_at hl 8 rfl) ?_
                    refine lv_lload hx hb dX2_runGate_292 (lv_at hl 1 rfl) ?_
                    refine lv_land hx hb dX2_runGate_294 ?_
                    refine lv_lor hx hb dX2_runGate_295 ?_
                    refine lv_lstore (lv' := [(14, .long ((x5_9 &&& y48) ||| (x7_10 &&& y45))), (12, .long y48), (10, .long y45), (0, .ref (bL 0)), (1, .ref (bC 0)), (2, .int x2), (3, .int (vC.2.1 4 (x2).toNatClampNeg)), (4, .int (x2 * (4 : Int32))), (5, .long x5_9), (7, .long x7_10), (9, .int x9_11)]) hx hb dX2_runGate_296 hl (by decide) rfl (fun ls hl => ?_)
                    refine lv_lload hx hb dX2_runGate_298 (lv_at hl 8 rfl) ?_
                    refine lv_lload hx hb dX2_runGate_300 (lv_at hl 2 rfl) ?_
                    refine lv_land hx hb dX2_runGate_302 ?_
                    refine lv_lload hx hb dX2_runGate_303 (lv_at hl 9 rfl) ?_
                    refine lv_lload hx hb dX2_runGate_305 (lv_at hl 1 rfl) ?_
                    refine lv_land hx hb dX2_runGate_307 ?_
                    refine lv_lor hx hb dX2_runGate_308 ?_
                    refine lv_lstore (lv' := [(5, .long ((x5_9 &&& y45) ||| (x7_10 &&& y48))), (14, .long ((x5_9 &&& y48) ||| (x7_10 &&& y45))), (12, .long y48), (10, .long y45), (0, .ref (bL 0)), (1, .ref (bC 0)), (2, .int x2), (3, .int (vC.2.1 4 (x2).toNatClampNeg)), (4, .int (x2 * (4 : Int32))), (7, .long x7_10), (9, .int x9_11)]) hx hb dX2_runGate_309 hl (by decide) rfl (fun ls hl => ?_)
                    refine lv_lload hx hb dX2_runGate_311 (lv_at hl 1 rfl) ?_
                    refine lv_lstore (lv' := [(7, .long ((x5_9 &&& y48) ||| (x7_10 &&& y45))), (5, .long ((x5_9 &&& y45) ||| (x7_10 &&& y48))), (14, .long ((x5_9 &&& y48) ||| (x7_10 &&& y45))), (12, .long y48), (10, .long y45), (0, .ref (bL 0)), (1, .ref (bC 0)), (2, .int x2), (3, .int (vC.2.1 4 (x2).toNatClampNeg)), (4, .int (x2 * (4 : Int32))), (9, .int x9_11)]) hx hb dX2_runGate_313 hl (by decide) rfl (fun ls hl => ?_)
                    exact hJ52 ((x5_9 &&& y45) ||| (x7_10 &&& y48)) ((x5_9 &&& y48) ||| (x7_10 &&& y45)) hf H locs hP hD hS _ (lv_sub hl [5, 6, 7, 8, 9, 1, 0, 10] rfl)
                  · have hf := it_t hf c63
                    exact hJ60 hf H locs hP hD hS _ (lv_sub hl [2, 3, 4, 5, 6, 7, 8, 9, 1, 0] rfl)
              · have hf := it_t hf c58
                exact hJ55 hf H locs hP hD hS _ (lv_sub hl [2, 3, 4, 5, 6, 7, 8, 9, 1, 0] rfl)
      exact hL13 y5 y8 (1 : Int32) hf H locs hP hD hS _ (lv_sub hl [5, 6, 7, 4, 3, 2, 1, 0] rfl)
    · have hf := it_t hf c2
      refine lv_aload_n hx hb dX2_runGate_18 rfl (lv_at hl 3 rfl) ?_
      refine va_get (D := g.1) (ci := 0) (fs := fcC bC vC) (v := .ref (bC 7)) (C := RX0) (T := TX0) (N := 14) hx hb htu hinX0 hown hK hP 3 rfl rfl 6 (by decide) k_1_77 (fun _ h9 => h9) rfl dX2_runGate_19 ?_
      refine lv_iload hx hb dX2_runGate_22 (lv_at hl 0 rfl) ?_
      obtain ⟨h64, hf⟩ := gd_in hf
      refine va_iald (D := g.1) (f := (vC.2.1 6)) hx hb hK hP 6 0 rfl rfl h64 dX2_runGate_24 ?_
      refine lv_istore (lv' := [(5, .int (vC.2.1 6 ((x2 * (4 : Int32))).toNatClampNeg)), (4, .int (x2 * (4 : Int32))), (3, .int (vC.2.1 4 (x2).toNatClampNeg)), (0, .ref (bL 0)), (1, .ref (bC 0)), (2, .int x2)]) hx hb dX2_runGate_25 hl (by decide) rfl (fun ls hl => ?_)
      refine lv_aload_n hx hb dX2_runGate_27 rfl (lv_at hl 4 rfl) ?_
      refine va_get (D := g.1) (ci := 0) (fs := fcC bC vC) (v := .ref (bC 7)) (C := RX0) (T := TX0) (N := 14) hx hb htu hinX0 hown hK hP 3 rfl rfl 6 (by decide) k_1_77 (fun _ h9 => h9) rfl dX2_runGate_28 ?_
      refine lv_iload hx hb dX2_runGate_31 (lv_at hl 1 rfl) ?_
      refine lv_iconst (v := (1 : Int32)) hx hb dX2_runGate_33 (by decide) ?_
      refine lv_iadd hx hb dX2_runGate_34 ?_
      obtain ⟨h65, hf⟩ := gd_in hf
      refine va_iald (D := g.1) (f := (vC.2.1 6)) hx hb hK hP 6 0 rfl rfl h65 dX2_runGate_35 ?_
      refine lv_topi (fun y66 ey66 => ?_)
      have hf := bn_at hf ey66
      refine lv_istore (lv' := [(6, .int y66), (5, .int (vC.2.1 6 ((x2 * (4 : Int32))).toNatClampNeg)), (4, .int (x2 * (4 : Int32))), (3, .int (vC.2.1 4 (x2).toNatClampNeg)), (0, .ref (bL 0)), (1, .ref (bC 0)), (2, .int x2)]) hx hb dX2_runGate_36 hl (by decide) rfl (fun ls hl => ?_)
      refine lv_aload_n hx hb dX2_runGate_38 rfl (lv_at hl 5 rfl) ?_
      refine va_get (D := g.1) (ci := 0) (fs := fcC bC vC) (v := .ref (bC 7)) (C := RX0) (T := TX0) (N := 14) hx hb htu hinX0 hown hK hP 3 rfl rfl 6 (by decide) k_1_77 (fun _ h9 => h9) rfl dX2_runGate_39 ?_
      refine lv_iload hx hb dX2_runGate_42 (lv_at hl 2 rfl) ?_
      refine lv_iconst (v := (2 : Int32)) hx hb dX2_runGate_44 (by decide) ?_
      refine lv_iadd hx hb dX2_runGate_45 ?_
      obtain ⟨h67, hf⟩ := gd_in hf
      refine va_iald (D := g.1) (f := (vC.2.1 6)) hx hb hK hP 6 0 rfl rfl h67 dX2_runGate_46 ?_
      refine lv_topi (fun y68 ey68 => ?_)
      have hf := bn_at hf ey68
      refine lv_istore (lv' := [(7, .int y68), (6, .int y66), (5, .int (vC.2.1 6 ((x2 * (4 : Int32))).toNatClampNeg)), (4, .int (x2 * (4 : Int32))), (3, .int (vC.2.1 4 (x2).toNatClampNeg)), (0, .ref (bL 0)), (1, .ref (bC 0)), (2, .int x2)]) hx hb dX2_runGate_47 hl (by decide) rfl (fun ls hl => ?_)
      refine lv_aload_n hx hb dX2_runGate_49 rfl (lv_at hl 5 rfl) ?_
      refine va_get (D := g.1) (ci := 2) (fs := fcL bL vL) (v := .ref (bL 1)) (C := RX2) (T := TX2) (N := 2) hx hb htu hinX2 hown hK hP 0 rfl rfl 0 (by decide) k_1_223 (fun _ h9 => h9) rfl dX2_runGate_50 ?_
      refine lv_iload_n hx hb dX2_runGate_53 rfl (lv_at hl 7 rfl) ?_
      refine lv_aload_n hx hb dX2_runGate_54 rfl (lv_at hl 5 rfl) ?_
      refine va_get (D := g.1) (ci := 2) (fs := fcL bL vL) (v := .ref (bL 1)) (C := RX2) (T := TX2) (N := 2) hx hb htu hinX2 hown hK hP 0 rfl rfl 0 (by decide) k_1_223 (fun _ h9 => h9) rfl dX2_runGate_55 ?_
      refine lv_iload hx hb dX2_runGate_58 (lv_at hl 2 rfl) ?_
      obtain ⟨h69, hf⟩ := gd_in hf
      refine va_lald (D := g.1) (f := (vL.2.2 0)) hx hb hK hP 1 1 rfl rfl h69 dX2_runGate_60 ?_
      refine lv_aload_n hx hb dX2_runGate_61 rfl (lv_at hl 5 rfl) ?_
      refine va_get (D := g.1) (ci := 2) (fs := fcL bL vL) (v := .ref (bL 1)) (C := RX2) (T := TX2) (N := 2) hx hb htu hinX2 hown hK hP 0 rfl rfl 0 (by decide) k_1_223 (fun _ h9 => h9) rfl dX2_runGate_62 ?_
      refine lv_iload hx hb dX2_runGate_65 (lv_at hl 1 rfl) ?_
      obtain ⟨h70, hf⟩ := gd_in hf
      refine va_lald (D := g.1) (f := (vL.2.2 0)) hx hb hK hP 1 1 rfl rfl h70 dX2_runGate_67 ?_
      refine lv_land hx hb dX2_runGate_68 ?_
      refine lv_aload_n hx hb dX2_runGate_69 rfl (lv_at hl 5 rfl) ?_
      refine va_get (D := g.1) (ci := 2) (fs := fcL bL vL) (v := .ref (bL 2)) (C := RX2) (T := TX2) (N := 2) hx hb htu hinX2 hown hK hP 0 rfl rfl 1 (by decide) k_1_225 (fun _ h9 => h9) rfl dX2_runGate_70 ?_
      refine lv_iload hx hb dX2_runGate_73 (lv_at hl 2 rfl) ?_
      obtain ⟨h71, hf⟩ := gd_in hf
      refine va_lald (D := g.1) (f := (vL.2.2 1)) hx hb hK hP 2 1 rfl rfl h71 dX2_runGate_75 ?_
      refine lv_aload_n hx hb dX2_runGate_76 rfl (lv_at hl 5 rfl) ?_
      refine va_get (D := g.1) (ci := 2) (fs := fcL bL vL) (v := .ref (bL 1)) (C := RX2) (T := TX2) (N := 2) hx hb htu hinX2 hown hK hP 0 rfl rfl 0 (by decide) k_1_223 (fun _ h9 => h9) rfl dX2_runGate_77 ?_
      refine lv_iload hx hb dX2_runGate_80 (lv_at hl 0 rfl) ?_
      obtain ⟨h72, hf⟩ := gd_in hf
      refine va_lald (D := g.1) (f := (vL.2.2 0)) hx hb hK hP 1 1 rfl rfl h72 dX2_runGate_82 ?_
      refine lv_land hx hb dX2_runGate_83 ?_
      refine lv_lor hx hb dX2_runGate_84 ?_
      refine lv_aload_n hx hb dX2_runGate_85 rfl (lv_at hl 5 rfl) ?_
      refine va_get (D := g.1) (ci := 2) (fs := fcL bL vL) (v := .ref (bL 1)) (C := RX2) (T := TX2) (N := 2) hx hb htu hinX2 hown hK hP 0 rfl rfl 0 (by decide) k_1_223 (fun _ h9 => h9) rfl dX2_runGate_86 ?_
      refine lv_iload hx hb dX2_runGate_89 (lv_at hl 1 rfl) ?_
      obtain ⟨h73, hf⟩ := gd_in hf
      refine va_lald (D := g.1) (f := (vL.2.2 0)) hx hb hK hP 1 1 rfl rfl h73 dX2_runGate_91 ?_
      refine lv_aload_n hx hb dX2_runGate_92 rfl (lv_at hl 5 rfl) ?_
      refine va_get (D := g.1) (ci := 2) (fs := fcL bL vL) (v := .ref (bL 1)) (C := RX2) (T := TX2) (N := 2) hx hb htu hinX2 hown hK hP 0 rfl rfl 0 (by decide) k_1_223 (fun _ h9 => h9) rfl dX2_runGate_93 ?_
      refine lv_iload hx hb dX2_runGate_96 (lv_at hl 0 rfl) ?_
      obtain ⟨h74, hf⟩ := gd_in hf
      refine va_lald (D := g.1) (f := (vL.2.2 0)) hx hb hK hP 1 1 rfl rfl h74 dX2_runGate_98 ?_
      refine lv_land hx hb dX2_runGate_99 ?_
      refine lv_lor hx hb dX2_runGate_100 ?_
      obtain ⟨h75, hf⟩ := gd_in hf
      refine va_last (D := g.1) (f := (vL.2.2 0)) hx hb hK hP hD hS 1 1 rfl rfl h75 dX2_runGate_101 (fun H locs hP hD hS => ?_)
      obtain ⟨vL_76, evL_76⟩ : ∃ z, z = sJ vL 0 (x2).toNatClampNeg ((((vL.2.2 0 ((vC.2.1 6 ((x2 * (4 : Int32))).toNatClampNeg)).toNatClampNeg) &&& (vL.2.2 0 (y66).toNatClampNeg)) ||| ((vL.2.2 1 ((vC.2.1 6 ((x2 * (4 : Int32))).toNatClampNeg)).toNatClampNeg) &&& (vL.2.2 0 (y68).toNatClampNeg))) ||| ((vL.2.2 0 (y66).toNatClampNeg) &&& (vL.2.2 0 (y68).toNatClampNeg))) := ⟨_, rfl⟩
      have hf := bn_at hf evL_76
      have hP : va_P g.1 vwCl (cL g bL vL_76 ++ (cC g bC vC)) H := by rw [evL_76]; exact hP
      have hD : va_D A (cL g bL vL_76 ++ (cC g bC vC)) := by rw [evL_76]; exact hD
      refine lv_aload_n hx hb dX2_runGate_102 rfl (lv_at hl 5 rfl) ?_
      refine va_get (D := g.1) (ci := 2) (fs := fcL bL vL_76) (v := .ref (bL 2)) (C := RX2) (T := TX2) (N := 2) hx hb htu hinX2 hown hK hP 0 rfl rfl 1 (by decide) k_1_225 (fun _ h9 => h9) rfl dX2_runGate_103 ?_
      refine lv_iload_n hx hb dX2_runGate_106 rfl (lv_at hl 7 rfl) ?_
      refine lv_aload_n hx hb dX2_runGate_107 rfl (lv_at hl 5 rfl) ?_
      refine va_get (D := g.1) (ci := 2) (fs := fcL bL vL_76) (v := .ref (bL 1)) (C := RX2) (T := TX2) (N := 2) hx hb htu hinX2 hown hK hP 0 rfl rfl 0 (by decide) k_1_223 (fun _ h9 => h9) rfl dX2_runGate_108 ?_
      refine lv_iload hx hb dX2_runGate_111 (lv_at hl 2 rfl) ?_
      obtain ⟨h77, hf⟩ := gd_in hf
      refine va_lald (D := g.1) (f := (vL_76.2.2 0)) hx hb hK hP 1 1 rfl rfl h77 dX2_runGate_113 ?_
      refine lv_aload_n hx hb dX2_runGate_114 rfl (lv_at hl 5 rfl) ?_
      refine va_get (D := g.1) (ci := 2) (fs := fcL bL vL_76) (v := .ref (bL 2)) (C := RX2) (T := TX2) (N := 2) hx hb htu hinX2 hown hK hP 0 rfl rfl 1 (by decide) k_1_225 (fun _ h9 => h9) rfl dX2_runGate_115 ?_
      refine lv_iload hx hb dX2_runGate_118 (lv_at hl 1 rfl) ?_
      obtain ⟨h78, hf⟩ := gd_in hf
      refine va_lald (D := g.1) (f := (vL_76.2.2 1)) hx hb hK hP 2 1 rfl rfl h78 dX2_runGate_120 ?_
      refine lv_land hx hb dX2_runGate_121 ?_
      refine lv_aload_n hx hb dX2_runGate_122 rfl (lv_at hl 5 rfl) ?_
      refine va_get (D := g.1) (ci := 2) (fs := fcL bL vL_76) (v := .ref (bL 2)) (C := RX2) (T := TX2) (N := 2) hx hb htu hinX2 hown hK hP 0 rfl rfl 1 (by decide) k_1_225 (fun _ h9 => h9) rfl dX2_runGate_123 ?_
      refine lv_iload hx hb dX2_runGate_126 (lv_at hl 2 rfl) ?_
      obtain ⟨h79, hf⟩ := gd_in hf
      refine va_lald (D := g.1) (f := (vL_76.2.2 1)) hx hb hK hP 2 1 rfl rfl h79 dX2_runGate_128 ?_
      refine lv_aload_n hx hb dX2_runGate_129 rfl (lv_at hl 5 rfl) ?_
      refine va_get (D := g.1) (ci := 2) (fs := fcL bL vL_76) (v := .ref (bL 2)) (C := RX2) (T := TX2) (N := 2) hx hb htu hinX2 hown hK hP 0 rfl rfl 1 (by decide) k_1_225 (fun _ h9 => h9) rfl dX2_runGate_130 ?_
      refine lv_iload hx hb dX2_runGate_133 (lv_at hl 0 rfl) ?_
      obtain ⟨h80, hf⟩ := gd_in hf
      refine va_lald (D := g.1) (f := (vL_76.2.2 1)) hx hb hK hP 2 1 rfl rfl h80 dX2_runGate_135 ?_
      refine lv_land hx hb dX2_runGate_136 ?_
      refine lv_lor hx hb dX2_runGate_137 ?_
      refine lv_aload_n hx hb dX2_runGate_138 rfl (lv_at hl 5 rfl) ?_
      refine va_get (D := g.1) (ci := 2) (fs := fcL bL vL_76) (v := .ref (bL 2)) (C := RX2) (T := TX2) (N := 2) hx hb htu hinX2 hown hK hP 0 rfl rfl 1 (by decide) k_1_225 (fun _ h9 => h9) rfl dX2_runGate_139 ?_
      refine lv_iload hx hb dX2_runGate_142 (lv_at hl 1 rfl) ?_
      obtain ⟨h81, hf⟩ := gd_in hf
      refine va_lald (D := g.1) (f := (vL_76.2.2 1)) hx hb hK hP 2 1 rfl rfl h81 dX2_runGate_144 ?_
      refine lv_aload_n hx hb dX2_runGate_145 rfl (lv_at hl 5 rfl) ?_
      refine va_get (D := g.1) (ci := 2) (fs := fcL bL vL_76) (v := .ref (bL 2)) (C := RX2) (T := TX2) (N := 2) hx hb htu hinX2 hown hK hP 0 rfl rfl 1 (by decide) k_1_225 (fun _ h9 => h9) rfl dX2_runGate_146 ?_
      refine lv_iload hx hb dX2_runGate_149 (lv_at hl 0 rfl) ?_
      obtain ⟨h82, hf⟩ := gd_in hf
      refine va_lald (D := g.1) (f := (vL_76.2.2 1)) hx hb hK hP 2 1 rfl rfl h82 dX2_runGate_151 ?_
      refine lv_land hx hb dX2_runGate_152 ?_
      refine lv_lor hx hb dX2_runGate_153 ?_
      obtain ⟨h83, hf⟩ := gd_in hf
      refine va_last (D := g.1) (f := (vL_76.2.2 1)) hx hb hK hP hD hS 2 1 rfl rfl h83 dX2_runGate_154 (fun H locs hP hD hS => ?_)
      obtain ⟨vL_84, evL_84⟩ : ∃ z, z = sJ vL_76 1 (x2).toNatClampNeg ((((vL_76.2.2 0 ((vC.2.1 6 ((x2 * (4 : Int32))).toNatClampNeg)).toNatClampNeg) &&& (vL_76.2.2 1 (y66).toNatClampNeg)) ||| ((vL_76.2.2 1 ((vC.2.1 6 ((x2 * (4 : Int32))).toNatClampNeg)).toNatClampNeg) &&& (vL_76.2.2 1 (y68).toNatClampNeg))) ||| ((vL_76.2.2 1 (y66).toNatClampNeg) &&& (vL_76.2.2 1 (y68).toNatClampNeg))) := ⟨_, rfl⟩
      have hf := bn_at hf evL_84
      have hP : va_P g.1 vwCl (cL g bL vL_84 ++ (cC g bC vC)) H := by rw [evL_84]; exact hP
      have hD : va_D A (cL g bL vL_84 ++ (cC g bC vC)) := by rw [evL_84]; exact hD
      have e85 := Option.some.inj hf
      rw [e85] at hP hD
      exact k_vret hx hb hr hlocks hK hP hD hS dX2_runGate_155
  rw [hH, hlo] at hW
  exact hW
def f_X2_runGates_L5 (vC : Vs) (self3 : Int32 → Vs → Option (Vs)) (x2_1 : Int32) (vL_2 : Vs) : Option (Vs) :=
  if (vC.1 1) ≤ x2_1 then some (vL_2) else o1 (f_X2_runGate vL_2 vC x2_1) (fun (vL_8 : Vs) => self3 (x2_1 + (1 : Int32)) vL_8)
def f_X2_runGates (vL : Vs) (vC : Vs) : Option (Vs) :=
  lp (f_X2_runGates_L5 vC) (fun _ _ => none) FU (vC.1 0) vL
abbrev wsX2_runGates : List Cond := .code yX2_runGates cX2_runGates 3 none :: UW
abbrev rmX2_runGates : Room := { frames := 1, cells := 0, slots := 0, locals := 35 }
set_option maxHeartbeats 4000000 in
set_option maxRecDepth 100000 in
theorem c_X2_runGates (l : Launch) (g : Gx) (bL : Nat → Nat) (vL : Vs) (bC : Nat → Nat) (vC : Vs) (vL1 : Vs) (hf : f_X2_runGates vL vC = some vL1) : CtV l yX2_runGates wsX2_runGates rmX2_runGates g [.ref (bL 0), .ref (bC 0)] (cL g bL vL ++ (cC g bC vC)) (cL g bL vL1 ++ (cC g bC vC)) 0 0 := by
  unfold CtV
  intro sz
  refine Met.ofW (cc := cX2_runGates) (maxL := 3) (ret := none) (by decide) rfl ?_
  intro p e s m args below meth c s₁ B hml hv
  obtain ⟨rfl, hsz, hP, hK, hD0, hG⟩ := hv
  have hx := B.exec
  have hb := B.bytes
  have hr := B.returns
  have hts := atoms_spec (ws := wsX2_runGates) B.pre
  have hown : s.vm.findClass RX2 = some m.cls := findClass_of_methodNamed B.named
  have hlocks := B.notSynchronized
  subst hsz
  have hD := hD0.self (sz := s.heap.size)
  generalize hAe : va_A (cL g bL vL ++ (cC g bC vC)) s.heap.size = A at hD hG ⊢
  have hA : ∀ q : Nat, s.heap.size ≤ q → A q := fun q h => by rw [← hAe]; exact Or.inr h
  clear hAe hD0
  have hS : va_S A s.heap s.heap [] := va_S.rf
  have hl := lv_entry ([.ref (bL 0), .ref (bC 0)]) (n := 3) (Nat.le_of_ble_eq_true rfl)
  rw [lg_entry_eq]
  generalize (lg_sl ([.ref (bL 0), .ref (bC 0)]) ++ List.replicate (3 - (lg_sl ([.ref (bL 0), .ref (bC 0)])).length) Slot.unset).toArray = ls at hl ⊢
  have hl : lv_has ls 3 [(0, .ref (bL 0)), (1, .ref (bC 0))] := hl
  have htu : ∀ w ∈ UW, w.before _ s = true := fun w h => hts w (List.mem_cons_of_mem _ h)
  have k_1_60 := htu _ mw_1_60
  have k_1_65 := htu _ mw_1_65
  unfold f_X2_runGates at hf
  obtain ⟨H, hH⟩ : ∃ z, z = s.heap := ⟨_, rfl⟩
  obtain ⟨locs, hlo⟩ : ∃ z : List Loc, z = [] := ⟨_, rfl⟩
  have hS : va_S A s.heap H locs := by rw [hH, hlo]; exact hS
  rw [← hH] at hP
  have hW : W p l e (headSpec wsX2_runGates rmX2_runGates).room s m ([.ref (bL 0), .ref (bC 0)] : List Value).toArray below meth c H locs 0 0 (MQ below (qV g A (cL g bL vL1 ++ (cC g bC vC))) ([.ref (bL 0), .ref (bC 0)] : List Value).toArray s 0 0 A) (F0 m 0 ls []) := by
    refine lv_aload_n hx hb dX2_runGates_0 rfl (lv_at hl 1 rfl) ?_
    refine va_get (D := g.1) (ci := 0) (fs := fcC bC vC) (v := .int (vC.1 0)) (C := RX0) (T := TX0) (N := 14) hx hb htu hinX0 hown hK hP 3 rfl rfl 0 (by decide) k_1_60 (fun _ h9 => h9) rfl dX2_runGates_1 ?_
    refine lv_istore_n (lv' := [(2, .int (vC.1 0)), (0, .ref (bL 0)), (1, .ref (bC 0))]) hx hb dX2_runGates_4 rfl hl (by decide) rfl (fun ls hl => ?_)
    have hL4 : ∀ (x2_1 : Int32) (vL_2 : Vs), lp (f_X2_runGates_L5 vC) (fun _ _ => none) FU x2_1 vL_2 = some vL1 → ∀ (H : Heap) (locs : List Loc), va_P g.1 vwCl (cL g bL vL_2 ++ (cC g bC vC)) H → va_D A (cL g bL vL_2 ++ (cC g bC vC)) → va_S A s.heap H locs → ∀ ls : Array Slot, lv_has ls 3 [(0, .ref (bL 0)), (1, .ref (bC 0)), (2, .int x2_1)] → W p l e (headSpec wsX2_runGates rmX2_runGates).room s m ([.ref (bL 0), .ref (bC 0)] : List Value).toArray below meth c H locs 0 0 (MQ below (qV g A (cL g bL vL1 ++ (cC g bC vC))) ([.ref (bL 0), .ref (bC 0)] : List Value).toArray s 0 0 A) (F0 m 5 ls []) := by
      refine lp_ind (T := Int32 → Vs → Option (Vs)) (fun self3 => ∀ (x2_1 : Int32) (vL_2 : Vs), self3 x2_1 vL_2 = some vL1 → ∀ (H : Heap) (locs : List Loc), va_P g.1 vwCl (cL g bL vL_2 ++ (cC g bC vC)) H → va_D A (cL g bL vL_2 ++ (cC g bC vC)) → va_S A s.heap H locs → ∀ ls : Array Slot, lv_has ls 3 [(0, .ref (bL 0)), (1, .ref (bC 0)), (2, .int x2_1)] → W p l e (headSpec wsX2_runGates rmX2_runGates).room s m ([.ref (bL 0), .ref (bC 0)] : List Value).toArray below meth c H locs 0 0 (MQ below (qV g A (cL g bL vL1 ++ (cC g bC vC))) ([.ref (bL 0), .ref (bC 0)] : List Value).toArray s 0 0 A) (F0 m 5 ls [])) ?_ ?_ FU
      · intro x2_1 vL_2 hf; cases hf
      · intro self3 ih5 x2_1 vL_2 hf H locs hP hD hS ls hl
        unfold f_X2_runGates_L5 at hf
        refine lv_iload_n hx hb dX2_runGates_5 rfl (lv_at hl 2 rfl) ?_
        refine lv_aload_n hx hb dX2_runGates_6 rfl (lv_at hl 1 rfl) ?_
        refine va_get (D := g.1) (ci := 0) (fs := fcC bC vC) (v := .int (vC.1 1)) (C := RX0) (T := TX0) (N := 14) hx hb htu hinX0 hown hK hP 3 rfl rfl 1 (by decide) k_1_65 (fun _ h9 => h9) rfl dX2_runGates_7 ?_
        refine lv_icmp_ge (tgt := 25) hx hb dX2_runGates_10 (by decide) (fun c6 => ?_) (fun c6 => ?_)
        · have hf := it_t hf c6
          have e7 := Option.some.inj hf
          rw [e7] at hP hD
          exact k_vret hx hb hr hlocks hK hP hD hS dX2_runGates_25
        · have hf := it_f hf c6
          refine lv_aload_n hx hb dX2_runGates_13 rfl (lv_at hl 0 rfl) ?_
          refine lv_aload_n hx hb dX2_runGates_14 rfl (lv_at hl 1 rfl) ?_
          refine lv_iload_n hx hb dX2_runGates_15 rfl (lv_at hl 2 rfl) ?_
          obtain ⟨vL_8, hg9, hf⟩ := o1_at hf
          refine k_vvW ⟨hx, hb, hml, hown, htu⟩ hK hP hD hS hA hG (c_X2_runGate l g bL vL_2 bC vC x2_1 vL_8 hg9) (cwV 2 htu (gU_V mw_2_90 hcX2_runGate) rfl rfl rfl hdX2_runGate ⟨Nat.le_of_ble_eq_true rfl, Nat.le_of_ble_eq_true rfl⟩) (q0 := 0) (ci := 2) (fs := fcL bL vL_2) (q := (RX2, TX2, 2)) rfl rfl rfl (As := [.ref (bC 0), .int x2_1]) (rest := []) rfl rfl hl.1 (Nat.le_of_ble_eq_true rfl) dX2_runGates_16 (k1 := 0) (n1 := 0) rfl rfl ⟨Nat.zero_le _, Nat.zero_le _⟩ (fun H locs hP hD hS => ?_)
          refine lv_iinc (v := (x2_1 + (1 : Int32))) (lv' := [(2, .int (x2_1 + (1 : Int32))), (0, .ref (bL 0)), (1, .ref (bC 0))]) hx hb dX2_runGates_19 hl (k := 2) rfl rfl (by decide) rfl (fun ls hl => ?_)
          refine lv_goto (tgt := 5) hx hb dX2_runGates_22 (by decide) ?_
          exact ih5 (x2_1 + (1 : Int32)) vL_8 hf H locs hP hD hS _ (lv_sub hl [1, 2, 0] rfl)
    exact hL4 (vC.1 0) vL hf H locs hP hD hS _ (lv_sub hl [1, 2, 0] rfl)
  rw [hH, hlo] at hW
  exact hW
def f_X2_setSites (vL : Vs) (vC : Vs) (vG : Vs) (x3 : Int32) : Option (Int32 × Vs) :=
  if 0 ≤ (x3 - ((2 : Int32) * (vC.1 1))) then gd (inb (x3 - ((2 : Int32) * (vC.1 1))) 8) (gd (inb (x3 - ((2 : Int32) * (vC.1 1))) 8) (gd (inb (x3 - ((2 : Int32) * (vC.1 1))) 8) (jn (fun (vL_5 : Vs) => gd (inb (vC.2.1 11 ((x3 - ((2 : Int32) * (vC.1 1)))).toNatClampNeg) 24) (gd (inb (vC.2.1 12 ((x3 - ((2 : Int32) * (vC.1 1)))).toNatClampNeg) 24) (bn (sJ vL_5 0 ((vC.2.1 12 ((x3 - ((2 : Int32) * (vC.1 1)))).toNatClampNeg)).toNatClampNeg (vL_5.2.2 0 ((vC.2.1 11 ((x3 - ((2 : Int32) * (vC.1 1)))).toNatClampNeg)).toNatClampNeg)) (fun (vL_10 : Vs) => gd (inb (vC.2.1 11 ((x3 - ((2 : Int32) * (vC.1 1)))).toNatClampNeg) 24) (gd (inb (vC.2.1 12 ((x3 - ((2 : Int32) * (vC.1 1)))).toNatClampNeg) 24) (bn (sJ vL_10 1 ((vC.2.1 12 ((x3 - ((2 : Int32) * (vC.1 1)))).toNatClampNeg)).toNatClampNeg (vL_10.2.2 1 ((vC.2.1 11 ((x3 - ((2 : Int32) * (vC.1 1)))).toNatClampNeg)).toNatClampNeg)) (fun (vL_13 : Vs) => some ((((1 : Int32) <<< ((vC.2.1 11 ((x3 - ((2 : Int32) * (vC.1 1)))).toNatClampNeg) &&& 31)) ||| ((1 : Int32) <<< ((vC.2.1 12 ((x3 - ((2 : Int32) * (vC.1 1)))).toNatClampNeg) &&& 31))), vL_13)))))))) (fun k6 => if (vC.2.1 13 ((x3 - ((2 : Int32) * (vC.1 1)))).toNatClampNeg) = 0 then gd (inb (vC.2.1 11 ((x3 - ((2 : Int32) * (vC.1 1)))).toNatClampNeg) 24) (gd (inb (vC.2.1 12 ((x3 - ((2 : Int32) * (vC.1 1)))).toNatClampNeg) 24) (gd (inb (vC.2.1 11 ((x3 - ((2 : Int32) * (vC.1 1)))).toNatClampNeg) 24) (bn (sJ vL 0 ((vC.2.1 11 ((x3 - ((2 : Int32) * (vC.1 1)))).toNatClampNeg)).toNatClampNeg ((vG.2.2 0 ((vC.2.1 11 ((x3 - ((2 : Int32) * (vC.1 1)))).toNatClampNeg)).toNatClampNeg) ||| (vG.2.2 0 ((vC.2.1 12 ((x3 - ((2 : Int32) * (vC.1 1)))).toNatClampNeg)).toNatClampNeg))) (fun (vL_29 : Vs) => gd (inb (vC.2.1 11 ((x3 - ((2 : Int32) * (vC.1 1)))).toNatClampNeg) 24) (gd (inb (vC.2.1 12 ((x3 - ((2 : Int32) * (vC.1 1)))).toNatClampNeg) 24) (gd (inb (vC.2.1 11 ((x3 - ((2 : Int32) * (vC.1 1)))).toNatClampNeg) 24) (bn (sJ vL_29 1 ((vC.2.1 11 ((x3 - ((2 : Int32) * (vC.1 1)))).toNatClampNeg)).toNatClampNeg ((vG.2.2 1 ((vC.2.1 11 ((x3 - ((2 : Int32) * (vC.1 1)))).toNatClampNeg)).toNatClampNeg) &&& (vG.2.2 1 ((vC.2.1 12 ((x3 - ((2 : Int32) * (vC.1 1)))).toNatClampNeg)).toNatClampNeg))) (fun (vL_33 : Vs) => k6 vL_33)))))))) else gd (inb (vC.2.1 11 ((x3 - ((2 : Int32) * (vC.1 1)))).toNatClampNeg) 24) (gd (inb (vC.2.1 12 ((x3 - ((2 : Int32) * (vC.1 1)))).toNatClampNeg) 24) (gd (inb (vC.2.1 11 ((x3 - ((2 : Int32) * (vC.1 1)))).toNatClampNeg) 24) (bn (sJ vL 0 ((vC.2.1 11 ((x3 - ((2 : Int32) * (vC.1 1)))).toNatClampNeg)).toNatClampNeg ((vG.2.2 0 ((vC.2.1 11 ((x3 - ((2 : Int32) * (vC.1 1)))).toNatClampNeg)).toNatClampNeg) &&& (vG.2.2 0 ((vC.2.1 12 ((x3 - ((2 : Int32) * (vC.1 1)))).toNatClampNeg)).toNatClampNeg))) (fun (vL_21 : Vs) => gd (inb (vC.2.1 11 ((x3 - ((2 : Int32) * (vC.1 1)))).toNatClampNeg) 24) (gd (inb (vC.2.1 12 ((x3 - ((2 : Int32) * (vC.1 1)))).toNatClampNeg) 24) (gd (inb (vC.2.1 11 ((x3 - ((2 : Int32) * (vC.1 1)))).toNatClampNeg) 24) (bn (sJ vL_21 1 ((vC.2.1 11 ((x3 - ((2 : Int32) * (vC.1 1)))).toNatClampNeg)).toNatClampNeg ((vG.2.2 1 ((vC.2.1 11 ((x3 - ((2 : Int32) * (vC.1 1)))).toNatClampNeg)).toNatClampNeg) ||| (vG.2.2 1 ((vC.2.1 12 ((x3 - ((2 : Int32) * (vC.1 1)))).toNatClampNeg)).toNatClampNeg))) (fun (vL_25 : Vs) => k6 vL_25)))))))))))) else jn (fun (t34 : Int64) => gd (inb (x3 >>> ((1 : Int32) &&& 31)) 24) (bn (sJ vL 1 ((x3 >>> ((1 : Int32) &&& 31))).toNatClampNeg t34) (fun (vL_38 : Vs) => gd (inb (x3 >>> ((1 : Int32) &&& 31)) 24) (gd (inb (x3 >>> ((1 : Int32) &&& 31)) 24) (bn (sJ vL_38 0 ((x3 >>> ((1 : Int32) &&& 31))).toNatClampNeg ((vL_38.2.2 1 ((x3 >>> ((1 : Int32) &&& 31))).toNatClampNeg) ^^^ (-1 : Int64))) (fun (vL_41 : Vs) => some (((1 : Int32) <<< ((x3 >>> ((1 : Int32) &&& 31)) &&& 31)), vL_41))))))) (fun k35 => if (x3 &&& (1 : Int32)) = 0 then k35 (0 : Int64) else k35 (-1 : Int64))
abbrev wsX2_setSites : List Cond := .code yX2_setSites cX2_setSites 7 (some .int) :: UW
abbrev rmX2_setSites : Room := { frames := 0, cells := 0, slots := 0, locals := 0 }
set_option maxHeartbeats 4000000 in
set_option maxRecDepth 100000 in
theorem c_X2_setSites (l : Launch) (g : Gx) (bL : Nat → Nat) (vL : Vs) (bC : Nat → Nat) (vC : Vs) (bG : Nat → Nat) (vG : Vs) (x3 : Int32) (r : Int32) (vL1 : Vs) (hf : f_X2_setSites vL vC vG x3 = some (r, vL1)) : CtI l yX2_setSites wsX2_setSites rmX2_setSites g [.ref (bL 0), .ref (bC 0), .ref (bG 0), .int x3] (cL g bL vL ++ (cC g bC vC ++ (cL g bG vG))) (cL g bL vL1 ++ (cC g bC vC ++ (cL g bG vG))) r 0 0 := by
  unfold CtI
  intro sz
  refine Met.ofW (cc := cX2_setSites) (maxL := 7) (ret := (some .int)) (by decide) rfl ?_
  intro p e s m args below meth c s₁ B hml hv
  obtain ⟨rfl, hsz, hP, hK, hD0, hG⟩ := hv
  have hx := B.exec
  have hb := B.bytes
  have hr := B.returns
  have hts := atoms_spec (ws := wsX2_setSites) B.pre
  have hown : s.vm.findClass RX2 = some m.cls := findClass_of_methodNamed B.named
  have hlocks := B.notSynchronized
  subst hsz
  have hD := hD0.self (sz := s.heap.size)
  generalize hAe : va_A (cL g bL vL ++ (cC g bC vC ++ (cL g bG vG))) s.heap.size = A at hD hG ⊢
  have hA : ∀ q : Nat, s.heap.size ≤ q → A q := fun q h => by rw [← hAe]; exact Or.inr h
  clear hAe hD0
  have hS : va_S A s.heap s.heap [] := va_S.rf
  have hl := lv_entry ([.ref (bL 0), .ref (bC 0), .ref (bG 0), .int x3]) (n := 7) (Nat.le_of_ble_eq_true rfl)
  rw [lg_entry_eq]
  generalize (lg_sl ([.ref (bL 0), .ref (bC 0), .ref (bG 0), .int x3]) ++ List.replicate (7 - (lg_sl ([.ref (bL 0), .ref (bC 0), .ref (bG 0), .int x3])).length) Slot.unset).toArray = ls at hl ⊢
  have hl : lv_has ls 7 [(0, .ref (bL 0)), (1, .ref (bC 0)), (2, .ref (bG 0)), (3, .int x3)] := hl
  have htu : ∀ w ∈ UW, w.before _ s = true := fun w h => hts w (List.mem_cons_of_mem _ h)
  have k_1_65 := htu _ mw_1_65
  have k_1_85 := htu _ mw_1_85
  have k_1_87 := htu _ mw_1_87
  have k_1_89 := htu _ mw_1_89
  have k_1_223 := htu _ mw_1_223
  have k_1_225 := htu _ mw_1_225
  have k_2_110 := htu _ mw_2_110
  unfold f_X2_setSites at hf
  obtain ⟨H, hH⟩ : ∃ z, z = s.heap := ⟨_, rfl⟩
  obtain ⟨locs, hlo⟩ : ∃ z : List Loc, z = [] := ⟨_, rfl⟩
  have hS : va_S A s.heap H locs := by rw [hH, hlo]; exact hS
  rw [← hH] at hP
  have hW : W p l e (headSpec wsX2_setSites rmX2_setSites).room s m ([.ref (bL 0), .ref (bC 0), .ref (bG 0), .int x3] : List Value).toArray below meth c H locs 0 0 (MQ below (qI g A (cL g bL vL1 ++ (cC g bC vC ++ (cL g bG vG))) r) ([.ref (bL 0), .ref (bC 0), .ref (bG 0), .int x3] : List Value).toArray s 0 0 A) (F0 m 0 ls []) := by
    refine lv_iload_n hx hb dX2_setSites_0 rfl (lv_at hl 3 rfl) ?_
    refine lv_iconst (v := (2 : Int32)) hx hb dX2_setSites_1 (by decide) ?_
    refine lv_aload_n hx hb dX2_setSites_2 rfl (lv_at hl 1 rfl) ?_
    refine va_get (D := g.1) (ci := 0) (fs := fcC bC vC) (v := .int (vC.1 1)) (C := RX0) (T := TX0) (N := 14) hx hb htu hinX0 hown hK hP 3 rfl rfl 1 (by decide) k_1_65 (fun _ h9 => h9) rfl dX2_setSites_3 ?_
    refine lv_imul hx hb dX2_setSites_6 ?_
    refine lv_isub hx hb dX2_setSites_7 ?_
    refine lv_istore (lv' := [(4, .int (x3 - ((2 : Int32) * (vC.1 1)))), (0, .ref (bL 0)), (1, .ref (bC 0)), (2, .ref (bG 0)), (3, .int x3)]) hx hb dX2_setSites_8 hl (by decide) rfl (fun ls hl => ?_)
    refine lv_iload hx hb dX2_setSites_10 (lv_at hl 0 rfl) ?_
    refine lv_if_ge (tgt := 63) hx hb dX2_setSites_12 (by decide) (fun c1 => ?_) (fun c1 => ?_)
    · have hf := it_t hf c1
      refine lv_aload_n hx hb dX2_setSites_63 rfl (lv_at hl 2 rfl) ?_
      refine va_get (D := g.1) (ci := 0) (fs := fcC bC vC) (v := .ref (bC 12)) (C := RX0) (T := TX0) (N := 14) hx hb htu hinX0 hown hK hP 3 rfl rfl 11 (by decide) k_1_85 (fun _ h9 => h9) rfl dX2_setSites_64 ?_
      refine lv_iload hx hb dX2_setSites_67 (lv_at hl 0 rfl) ?_
      obtain ⟨h2, hf⟩ := gd_in hf
      refine va_iald (D := g.1) (f := (vC.2.1 11)) hx hb hK hP 11 0 rfl rfl h2 dX2_setSites_69 ?_
      refine lv_istore (lv' := [(5, .int (vC.2.1 11 ((x3 - ((2 : Int32) * (vC.1 1)))).toNatClampNeg)), (4, .int (x3 - ((2 : Int32) * (vC.1 1)))), (0, .ref (bL 0)), (1, .ref (bC 0)), (2, .ref (bG 0)), (3, .int x3)]) hx hb dX2_setSites_70 hl (by decide) rfl (fun ls hl => ?_)
      refine lv_aload_n hx hb dX2_setSites_72 rfl (lv_at hl 3 rfl) ?_
      refine va_get (D := g.1) (ci := 0) (fs := fcC bC vC) (v := .ref (bC 13)) (C := RX0) (T := TX0) (N := 14) hx hb htu hinX0 hown hK hP 3 rfl rfl 12 (by decide) k_1_87 (fun _ h9 => h9) rfl dX2_setSites_73 ?_
      refine lv_iload hx hb dX2_setSites_76 (lv_at hl 1 rfl) ?_
      obtain ⟨h3, hf⟩ := gd_in hf
      refine va_iald (D := g.1) (f := (vC.2.1 12)) hx hb hK hP 12 0 rfl rfl h3 dX2_setSites_78 ?_
      refine lv_istore (lv' := [(6, .int (vC.2.1 12 ((x3 - ((2 : Int32) * (vC.1 1)))).toNatClampNeg)), (5, .int (vC.2.1 11 ((x3 - ((2 : Int32) * (vC.1 1)))).toNatClampNeg)), (4, .int (x3 - ((2 : Int32) * (vC.1 1)))), (0, .ref (bL 0)), (1, .ref (bC 0)), (2, .ref (bG 0)), (3, .int x3)]) hx hb dX2_setSites_79 hl (by decide) rfl (fun ls hl => ?_)
      refine lv_aload_n hx hb dX2_setSites_81 rfl (lv_at hl 4 rfl) ?_
      refine va_get (D := g.1) (ci := 0) (fs := fcC bC vC) (v := .ref (bC 14)) (C := RX0) (T := TX0) (N := 14) hx hb htu hinX0 hown hK hP 3 rfl rfl 13 (by decide) k_1_89 (fun _ h9 => h9) rfl dX2_setSites_82 ?_
      refine lv_iload hx hb dX2_setSites_85 (lv_at hl 2 rfl) ?_
      obtain ⟨h4, hf⟩ := gd_in hf
      refine va_iald (D := g.1) (f := (vC.2.1 13)) hx hb hK hP 13 0 rfl rfl h4 dX2_setSites_87 ?_
      obtain ⟨k6, hk16, hf⟩ := jn_at hf
      have hJ7 : ∀ (vL_5 : Vs), k6 vL_5 = some (r, vL1) → ∀ (H : Heap) (locs : List Loc), va_P g.1 vwCl (cL g bL vL_5 ++ (cC g bC vC ++ (cL g bG vG))) H → va_D A (cL g bL vL_5 ++ (cC g bC vC ++ (cL g bG vG))) → va_S A s.heap H locs → ∀ ls : Array Slot, lv_has ls 7 [(0, .ref (bL 0)), (5, .int (vC.2.1 11 ((x3 - ((2 : Int32) * (vC.1 1)))).toNatClampNeg)), (6, .int (vC.2.1 12 ((x3 - ((2 : Int32) * (vC.1 1)))).toNatClampNeg))] → W p l e (headSpec wsX2_setSites rmX2_setSites).room s m ([.ref (bL 0), .ref (bC 0), .ref (bG 0), .int x3] : List Value).toArray below meth c H locs 0 0 (MQ below (qI g A (cL g bL vL1 ++ (cC g bC vC ++ (cL g bG vG))) r) ([.ref (bL 0), .ref (bC 0), .ref (bG 0), .int x3] : List Value).toArray s 0 0 A) (F0 m 182 ls []) := by
        intro vL_5 hf H locs hP hD hS ls hl
        rw [hk16] at hf
        dsimp only at hf
        clear hk16
        refine lv_aload_n hx hb dX2_setSites_182 rfl (lv_at hl 0 rfl) ?_
        refine va_get (D := g.1) (ci := 2) (fs := fcL bL vL_5) (v := .ref (bL 1)) (C := RX2) (T := TX2) (N := 2) hx hb htu hinX2 hown hK hP 0 rfl rfl 0 (by decide) k_1_223 (fun _ h9 => h9) rfl dX2_setSites_183 ?_
        refine lv_iload hx hb dX2_setSites_186 (lv_at hl 2 rfl) ?_
        refine lv_aload_n hx hb dX2_setSites_188 rfl (lv_at hl 0 rfl) ?_
        refine va_get (D := g.1) (ci := 2) (fs := fcL bL vL_5) (v := .ref (bL 1)) (C := RX2) (T := TX2) (N := 2) hx hb htu hinX2 hown hK hP 0 rfl rfl 0 (by decide) k_1_223 (fun _ h9 => h9) rfl dX2_setSites_189 ?_
        refine lv_iload hx hb dX2_setSites_192 (lv_at hl 1 rfl) ?_
        obtain ⟨h8, hf⟩ := gd_in hf
        refine va_lald (D := g.1) (f := (vL_5.2.2 0)) hx hb hK hP 1 1 rfl rfl h8 dX2_setSites_194 ?_
        obtain ⟨h9, hf⟩ := gd_in hf
        refine va_last (D := g.1) (f := (vL_5.2.2 0)) hx hb hK hP hD hS 1 1 rfl rfl h9 dX2_setSites_195 (fun H locs hP hD hS => ?_)
        obtain ⟨vL_10, evL_10⟩ : ∃ z, z = sJ vL_5 0 ((vC.2.1 12 ((x3 - ((2 : Int32) * (vC.1 1)))).toNatClampNeg)).toNatClampNeg (vL_5.2.2 0 ((vC.2.1 11 ((x3 - ((2 : Int32) * (vC.1 1)))).toNatClampNeg)).toNatClampNeg) := ⟨_, rfl⟩
        have hf := bn_at hf evL_10
        have hP : va_P g.1 vwCl (cL g bL vL_10 ++ (cC g bC vC ++ (cL g bG vG))) H := by rw [evL_10]; exact hP
        have hD : va_D A (cL g bL vL_10 ++ (cC g bC vC ++ (cL g bG vG))) := by rw [evL_10]; exact hD
        refine lv_aload_n hx hb dX2_setSites_196 rfl (lv_at hl 0 rfl) ?_
        refine va_get (D := g.1) (ci := 2) (fs := fcL bL vL_10) (v := .ref (bL 2)) (C := RX2) (T := TX2) (N := 2) hx hb htu hinX2 hown hK hP 0 rfl rfl 1 (by decide) k_1_225 (fun _ h9 => h9) rfl dX2_setSites_197 ?_
        refine lv_iload hx hb dX2_setSites_200 (lv_at hl 2 rfl) ?_
        refine lv_aload_n hx hb dX2_setSites_202 rfl (lv_at hl 0 rfl) ?_
        refine va_get (D := g.1) (ci := 2) (fs := fcL bL vL_10) (v := .ref (bL 2)) (C := RX2) (T := TX2) (N := 2) hx hb htu hinX2 hown hK hP 0 rfl rfl 1 (by decide) k_1_225 (fun _ h9 => h9) rfl dX2_setSites_203 ?_
        refine lv_iload hx hb dX2_setSites_206 (lv_at hl 1 rfl) ?_
        obtain ⟨h11, hf⟩ := gd_in hf
        refine va_lald (D := g.1) (f := (vL_10.2.2 1)) hx hb hK hP 2 1 rfl rfl h11 dX2_setSites_208 ?_
        obtain ⟨h12, hf⟩ := gd_in hf
        refine va_last (D := g.1) (f := (vL_10.2.2 1)) hx hb hK hP hD hS 2 1 rfl rfl h12 dX2_setSites_209 (fun H locs hP hD hS => ?_)
        obtain ⟨vL_13, evL_13⟩ : ∃ z, z = sJ vL_10 1 ((vC.2.1 12 ((x3 - ((2 : Int32) * (vC.1 1)))).toNatClampNeg)).toNatClampNeg (vL_10.2.2 1 ((vC.2.1 11 ((x3 - ((2 : Int32) * (vC.1 1)))).toNatClampNeg)).toNatClampNeg) := ⟨_, rfl⟩
        have hf := bn_at hf evL_13
        have hP : va_P g.1 vwCl (cL g bL vL_13 ++ (cC g bC vC ++ (cL g bG vG))) H := by rw [evL_13]; exact hP
        have hD : va_D A (cL g bL vL_13 ++ (cC g bC vC ++ (cL g bG vG))) := by rw [evL_13]; exact hD
        refine lv_iconst (v := (1 : Int32)) hx hb dX2_setSites_210 (by decide) ?_
        refine lv_iload hx hb dX2_setSites_211 (lv_at hl 1 rfl) ?_
        refine lv_ishl hx hb dX2_setSites_213 ?_
        refine lv_iconst (v := (1 : Int32)) hx hb dX2_setSites_214 (by decide) ?_
        refine lv_iload hx hb dX2_setSites_215 (lv_at hl 2 rfl) ?_
        refine lv_ishl hx hb dX2_setSites_217 ?_
        refine lv_ior hx hb dX2_setSites_218 ?_
        obtain ⟨e14, e15⟩ := kp_2 hf
        rw [e15] at hP hD
        exact k_iret hx hb hr hlocks hK hP hD hS e14 dX2_setSites_219
      refine lv_if_ne (tgt := 138) hx hb dX2_setSites_88 (by decide) (fun c17 => ?_) (fun c17 => ?_)
      · have hf := it_f hf c17
        refine lv_aload_n hx hb dX2_setSites_138 rfl (lv_at hl 3 rfl) ?_
        refine va_get (D := g.1) (ci := 2) (fs := fcL bL vL) (v := .ref (bL 1)) (C := RX2) (T := TX2) (N := 2) hx hb htu hinX2 hown hK hP 0 rfl rfl 0 (by decide) k_1_223 (fun _ h9 => h9) rfl dX2_setSites_139 ?_
        refine lv_iload hx hb dX2_setSites_142 (lv_at hl 1 rfl) ?_
        refine lv_aload_n hx hb dX2_setSites_144 rfl (lv_at hl 5 rfl) ?_
        refine va_get (D := g.1) (ci := 2) (fs := fcL bG vG) (v := .ref (bG 1)) (C := RX2) (T := TX2) (N := 2) hx hb htu hinX2 hown hK hP 14 rfl rfl 0 (by decide) k_1_223 (fun _ h9 => h9) rfl dX2_setSites_145 ?_
        refine lv_iload hx hb dX2_setSites_148 (lv_at hl 1 rfl) ?_
        obtain ⟨h18, hf⟩ := gd_in hf
        refine va_lald (D := g.1) (f := (vG.2.2 0)) hx hb hK hP 15 1 rfl rfl h18 dX2_setSites_150 ?_
        refine lv_aload_n hx hb dX2_setSites_151 rfl (lv_at hl 5 rfl) ?_
        refine va_get (D := g.1) (ci := 2) (fs := fcL bG vG) (v := .ref (bG 1)) (C := RX2) (T := TX2) (N := 2) hx hb htu hinX2 hown hK hP 14 rfl rfl 0 (by decide) k_1_223 (fun _ h9 => h9) rfl dX2_setSites_152 ?_
        refine lv_iload hx hb dX2_setSites_155 (lv_at hl 0 rfl) ?_
        obtain ⟨h19, hf⟩ := gd_in hf
        refine va_lald (D := g.1) (f := (vG.2.2 0)) hx hb hK hP 15 1 rfl rfl h19 dX2_setSites_157 ?_
        refine lv_land hx hb dX2_setSites_158 ?_
        obtain ⟨h20, hf⟩ := gd_in hf
        refine va_last (D := g.1) (f := (vL.2.2 0)) hx hb hK hP hD hS 1 1 rfl rfl h20 dX2_setSites_159 (fun H locs hP hD hS => ?_)
        obtain ⟨vL_21, evL_21⟩ : ∃ z, z = sJ vL 0 ((vC.2.1 11 ((x3 - ((2 : Int32) * (vC.1 1)))).toNatClampNeg)).toNatClampNeg ((vG.2.2 0 ((vC.2.1 11 ((x3 - ((2 : Int32) * (vC.1 1)))).toNatClampNeg)).toNatClampNeg) &&& (vG.2.2 0 ((vC.2.1 12 ((x3 - ((2 : Int32) * (vC.1 1)))).toNatClampNeg)).toNatClampNeg)) := ⟨_, rfl⟩
        have hf := bn_at hf evL_21
        have hP : va_P g.1 vwCl (cL g bL vL_21 ++ (cC g bC vC ++ (cL g bG vG))) H := by rw [evL_21]; exact hP
        have hD : va_D A (cL g bL vL_21 ++ (cC g bC vC ++ (cL g bG vG))) := by rw [evL_21]; exact hD
        refine lv_aload_n hx hb dX2_setSites_160 rfl (lv_at hl 3 rfl) ?_
        refine va_get (D := g.1) (ci := 2) (fs := fcL bL vL_21) (v := .ref (bL 2)) (C := RX2) (T := TX2) (N := 2) hx hb htu hinX2 hown hK hP 0 rfl rfl 1 (by decide) k_1_225 (fun _ h9 => h9) rfl dX2_setSites_161 ?_
        refine lv_iload hx hb dX2_setSites_164 (lv_at hl 1 rfl) ?_
        refine lv_aload_n hx hb dX2_setSites_166 rfl (lv_at hl 5 rfl) ?_
        refine va_get (D := g.1) (ci := 2) (fs := fcL bG vG) (v := .ref (bG 2)) (C := RX2) (T := TX2) (N := 2) hx hb htu hinX2 hown hK hP 14 rfl rfl 1 (by decide) k_1_225 (fun _ h9 => h9) rfl dX2_setSites_167 ?_
        refine lv_iload hx hb dX2_setSites_170 (lv_at hl 1 rfl) ?_
        obtain ⟨h22, hf⟩ := gd_in hf
        refine va_lald (D := g.1) (f := (vG.2.2 1)) hx hb hK hP 16 1 rfl rfl h22 dX2_setSites_172 ?_
        refine lv_aload_n hx hb dX2_setSites_173 rfl (lv_at hl 5 rfl) ?_
        refine va_get (D := g.1) (ci := 2) (fs := fcL bG vG) (v := .ref (bG 2)) (C := RX2) (T := TX2) (N := 2) hx hb htu hinX2 hown hK hP 14 rfl rfl 1 (by decide) k_1_225 (fun _ h9 => h9) rfl dX2_setSites_174 ?_
        refine lv_iload hx hb dX2_setSites_177 (lv_at hl 0 rfl) ?_
        obtain ⟨h23, hf⟩ := gd_in hf
        refine va_lald (D := g.1) (f := (vG.2.2 1)) hx hb hK hP 16 1 rfl rfl h23 dX2_setSites_179 ?_
        refine lv_lor hx hb dX2_setSites_180 ?_
        obtain ⟨h24, hf⟩ := gd_in hf
        refine va_last (D := g.1) (f := (vL_21.2.2 1)) hx hb hK hP hD hS 2 1 rfl rfl h24 dX2_setSites_181 (fun H locs hP hD hS => ?_)
        obtain ⟨vL_25, evL_25⟩ : ∃ z, z = sJ vL_21 1 ((vC.2.1 11 ((x3 - ((2 : Int32) * (vC.1 1)))).toNatClampNeg)).toNatClampNeg ((vG.2.2 1 ((vC.2.1 11 ((x3 - ((2 : Int32) * (vC.1 1)))).toNatClampNeg)).toNatClampNeg) ||| (vG.2.2 1 ((vC.2.1 12 ((x3 - ((2 : Int32) * (vC.1 1)))).toNatClampNeg)).toNatClampNeg)) := ⟨_, rfl⟩
        have hf := bn_at hf evL_25
        have hP : va_P g.1 vwCl (cL g bL vL_25 ++ (cC g bC vC ++ (cL g bG vG))) H := by rw [evL_25]; exact hP
        have hD : va_D A (cL g bL vL_25 ++ (cC g bC vC ++ (cL g bG vG))) := by rw [evL_25]; exact hD
        exact hJ7 vL_25 hf H locs hP hD hS _ (lv_sub hl [3, 1, 0] rfl)
      · have hf := it_t hf c17
        refine lv_aload_n hx hb dX2_setSites_91 rfl (lv_at hl 3 rfl) ?_
        refine va_get (D := g.1) (ci := 2) (fs := fcL bL vL) (v := .ref (bL 1)) (C := RX2) (T := TX2) (N := 2) hx hb htu hinX2 hown hK hP 0 rfl rfl 0 (by decide) k_1_223 (fun _ h9 => h9) rfl dX2_setSites_92 ?_
        refine lv_iload hx hb dX2_setSites_95 (lv_at hl 1 rfl) ?_
        refine lv_aload_n hx hb dX2_setSites_97 rfl (lv_at hl 5 rfl) ?_
        refine va_get (D := g.1) (ci := 2) (fs := fcL bG vG) (v := .ref (bG 1)) (C := RX2) (T := TX2) (N := 2) hx hb htu hinX2 hown hK hP 14 rfl rfl 0 (by decide) k_1_223 (fun _ h9 => h9) rfl dX2_setSites_98 ?_
        refine lv_iload hx hb dX2_setSites_101 (lv_at hl 1 rfl) ?_
        obtain ⟨h26, hf⟩ := gd_in hf
        refine va_lald (D := g.1) (f := (vG.2.2 0)) hx hb hK hP 15 1 rfl rfl h26 dX2_setSites_103 ?_
        refine lv_aload_n hx hb dX2_setSites_104 rfl (lv_at hl 5 rfl) ?_
        refine va_get (D := g.1) (ci := 2) (fs := fcL bG vG) (v := .ref (bG 1)) (C := RX2) (T := TX2) (N := 2) hx hb htu hinX2 hown hK hP 14 rfl rfl 0 (by decide) k_1_223 (fun _ h9 => h9) rfl dX2_setSites_105 ?_
        refine lv_iload hx hb dX2_setSites_108 (lv_at hl 0 rfl) ?_
        obtain ⟨h27, hf⟩ := gd_in hf
        refine va_lald (D := g.1) (f := (vG.2.2 0)) hx hb hK hP 15 1 rfl rfl h27 dX2_setSites_110 ?_
        refine lv_lor hx hb dX2_setSites_111 ?_
        obtain ⟨h28, hf⟩ := gd_in hf
        refine va_last (D := g.1) (f := (vL.2.2 0)) hx hb hK hP hD hS 1 1 rfl rfl h28 dX2_setSites_112 (fun H locs hP hD hS => ?_)
        obtain ⟨vL_29, evL_29⟩ : ∃ z, z = sJ vL 0 ((vC.2.1 11 ((x3 - ((2 : Int32) * (vC.1 1)))).toNatClampNeg)).toNatClampNeg ((vG.2.2 0 ((vC.2.1 11 ((x3 - ((2 : Int32) * (vC.1 1)))).toNatClampNeg)).toNatClampNeg) ||| (vG.2.2 0 ((vC.2.1 12 ((x3 - ((2 : Int32) * (vC.1 1)))).toNatClampNeg)).toNatClampNeg)) := ⟨_, rfl⟩
        have hf := bn_at hf evL_29
        have hP : va_P g.1 vwCl (cL g bL vL_29 ++ (cC g bC vC ++ (cL g bG vG))) H := by rw [evL_29]; exact hP
        have hD : va_D A (cL g bL vL_29 ++ (cC g bC vC ++ (cL g bG vG))) := by rw [evL_29]; exact hD
        refine lv_aload_n hx hb dX2_setSites_113 rfl (lv_at hl 3 rfl) ?_
        refine va_get (D := g.1) (ci := 2) (fs := fcL bL vL_29) (v := .ref (bL 2)) (C := RX2) (T := TX2) (N := 2) hx hb htu hinX2 hown hK hP 0 rfl rfl 1 (by decide) k_1_225 (fun _ h9 => h9) rfl dX2_setSites_114 ?_
        refine lv_iload hx hb dX2_setSites_117 (lv_at hl 1 rfl) ?_
        refine lv_aload_n hx hb dX2_setSites_119 rfl (lv_at hl 5 rfl) ?_
        refine va_get (D := g.1) (ci := 2) (fs := fcL bG vG) (v := .ref (bG 2)) (C := RX2) (T := TX2) (N := 2) hx hb htu hinX2 hown hK hP 14 rfl rfl 1 (by decide) k_1_225 (fun _ h9 => h9) rfl dX2_setSites_120 ?_
        refine lv_iload hx hb dX2_setSites_123 (lv_at hl 1 rfl) ?_
        obtain ⟨h30, hf⟩ := gd_in hf
        refine va_lald (D := g.1) (f := (vG.2.2 1)) hx hb hK hP 16 1 rfl rfl h30 dX2_setSites_125 ?_
        refine lv_aload_n hx hb dX2_setSites_126 rfl (lv_at hl 5 rfl) ?_
        refine va_get (D := g.1) (ci := 2) (fs := fcL bG vG) (v := .ref (bG 2)) (C := RX2) (T := TX2) (N := 2) hx hb htu hinX2 hown hK hP 14 rfl rfl 1 (by decide) k_1_225 (fun _ h9 => h9) rfl dX2_setSites_127 ?_
        refine lv_iload hx hb dX2_setSites_130 (lv_at hl 0 rfl) ?_
        obtain ⟨h31, hf⟩ := gd_in hf
        refine va_lald (D := g.1) (f := (vG.2.2 1)) hx hb hK hP 16 1 rfl rfl h31 dX2_setSites_132 ?_
        refine lv_land hx hb dX2_setSites_133 ?_
        obtain ⟨h32, hf⟩ := gd_in hf
        refine va_last (D := g.1) (f := (vL_29.2.2 1)) hx hb hK hP hD hS 2 1 rfl rfl h32 dX2_setSites_134 (fun H locs hP hD hS => ?_)
        obtain ⟨vL_33, evL_33⟩ : ∃ z, z = sJ vL_29 1 ((vC.2.1 11 ((x3 - ((2 : Int32) * (vC.1 1)))).toNatClampNeg)).toNatClampNeg ((vG.2.2 1 ((vC.2.1 11 ((x3 - ((2 : Int32) * (vC.1 1)))).toNatClampNeg)).toNatClampNeg) &&& (vG.2.2 1 ((vC.2.1 12 ((x3 - ((2 : Int32) * (vC.1 1)))).toNatClampNeg)).toNatClampNeg)) := ⟨_, rfl⟩
        have hf := bn_at hf evL_33
        have hP : va_P g.1 vwCl (cL g bL vL_33 ++ (cC g bC vC ++ (cL g bG vG))) H := by rw [evL_33]; exact hP
        have hD : va_D A (cL g bL vL_33 ++ (cC g bC vC ++ (cL g bG vG))) := by rw [evL_33]; exact hD
        refine lv_goto (tgt := 182) hx hb dX2_setSites_135 (by decide) ?_
        exact hJ7 vL_33 hf H locs hP hD hS _ (lv_sub hl [3, 1, 0] rfl)
    · have hf := it_f hf c1
      refine lv_iload_n hx hb dX2_setSites_15 rfl (lv_at hl 4 rfl) ?_
      refine lv_iconst (v := (1 : Int32)) hx hb dX2_setSites_16 (by decide) ?_
      refine lv_ishr hx hb dX2_setSites_17 ?_
      refine lv_istore (lv' := [(5, .int (x3 >>> ((1 : Int32) &&& 31))), (4, .int (x3 - ((2 : Int32) * (vC.1 1)))), (0, .ref (bL 0)), (1, .ref (bC 0)), (2, .ref (bG 0)), (3, .int x3)]) hx hb dX2_setSites_18 hl (by decide) rfl (fun ls hl => ?_)
      refine lv_aload_n hx hb dX2_setSites_20 rfl (lv_at hl 2 rfl) ?_
      refine va_get (D := g.1) (ci := 2) (fs := fcL bL vL) (v := .ref (bL 2)) (C := RX2) (T := TX2) (N := 2) hx hb htu hinX2 hown hK hP 0 rfl rfl 1 (by decide) k_1_225 (fun _ h9 => h9) rfl dX2_setSites_21 ?_
      refine lv_iload hx hb dX2_setSites_24 (lv_at hl 0 rfl) ?_
      refine lv_iload_n hx hb dX2_setSites_26 rfl (lv_at hl 5 rfl) ?_
      refine lv_iconst (v := (1 : Int32)) hx hb dX2_setSites_27 (by decide) ?_
      refine lv_iand hx hb dX2_setSites_28 ?_
      obtain ⟨k35, hk44, hf⟩ := jn_at hf
      have hJ36 : ∀ (t34 : Int64), k35 t34 = some (r, vL1) → ∀ (H : Heap) (locs : List Loc), va_P g.1 vwCl (cL g bL vL ++ (cC g bC vC ++ (cL g bG vG))) H → va_D A (cL g bL vL ++ (cC g bC vC ++ (cL g bG vG))) → va_S A s.heap H locs → ∀ ls : Array Slot, lv_has ls 7 [(0, .ref (bL 0)), (5, .int (x3 >>> ((1 : Int32) &&& 31)))] → W p l e (headSpec wsX2_setSites rmX2_setSites).room s m ([.ref (bL 0), .ref (bC 0), .ref (bG 0), .int x3] : List Value).toArray below meth c H locs 0 0 (MQ below (qI g A (cL g bL vL1 ++ (cC g bC vC ++ (cL g bG vG))) r) ([.ref (bL 0), .ref (bC 0), .ref (bG 0), .int x3] : List Value).toArray s 0 0 A) (F0 m 39 ls [.long t34, .int (x3 >>> ((1 : Int32) &&& 31)), .ref (bL 2)]) := by
        intro t34 hf H locs hP hD hS ls hl
        rw [hk44] at hf
        dsimp only at hf
        clear hk44
        obtain ⟨h37, hf⟩ := gd_in hf
        refine va_last (D := g.1) (f := (vL.2.2 1)) hx hb hK hP hD hS 2 1 rfl rfl h37 dX2_setSites_39 (fun H locs hP hD hS => ?_)
        obtain ⟨vL_38, evL_38⟩ : ∃ z, z = sJ vL 1 ((x3 >>> ((1 : Int32) &&& 31))).toNatClampNeg t34 := ⟨_, rfl⟩
        have hf := bn_at hf evL_38
        have hP : va_P g.1 vwCl (cL g bL vL_38 ++ (cC g bC vC ++ (cL g bG vG))) H := by rw [evL_38]; exact hP
        have hD : va_D A (cL g bL vL_38 ++ (cC g bC vC ++ (cL g bG vG))) := by rw [evL_38]; exact hD
        refine lv_aload_n hx hb dX2_setSites_40 rfl (lv_at hl 0 rfl) ?_
        refine va_get (D := g.1) (ci := 2) (fs := fcL bL vL_38) (v := .ref (bL 1)) (C := RX2) (T := TX2) (N := 2) hx hb htu hinX2 hown hK hP 0 rfl rfl 0 (by decide) k_1_223 (fun _ h9 => h9) rfl dX2_setSites_41 ?_
        refine lv_iload hx hb dX2_setSites_44 (lv_at hl 1 rfl) ?_
        refine lv_aload_n hx hb dX2_setSites_46 rfl (lv_at hl 0 rfl) ?_
        refine va_get (D := g.1) (ci := 2) (fs := fcL bL vL_38) (v := .ref (bL 2)) (C := RX2) (T := TX2) (N := 2) hx hb htu hinX2 hown hK hP 0 rfl rfl 1 (by decide) k_1_225 (fun _ h9 => h9) rfl dX2_setSites_47 ?_
        refine lv_iload hx hb dX2_setSites_50 (lv_at hl 1 rfl) ?_
        obtain ⟨h39, hf⟩ := gd_in hf
        refine va_lald (D := g.1) (f := (vL_38.2.2 1)) hx hb hK hP 2 1 rfl rfl h39 dX2_setSites_52 ?_
        refine lv_ldc2 (v := (-1 : Int64)) hx hb hown k_2_110 dX2_setSites_53 ?_
        refine lv_lxor hx hb dX2_setSites_56 ?_
        obtain ⟨h40, hf⟩ := gd_in hf
        refine va_last (D := g.1) (f := (vL_38.2.2 0)) hx hb hK hP hD hS 1 1 rfl rfl h40 dX2_setSites_57 (fun H locs hP hD hS => ?_)
        obtain ⟨vL_41, evL_41⟩ : ∃ z, z = sJ vL_38 0 ((x3 >>> ((1 : Int32) &&& 31))).toNatClampNeg ((vL_38.2.2 1 ((x3 >>> ((1 : Int32) &&& 31))).toNatClampNeg) ^^^ (-1 : Int64)) := ⟨_, rfl⟩
        have hf := bn_at hf evL_41
        have hP : va_P g.1 vwCl (cL g bL vL_41 ++ (cC g bC vC ++ (cL g bG vG))) H := by rw [evL_41]; exact hP
        have hD : va_D A (cL g bL vL_41 ++ (cC g bC vC ++ (cL g bG vG))) := by rw [evL_41]; exact hD
        refine lv_iconst (v := (1 : Int32)) hx hb dX2_setSites_58 (by decide) ?_
        refine lv_iload hx hb dX2_setSites_59 (lv_at hl 1 rfl) ?_
        refine lv_ishl hx hb dX2_setSites_61 ?_
        obtain ⟨e42, e43⟩ := kp_2 hf
        rw [e43] at hP hD
        exact k_iret hx hb hr hlocks hK hP hD hS e42 dX2_setSites_62
      refine lv_if_eq (tgt := 38) hx hb dX2_setSites_29 (by decide) (fun c45 => ?_) (fun c45 => ?_)
      · have hf := it_t hf c45
        refine lv_lconst (v := (0 : Int64)) hx hb dX2_setSites_38 (by decide) ?_
        exact hJ36 (0 : Int64) hf H locs hP hD hS _ (lv_sub hl [2, 0] rfl)
      · have hf := it_f hf c45
        refine lv_ldc2 (v := (-1 : Int64)) hx hb hown k_2_110 dX2_setSites_32 ?_
        refine lv_goto (tgt := 39) hx hb dX2_setSites_35 (by decide) ?_
        exact hJ36 (-1 : Int64) hf H locs hP hD hS _ (lv_sub hl [2, 0] rfl)
  rw [hH, hlo] at hW
  exact hW
def f_X2_runFault_L12 (vC : Vs) (vG : Vs) (r1 : Int32) (self6 : Int32 → Vs → Option (Vs)) (x5_4 : Int32) (vL_5 : Vs) : Option (Vs) :=
  if (vC.1 1) ≤ x5_4 then some (vL_5) else o1 (f_X0_hasBit r1 x5_4) (fun (r11 : Int32) => jn (fun (vL_13 : Vs) => self6 (x5_4 + (1 : Int32)) vL_13) (fun k14 => if r11 = 0 then gd (inb x5_4 24) (if ((vC.2.1 9 (x5_4).toNatClampNeg) &&& r1) = 0 then gd (inb x5_4 24) (gd (inb x5_4 24) (bn (sJ vL_5 0 (x5_4).toNatClampNeg (vG.2.2 0 (x5_4).toNatClampNeg)) (fun (vL_22 : Vs) => gd (inb x5_4 24) (gd (inb x5_4 24) (bn (sJ vL_22 1 (x5_4).toNatClampNeg (vG.2.2 1 (x5_4).toNatClampNeg)) (fun (vL_25 : Vs) => k14 vL_25)))))) else o1 (f_X2_runGate vL_5 vC x5_4) (fun (vL_26 : Vs) => k14 vL_26)) else k14 vL_5))
def f_X2_runFault (vL : Vs) (vC : Vs) (vG : Vs) (x3 : Int32) : Option (Vs) :=
  o2 (f_X2_setSites vL vC vG x3) (fun (r1 : Int32) (vL_2 : Vs) => lp (f_X2_runFault_L12 vC vG r1) (fun _ _ => none) FU (0 : Int32) vL_2)
abbrev wsX2_runFault : List Cond := .code yX2_runFault cX2_runFault 6 none :: UW
abbrev rmX2_runFault : Room := { frames := 1, cells := 0, slots := 0, locals := 35 }
set_option maxHeartbeats 4000000 in
set_option maxRecDepth 100000 in
theorem c_X2_runFault (l : Launch) (g : Gx) (bL : Nat → Nat) (vL : Vs) (bC : Nat → Nat) (vC : Vs) (bG : Nat → Nat) (vG : Vs) (x3 : Int32) (vL1 : Vs) (hf : f_X2_runFault vL vC vG x3 = some vL1) : CtV l yX2_runFault wsX2_runFault rmX2_runFault g [.ref (bL 0), .ref (bC 0), .ref (bG 0), .int x3] (cL g bL vL ++ (cC g bC vC ++ (cL g bG vG))) (cL g bL vL1 ++ (cC g bC vC ++ (cL g bG vG))) 0 0 := by
  unfold CtV
  intro sz
  refine Met.ofW (cc := cX2_runFault) (maxL := 6) (ret := none) (by decide) rfl ?_
  intro p e s m args below meth c s₁ B hml hv
  obtain ⟨rfl, hsz, hP, hK, hD0, hG⟩ := hv
  have hx := B.exec
  have hb := B.bytes
  have hr := B.returns
  have hts := atoms_spec (ws := wsX2_runFault) B.pre
  have hown : s.vm.findClass RX2 = some m.cls := findClass_of_methodNamed B.named
  have hlocks := B.notSynchronized
  subst hsz
  have hD := hD0.self (sz := s.heap.size)
  generalize hAe : va_A (cL g bL vL ++ (cC g bC vC ++ (cL g bG vG))) s.heap.size = A at hD hG ⊢
  have hA : ∀ q : Nat, s.heap.size ≤ q → A q := fun q h => by rw [← hAe]; exact Or.inr h
  clear hAe hD0
  have hS : va_S A s.heap s.heap [] := va_S.rf
  have hl := lv_entry ([.ref (bL 0), .ref (bC 0), .ref (bG 0), .int x3]) (n := 6) (Nat.le_of_ble_eq_true rfl)
  rw [lg_entry_eq]
  generalize (lg_sl ([.ref (bL 0), .ref (bC 0), .ref (bG 0), .int x3]) ++ List.replicate (6 - (lg_sl ([.ref (bL 0), .ref (bC 0), .ref (bG 0), .int x3])).length) Slot.unset).toArray = ls at hl ⊢
  have hl : lv_has ls 6 [(0, .ref (bL 0)), (1, .ref (bC 0)), (2, .ref (bG 0)), (3, .int x3)] := hl
  have htu : ∀ w ∈ UW, w.before _ s = true := fun w h => hts w (List.mem_cons_of_mem _ h)
  have k_1_65 := htu _ mw_1_65
  have k_1_81 := htu _ mw_1_81
  have k_1_223 := htu _ mw_1_223
  have k_1_225 := htu _ mw_1_225
  unfold f_X2_runFault at hf
  obtain ⟨H, hH⟩ : ∃ z, z = s.heap := ⟨_, rfl⟩
  obtain ⟨locs, hlo⟩ : ∃ z : List Loc, z = [] := ⟨_, rfl⟩
  have hS : va_S A s.heap H locs := by rw [hH, hlo]; exact hS
  rw [← hH] at hP
  have hW : W p l e (headSpec wsX2_runFault rmX2_runFault).room s m ([.ref (bL 0), .ref (bC 0), .ref (bG 0), .int x3] : List Value).toArray below meth c H locs 0 0 (MQ below (qV g A (cL g bL vL1 ++ (cC g bC vC ++ (cL g bG vG)))) ([.ref (bL 0), .ref (bC 0), .ref (bG 0), .int x3] : List Value).toArray s 0 0 A) (F0 m 0 ls []) := by
    refine lv_aload_n hx hb dX2_runFault_0 rfl (lv_at hl 0 rfl) ?_
    refine lv_aload_n hx hb dX2_runFault_1 rfl (lv_at hl 1 rfl) ?_
    refine lv_aload_n hx hb dX2_runFault_2 rfl (lv_at hl 2 rfl) ?_
    refine lv_iload_n hx hb dX2_runFault_3 rfl (lv_at hl 3 rfl) ?_
    obtain ⟨r1, vL_2, hg3, hf⟩ := o2_at hf
    refine k_viW ⟨hx, hb, hml, hown, htu⟩ hK hP hD hS hA hG (c_X2_setSites l g bL vL bC vC bG vG x3 r1 vL_2 hg3) (cwV 3 htu (gU_V mw_2_106 hcX2_setSites) rfl rfl rfl hdX2_setSites ⟨Nat.le_of_ble_eq_true rfl, Nat.le_of_ble_eq_true rfl⟩) (q0 := 0) (ci := 2) (fs := fcL bL vL) (q := (RX2, TX2, 2)) rfl rfl rfl (As := [.ref (bC 0), .ref (bG 0), .int x3]) (rest := []) rfl rfl hl.1 (Nat.le_of_ble_eq_true rfl) dX2_runFault_4 (k1 := 0) (n1 := 0) rfl rfl ⟨Nat.zero_le _, Nat.zero_le _⟩ (fun H locs hP hD hS => ?_)
    refine lv_istore (lv' := [(4, .int r1), (0, .ref (bL 0)), (1, .ref (bC 0)), (2, .ref (bG 0)), (3, .int x3)]) hx hb dX2_runFault_7 hl (by decide) rfl (fun ls hl => ?_)
    refine lv_iconst (v := (0 : Int32)) hx hb dX2_runFault_9 (by decide) ?_
    refine lv_istore (lv' := [(5, .int (0 : Int32)), (4, .int r1), (0, .ref (bL 0)), (1, .ref (bC 0)), (2, .ref (bG 0)), (3, .int x3)]) hx hb dX2_runFault_10 hl (by decide) rfl (fun ls hl => ?_)
    have hL7 : ∀ (x5_4 : Int32) (vL_5 : Vs), lp (f_X2_runFault_L12 vC vG r1) (fun _ _ => none) FU x5_4 vL_5 = some vL1 → ∀ (H : Heap) (locs : List Loc), va_P g.1 vwCl (cL g bL vL_5 ++ (cC g bC vC ++ (cL g bG vG))) H → va_D A (cL g bL vL_5 ++ (cC g bC vC ++ (cL g bG vG))) → va_S A s.heap H locs → ∀ ls : Array Slot, lv_has ls 6 [(0, .ref (bL 0)), (1, .ref (bC 0)), (2, .ref (bG 0)), (4, .int r1), (5, .int x5_4)] → W p l e (headSpec wsX2_runFault rmX2_runFault).room s m ([.ref (bL 0), .ref (bC 0), .ref (bG 0), .int x3] : List Value).toArray below meth c H locs 0 0 (MQ below (qV g A (cL g bL vL1 ++ (cC g bC vC ++ (cL g bG vG)))) ([.ref (bL 0), .ref (bC 0), .ref (bG 0), .int x3] : List Value).toArray s 0 0 A) (F0 m 12 ls []) := by
      refine lp_ind (T := Int32 → Vs → Option (Vs)) (fun self6 => ∀ (x5_4 : Int32) (vL_5 : Vs), self6 x5_4 vL_5 = some vL1 → ∀ (H : Heap) (locs : List Loc), va_P g.1 vwCl (cL g bL vL_5 ++ (cC g bC vC ++ (cL g bG vG))) H → va_D A (cL g bL vL_5 ++ (cC g bC vC ++ (cL g bG vG))) → va_S A s.heap H locs → ∀ ls : Array Slot, lv_has ls 6 [(0, .ref (bL 0)), (1, .ref (bC 0)), (2, .ref (bG 0)), (4, .int r1), (5, .int x5_4)] → W p l e (headSpec wsX2_runFault rmX2_runFault).room s m ([.ref (bL 0), .ref (bC 0), .ref (bG 0), .int x3] : List Value).toArray below meth c H locs 0 0 (MQ below (qV g A (cL g bL vL1 ++ (cC g bC vC ++ (cL g bG vG)))) ([.ref (bL 0), .ref (bC 0), .ref (bG 0), .int x3] : List Value).toArray s 0 0 A) (F0 m 12 ls [])) ?_ ?_ FU
      · intro x5_4 vL_5 hf; cases hf
      · intro self6 ih8 x5_4 vL_5 hf H locs hP hD hS ls hl
        unfold f_X2_runFault_L12 at hf
        refine lv_iload hx hb dX2_runFault_12 (lv_at hl 4 rfl) ?_
        refine lv_aload_n hx hb dX2_runFault_14 rfl (lv_at hl 1 rfl) ?_
        refine va_get (D := g.1) (ci := 0) (fs := fcC bC vC) (v := .int (vC.1 1)) (C := RX0) (T := TX0) (N := 14) hx hb htu hinX0 hown hK hP 3 rfl rfl 1 (by decide) k_1_65 (fun _ h9 => h9) rfl dX2_runFault_15 ?_
        refine lv_icmp_ge (tgt := 91) hx hb dX2_runFault_18 (by decide) (fun c9 => ?_) (fun c9 => ?_)
        · have hf := it_t hf c9
          have e10 := Option.some.inj hf
          rw [e10] at hP hD
          exact k_vret hx hb hr hlocks hK hP hD hS dX2_runFault_91
        · have hf := it_f hf c9
          refine lv_iload hx hb dX2_runFault_21 (lv_at hl 3 rfl) ?_
          refine lv_iload hx hb dX2_runFault_23 (lv_at hl 4 rfl) ?_
          obtain ⟨r11, hg12, hf⟩ := o1_at hf
          refine k_si0 ⟨hx, hb, hml, hown, htu⟩ hK hP hD hS hA hG (c_X0_hasBit l g r1 x5_4 r11 hg12) (va_cwS 2 htu (gU_S mw_2_78 hcX0_hasBit) rfl rfl rfl hdX0_hasBit ⟨Nat.le_of_ble_eq_true rfl, Nat.le_of_ble_eq_true rfl⟩) (As := [.int r1, .int x5_4]) (rest := []) rfl rfl hl.1 (Nat.le_of_ble_eq_true rfl) dX2_runFault_25 (k1 := 0) (n1 := 0) rfl rfl ⟨Nat.zero_le _, Nat.zero_le _⟩ (fun H locs hP hD hS => ?_)
          obtain ⟨k14, hk16, hf⟩ := jn_at hf
          have hJ15 : ∀ (vL_13 : Vs), k14 vL_13 = some vL1 → ∀ (H : Heap) (locs : List Loc), va_P g.1 vwCl (cL g bL vL_13 ++ (cC g bC vC ++ (cL g bG vG))) H → va_D A (cL g bL vL_13 ++ (cC g bC vC ++ (cL g bG vG))) → va_S A s.heap H locs → ∀ ls : Array Slot, lv_has ls 6 [(0, .ref (bL 0)), (1, .ref (bC 0)), (2, .ref (bG 0)), (4, .int r1), (5, .int x5_4)] → W p l e (headSpec wsX2_runFault rmX2_runFault).room s m ([.ref (bL 0), .ref (bC 0), .ref (bG 0), .int x3] : List Value).toArray below meth c H locs 0 0 (MQ below (qV g A (cL g bL vL1 ++ (cC g bC vC ++ (cL g bG vG)))) ([.ref (bL 0), .ref (bC 0), .ref (bG 0), .int x3] : List Value).toArray s 0 0 A) (F0 m 85 ls []) := by
            intro vL_13 hf H locs hP hD hS ls hl
            rw [hk16] at hf
            dsimp only at hf
            clear hk16
            refine lv_iinc (v := (x5_4 + (1 : Int32))) (lv' := [(5, .int (x5_4 + (1 : Int32))), (0, .ref (bL 0)), (1, .ref (bC 0)), (2, .ref (bG 0)), (4, .int r1)]) hx hb dX2_runFault_85 hl (k := 4) rfl rfl (by decide) rfl (fun ls hl => ?_)
            refine lv_goto (tgt := 12) hx hb dX2_runFault_88 (by decide) ?_
            exact ih8 (x5_4 + (1 : Int32)) vL_13 hf H locs hP hD hS _ (lv_sub hl [1, 2, 3, 4, 0] rfl)
          refine lv_if_eq (tgt := 34) hx hb dX2_runFault_28 (by decide) (fun c17 => ?_) (fun c17 => ?_)
          · have hf := it_t hf c17
            refine lv_aload_n hx hb dX2_runFault_34 rfl (lv_at hl 1 rfl) ?_
            refine va_get (D := g.1) (ci := 0) (fs := fcC bC vC) (v := .ref (bC 10)) (C := RX0) (T := TX0) (N := 14) hx hb htu hinX0 hown hK hP 3 rfl rfl 9 (by decide) k_1_81 (fun _ h9 => h9) rfl dX2_runFault_35 ?_
            refine lv_iload hx hb dX2_runFault_38 (lv_at hl 4 rfl) ?_
            obtain ⟨h18, hf⟩ := gd_in hf
            refine va_iald (D := g.1) (f := (vC.2.1 9)) hx hb hK hP 9 0 rfl rfl h18 dX2_runFault_40 ?_
            refine lv_iload hx hb dX2_runFault_41 (lv_at hl 3 rfl) ?_
            refine lv_iand hx hb dX2_runFault_43 ?_
            refine lv_if_eq (tgt := 57) hx hb dX2_runFault_44 (by decide) (fun c19 => ?_) (fun c19 => ?_)
            · have hf := it_t hf c19
              refine lv_aload_n hx hb dX2_runFault_57 rfl (lv_at hl 0 rfl) ?_
              refine va_get (D := g.1) (ci := 2) (fs := fcL bL vL_5) (v := .ref (bL 1)) (C := RX2) (T := TX2) (N := 2) hx hb htu hinX2 hown hK hP 0 rfl rfl 0 (by decide) k_1_223 (fun _ h9 => h9) rfl dX2_runFault_58 ?_
              refine lv_iload hx hb dX2_runFault_61 (lv_at hl 4 rfl) ?_
              refine lv_aload_n hx hb dX2_runFault_63 rfl (lv_at hl 2 rfl) ?_
              refine va_get (D := g.1) (ci := 2) (fs := fcL bG vG) (v := .ref (bG 1)) (C := RX2) (T := TX2) (N := 2) hx hb htu hinX2 hown hK hP 14 rfl rfl 0 (by decide) k_1_223 (fun _ h9 => h9) rfl dX2_runFault_64 ?_
              refine lv_iload hx hb dX2_runFault_67 (lv_at hl 4 rfl) ?_
              obtain ⟨h20, hf⟩ := gd_in hf
              refine va_lald (D := g.1) (f := (vG.2.2 0)) hx hb hK hP 15 1 rfl rfl h20 dX2_runFault_69 ?_
              obtain ⟨h21, hf⟩ := gd_in hf
              refine va_last (D := g.1) (f := (vL_5.2.2 0)) hx hb hK hP hD hS 1 1 rfl rfl h21 dX2_runFault_70 (fun H locs hP hD hS => ?_)
              obtain ⟨vL_22, evL_22⟩ : ∃ z, z = sJ vL_5 0 (x5_4).toNatClampNeg (vG.2.2 0 (x5_4).toNatClampNeg) := ⟨_, rfl⟩
              have hf := bn_at hf evL_22
              have hP : va_P g.1 vwCl (cL g bL vL_22 ++ (cC g bC vC ++ (cL g bG vG))) H := by rw [evL_22]; exact hP
              have hD : va_D A (cL g bL vL_22 ++ (cC g bC vC ++ (cL g bG vG))) := by rw [evL_22]; exact hD
              refine lv_aload_n hx hb dX2_runFault_71 rfl (lv_at hl 0 rfl) ?_
              refine va_get (D := g.1) (ci := 2) (fs := fcL bL vL_22) (v := .ref (bL 2)) (C := RX2) (T := TX2) (N := 2) hx hb htu hinX2 hown hK hP 0 rfl rfl 1 (by decide) k_1_225 (fun _ h9 => h9) rfl dX2_runFault_72 ?_
              refine lv_iload hx hb dX2_runFault_75 (lv_at hl 4 rfl) ?_
              refine lv_aload_n hx hb dX2_runFault_77 rfl (lv_at hl 2 rfl) ?_
              refine va_get (D := g.1) (ci := 2) (fs := fcL bG vG) (v := .ref (bG 2)) (C := RX2) (T := TX2) (N := 2) hx hb htu hinX2 hown hK hP 14 rfl rfl 1 (by decide) k_1_225 (fun _ h9 => h9) rfl dX2_runFault_78 ?_
              refine lv_iload hx hb dX2_runFault_81 (lv_at hl 4 rfl) ?_
              obtain ⟨h23, hf⟩ := gd_in hf
              refine va_lald (D := g.1) (f := (vG.2.2 1)) hx hb hK hP 16 1 rfl rfl h23 dX2_runFault_83 ?_
              obtain ⟨h24, hf⟩ := gd_in hf
              refine va_last (D := g.1) (f := (vL_22.2.2 1)) hx hb hK hP hD hS 2 1 rfl rfl h24 dX2_runFault_84 (fun H locs hP hD hS => ?_)
              obtain ⟨vL_25, evL_25⟩ : ∃ z, z = sJ vL_22 1 (x5_4).toNatClampNeg (vG.2.2 1 (x5_4).toNatClampNeg) := ⟨_, rfl⟩
              have hf := bn_at hf evL_25
              have hP : va_P g.1 vwCl (cL g bL vL_25 ++ (cC g bC vC ++ (cL g bG vG))) H := by rw [evL_25]; exact hP
              have hD : va_D A (cL g bL vL_25 ++ (cC g bC vC ++ (cL g bG vG))) := by rw [evL_25]; exact hD
              exact hJ15 vL_25 hf H locs hP hD hS _ (lv_sub hl [0, 1, 2, 3, 4] rfl)
            · have hf := it_f hf c19
              refine lv_aload_n hx hb dX2_runFault_47 rfl (lv_at hl 0 rfl) ?_
              refine lv_aload_n hx hb dX2_runFault_48 rfl (lv_at hl 1 rfl) ?_
              refine lv_iload hx hb dX2_runFault_49 (lv_at hl 4 rfl) ?_
              obtain ⟨vL_26, hg27, hf⟩ := o1_at hf
              refine k_vvP ⟨hx, hb, hml, hown, htu⟩ hK hP hD hS hA hG (c_X2_runGate l g bL vL_5 bC vC x5_4 vL_26 hg27) (cwV 2 htu (gU_V mw_2_90 hcX2_runGate) rfl rfl rfl hdX2_runGate ⟨Nat.le_of_ble_eq_true rfl, Nat.le_of_ble_eq_true rfl⟩) (q0 := 0) (ci := 2) (fs := fcL bL vL_5) (q := (RX2, TX2, 2)) rfl rfl rfl (wr := (cL g bG vG)) (w2 := cL g bL vL_26 ++ (cC g bC vC ++ (cL g bG vG))) [0, 1, 2, 3, 4, 5, 6, 7, 8, 9, 10, 11, 12, 13] [14, 15, 16] [3, 4, 5, 6, 7, 8, 9, 10, 11, 12, 13, 14, 15, 16, 0, 1, 2] rfl rfl (by decide) (by decide) (by decide) rfl rfl (by decide) (As := [.ref (bC 0), .int x5_4]) (rest := []) rfl rfl hl.1 (Nat.le_of_ble_eq_true rfl) dX2_runFault_51 (k1 := 0) (n1 := 0) rfl rfl ⟨Nat.zero_le _, Nat.zero_le _⟩ (fun H locs hP hD hS => ?_)
              refine lv_goto (tgt := 85) hx hb dX2_runFault_54 (by decide) ?_
              exact hJ15 vL_26 hf H locs hP hD hS _ (lv_sub hl [0, 1, 2, 3, 4] rfl)
          · have hf := it_f hf c17
            refine lv_goto (tgt := 85) hx hb dX2_runFault_31 (by decide) ?_
            exact hJ15 vL_5 hf H locs hP hD hS _ (lv_sub hl [0, 1, 2, 3, 4] rfl)
    exact hL7 (0 : Int32) vL_2 hf H locs hP hD hS _ (lv_sub hl [2, 3, 4, 1, 0] rfl)
  rw [hH, hlo] at hW
  exact hW
