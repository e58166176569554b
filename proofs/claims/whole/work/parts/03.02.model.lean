def f_X8_kindOf (vM : Vs) (x1 : Int32) : Option (Int32) :=
  o1 (f_X8_get vM ((8 : Int32) + x1)) (fun (r1 : Int32) => some (r1))
abbrev wsX8_kindOf : List Cond := .code yX8_kindOf cX8_kindOf 2 (some .int) :: UW
abbrev rmX8_kindOf : Room := { frames := 1, cells := 0, slots := 0, locals := 21 }
set_option maxHeartbeats 4000000 in
set_option maxRecDepth 100000 in
theorem c_X8_kindOf (l : Launch) (g : Gx) (bM : Nat → Nat) (vM : Vs) (x1 : Int32) (r : Int32) (hf : f_X8_kindOf vM x1 = some r) : CtI l yX8_kindOf wsX8_kindOf rmX8_kindOf g [.ref (bM 0), .int x1] (cM g bM vM) (cM g bM vM) r 0 0 := by
  unfold CtI
  intro sz
  refine Met.ofW (cc := cX8_kindOf) (maxL := 2) (ret := (some .int)) (by decide) rfl ?_
  intro p e s m args below meth c s₁ B hml hv
  obtain ⟨rfl, hsz, hP, hK, hD0, hG⟩ := hv
  have hx := B.exec
  have hb := B.bytes
  have hr := B.returns
  have hts := atoms_spec (ws := wsX8_kindOf) B.pre
  have hown : s.vm.findClass RX8 = some m.cls := findClass_of_methodNamed B.named
  have hlocks := B.notSynchronized
  subst hsz
  have hD := hD0.self (sz := s.heap.size)
  generalize hAe : va_A (cM g bM vM) s.heap.size = A at hD hG ⊢
  have hA : ∀ q : Nat, s.heap.size ≤ q → A q := fun q h => by rw [← hAe]; exact Or.inr h
  clear hAe hD0
  have hS : va_S A s.heap s.heap [] := va_S.rf
  have hl := lv_entry ([.ref (bM 0), .int x1]) (n := 2) (Nat.le_of_ble_eq_true rfl)
  rw [lg_entry_eq]
  generalize (lg_sl ([.ref (bM 0), .int x1]) ++ List.replicate (2 - (lg_sl ([.ref (bM 0), .int x1])).length) Slot.unset).toArray = ls at hl ⊢
  have hl : lv_has ls 2 [(0, .ref (bM 0)), (1, .int x1)] := hl
  have htu : ∀ w ∈ UW, w.before _ s = true := fun w h => hts w (List.mem_cons_of_mem _ h)
  unfold f_X8_kindOf at hf
  obtain ⟨H, hH⟩ : ∃ z, z = s.heap := ⟨_, rfl⟩
  obtain ⟨locs, hlo⟩ : ∃ z : List Loc, z = [] := ⟨_, rfl⟩
  have hS : va_S A s.heap H locs := by rw [hH, hlo]; exact hS
  rw [← hH] at hP
  have hW : W p l e (headSpec wsX8_kindOf rmX8_kindOf).room s m ([.ref (bM 0), .int x1] : List Value).toArray below meth c H locs 0 0 (MQ below (qI g A (cM g bM vM) r) ([.ref (bM 0), .int x1] : List Value).toArray s 0 0 A) (F0 m 0 ls []) := by
    refine lv_aload_n hx hb dX8_kindOf_0 rfl (lv_at hl 0 rfl) ?_
    refine lv_bipush (v := (8 : Int32)) hx hb dX8_kindOf_1 (by decide) ?_
    refine lv_iload_n hx hb dX8_kindOf_3 rfl (lv_at hl 1 rfl) ?_
    refine lv_iadd hx hb dX8_kindOf_4 ?_
    obtain ⟨r1, hg2, hf⟩ := o1_at hf
    refine k_viW ⟨hx, hb, hml, hown, htu⟩ hK hP hD hS hA hG (c_X8_get l g bM vM ((8 : Int32) + x1) r1 hg2) (cwV 1 htu (gU_V mw_6_20 hcX8_get) rfl rfl rfl hdX8_get ⟨Nat.le_of_ble_eq_true rfl, Nat.le_of_ble_eq_true rfl⟩) (q0 := 0) (ci := 8) (fs := fcM bM vM) (q := (RX8, TX8, 23)) rfl rfl rfl (As := [.int ((8 : Int32) + x1)]) (rest := []) rfl rfl hl.1 (Nat.le_of_ble_eq_true rfl) dX8_kindOf_5 (k1 := 0) (n1 := 0) rfl rfl ⟨Nat.zero_le _, Nat.zero_le _⟩ (fun H locs hP hD hS => ?_)
    have e3 := Option.some.inj hf
    exact k_iret hx hb hr hlocks hK hP hD hS e3 dX8_kindOf_8
  rw [hH, hlo] at hW
  exact hW
def f_X8_have (vM : Vs) (x1 : Int32) : Option (Int32) :=
  o1 (f_X8_get vM ((32 : Int32) + x1)) (fun (r1 : Int32) => some (r1))
abbrev wsX8_have : List Cond := .code yX8_have cX8_have 2 (some .int) :: UW
abbrev rmX8_have : Room := { frames := 1, cells := 0, slots := 0, locals := 21 }
set_option maxHeartbeats 4000000 in
set_option maxRecDepth 100000 in
theorem c_X8_have (l : Launch) (g : Gx) (bM : Nat → Nat) (vM : Vs) (x1 : Int32) (r : Int32) (hf : f_X8_have vM x1 = some r) : CtI l yX8_have wsX8_have rmX8_have g [.ref (bM 0), .int x1] (cM g bM vM) (cM g bM vM) r 0 0 := by
  unfold CtI
  intro sz
  refine Met.ofW (cc := cX8_have) (maxL := 2) (ret := (some .int)) (by decide) rfl ?_
  intro p e s m args below meth c s₁ B hml hv
  obtain ⟨rfl, hsz, hP, hK, hD0, hG⟩ := hv
  have hx := B.exec
  have hb := B.bytes
  have hr := B.returns
  have hts := atoms_spec (ws := wsX8_have) B.pre
  have hown : s.vm.findClass RX8 = some m.cls := findClass_of_methodNamed B.named
  have hlocks := B.notSynchronized
  subst hsz
  have hD := hD0.self (sz := s.heap.size)
  generalize hAe : va_A (cM g bM vM) s.heap.size = A at hD hG ⊢
  have hA : ∀ q : Nat, s.heap.size ≤ q → A q := fun q h => by rw [← hAe]; exact Or.inr h
  clear hAe hD0
  have hS : va_S A s.heap s.heap [] := va_S.rf
  have hl := lv_entry ([.ref (bM 0), .int x1]) (n := 2) (Nat.le_of_ble_eq_true rfl)
  rw [lg_entry_eq]
  generalize (lg_sl ([.ref (bM 0), .int x1]) ++ List.replicate (2 - (lg_sl ([.ref (bM 0), .int x1])).length) Slot.unset).toArray = ls at hl ⊢
  have hl : lv_has ls 2 [(0, .ref (bM 0)), (1, .int x1)] := hl
  have htu : ∀ w ∈ UW, w.before _ s = true := fun w h => hts w (List.mem_cons_of_mem _ h)
  unfold f_X8_have at hf
  obtain ⟨H, hH⟩ : ∃ z, z = s.heap := ⟨_, rfl⟩
  obtain ⟨locs, hlo⟩ : ∃ z : List Loc, z = [] := ⟨_, rfl⟩
  have hS : va_S A s.heap H locs := by rw [hH, hlo]; exact hS
  rw [← hH] at hP
  have hW : W p l e (headSpec wsX8_have rmX8_have).room s m ([.ref (bM 0), .int x1] : List Value).toArray below meth c H locs 0 0 (MQ below (qI g A (cM g bM vM) r) ([.ref (bM 0), .int x1] : List Value).toArray s 0 0 A) (F0 m 0 ls []) := by
    refine lv_aload_n hx hb dX8_have_0 rfl (lv_at hl 0 rfl) ?_
    refine lv_bipush (v := (32 : Int32)) hx hb dX8_have_1 (by decide) ?_
    refine lv_iload_n hx hb dX8_have_3 rfl (lv_at hl 1 rfl) ?_
    refine lv_iadd hx hb dX8_have_4 ?_
    obtain ⟨r1, hg2, hf⟩ := o1_at hf
    refine k_viW ⟨hx, hb, hml, hown, htu⟩ hK hP hD hS hA hG (c_X8_get l g bM vM ((32 : Int32) + x1) r1 hg2) (cwV 1 htu (gU_V mw_6_20 hcX8_get) rfl rfl rfl hdX8_get ⟨Nat.le_of_ble_eq_true rfl, Nat.le_of_ble_eq_true rfl⟩) (q0 := 0) (ci := 8) (fs := fcM bM vM) (q := (RX8, TX8, 23)) rfl rfl rfl (As := [.int ((32 : Int32) + x1)]) (rest := []) rfl rfl hl.1 (Nat.le_of_ble_eq_true rfl) dX8_have_5 (k1 := 0) (n1 := 0) rfl rfl ⟨Nat.zero_le _, Nat.zero_le _⟩ (fun H locs hP hD hS => ?_)
    have e3 := Option.some.inj hf
    exact k_iret hx hb hr hlocks hK hP hD hS e3 dX8_have_8
  rw [hH, hlo] at hW
  exact hW
def f_X8_operandOf (vM : Vs) (x1 : Int32) (x2 : Int32) : Option (Int32) :=
  o1 (f_X8_get vM (((56 : Int32) + ((4 : Int32) * x1)) + x2)) (fun (r1 : Int32) => some (r1))
abbrev wsX8_operandOf : List Cond := .code yX8_operandOf cX8_operandOf 3 (some .int) :: UW
abbrev rmX8_operandOf : Room := { frames := 1, cells := 0, slots := 0, locals := 21 }
set_option maxHeartbeats 4000000 in
set_option maxRecDepth 100000 in
theorem c_X8_operandOf (l : Launch) (g : Gx) (bM : Nat → Nat) (vM : Vs) (x1 : Int32) (x2 : Int32) (r : Int32) (hf : f_X8_operandOf vM x1 x2 = some r) : CtI l yX8_operandOf wsX8_operandOf rmX8_operandOf g [.ref (bM 0), .int x1, .int x2] (cM g bM vM) (cM g bM vM) r 0 0 := by
  unfold CtI
  intro sz
  refine Met.ofW (cc := cX8_operandOf) (maxL := 3) (ret := (some .int)) (by decide) rfl ?_
  intro p e s m args below meth c s₁ B hml hv
  obtain ⟨rfl, hsz, hP, hK, hD0, hG⟩ := hv
  have hx := B.exec
  have hb := B.bytes
  have hr := B.returns
  have hts := atoms_spec (ws := wsX8_operandOf) B.pre
  have hown : s.vm.findClass RX8 = some m.cls := findClass_of_methodNamed B.named
  have hlocks := B.notSynchronized
  subst hsz
  have hD := hD0.self (sz := s.heap.size)
  generalize hAe : va_A (cM g bM vM) s.heap.size = A at hD hG ⊢
  have hA : ∀ q : Nat, s.heap.size ≤ q → A q := fun q h => by rw [← hAe]; exact Or.inr h
  clear hAe hD0
  have hS : va_S A s.heap s.heap [] := va_S.rf
  have hl := lv_entry ([.ref (bM 0), .int x1, .int x2]) (n := 3) (Nat.le_of_ble_eq_true rfl)
  rw [lg_entry_eq]
  generalize (lg_sl ([.ref (bM 0), .int x1, .int x2]) ++ List.replicate (3 - (lg_sl ([.ref (bM 0), .int x1, .int x2])).length) Slot.unset).toArray = ls at hl ⊢
  have hl : lv_has ls 3 [(0, .ref (bM 0)), (1, .int x1), (2, .int x2)] := hl
  have htu : ∀ w ∈ UW, w.before _ s = true := fun w h => hts w (List.mem_cons_of_mem _ h)
  unfold f_X8_operandOf at hf
  obtain ⟨H, hH⟩ : ∃ z, z = s.heap := ⟨_, rfl⟩
  obtain ⟨locs, hlo⟩ : ∃ z : List Loc, z = [] := ⟨_, rfl⟩
  have hS : va_S A s.heap H locs := by rw [hH, hlo]; exact hS
  rw [← hH] at hP
  have hW : W p l e (headSpec wsX8_operandOf rmX8_operandOf).room s m ([.ref (bM 0), .int x1, .int x2] : List Value).toArray below meth c H locs 0 0 (MQ below (qI g A (cM g bM vM) r) ([.ref (bM 0), .int x1, .int x2] : List Value).toArray s 0 0 A) (F0 m 0 ls []) := by
    refine lv_aload_n hx hb dX8_operandOf_0 rfl (lv_at hl 0 rfl) ?_
    refine lv_bipush (v := (56 : Int32)) hx hb dX8_operandOf_1 (by decide) ?_
    refine lv_iconst (v := (4 : Int32)) hx hb dX8_operandOf_3 (by decide) ?_
    refine lv_iload_n hx hb dX8_operandOf_4 rfl (lv_at hl 1 rfl) ?_
    refine lv_imul hx hb dX8_operandOf_5 ?_
    refine lv_iadd hx hb dX8_operandOf_6 ?_
    refine lv_iload_n hx hb dX8_operandOf_7 rfl (lv_at hl 2 rfl) ?_
    refine lv_iadd hx hb dX8_operandOf_8 ?_
    obtain ⟨r1, hg2, hf⟩ := o1_at hf
    refine k_viW ⟨hx, hb, hml, hown, htu⟩ hK hP hD hS hA hG (c_X8_get l g bM vM (((56 : Int32) + ((4 : Int32) * x1)) + x2) r1 hg2) (cwV 1 htu (gU_V mw_6_20 hcX8_get) rfl rfl rfl hdX8_get ⟨Nat.le_of_ble_eq_true rfl, Nat.le_of_ble_eq_true rfl⟩) (q0 := 0) (ci := 8) (fs := fcM bM vM) (q := (RX8, TX8, 23)) rfl rfl rfl (As := [.int (((56 : Int32) + ((4 : Int32) * x1)) + x2)]) (rest := []) rfl rfl hl.1 (Nat.le_of_ble_eq_true rfl) dX8_operandOf_9 (k1 := 0) (n1 := 0) rfl rfl ⟨Nat.zero_le _, Nat.zero_le _⟩ (fun H locs hP hD hS => ?_)
    have e3 := Option.some.inj hf
    exact k_iret hx hb hr hlocks hK hP hD hS e3 dX8_operandOf_12
  rw [hH, hlo] at hW
  exact hW
def f_X8_levelOf_L22 (x1 : Int32) (x2_3 : Int32) (x3_4 : Int32) (self6 : Int32 → Int32 → Vs → Option (Int32 × Vs)) (self16 : Int32 → Vs → Option (Int32 × Vs)) (x4_14 : Int32) (vM_15 : Vs) : Option (Int32 × Vs) :=
  o1 (f_X8_have vM_15 x3_4) (fun (r19 : Int32) => if r19 ≤ x4_14 then jn (fun (t22 : Int32) => self6 t22 (x3_4 + (1 : Int32)) vM_15) (fun k23 => if x3_4 = x1 then gd (inb x3_4 24) (k23 (vM_15.2.1 5 (x3_4).toNatClampNeg)) else k23 x2_3) else o1 (f_X8_operandOf vM_15 x3_4 x4_14) (fun (r28 : Int32) => o1 (f_X8_inputs vM_15) (fun (r30 : Int32) => jn (fun (t32 : Int32) => gd (inb x3_4 24) (jn (fun (t36 : Int32) => gd (inb x3_4 24) (bn (sI vM_15 5 (x3_4).toNatClampNeg t36) (fun (vM_40 : Vs) => self16 (x4_14 + (1 : Int32)) vM_40))) (fun k37 => if (t32 + (1 : Int32)) ≤ (vM_15.2.1 5 (x3_4).toNatClampNeg) then gd (inb x3_4 24) (k37 (vM_15.2.1 5 (x3_4).toNatClampNeg)) else k37 (t32 + (1 : Int32))))) (fun k33 => if r30 ≤ r28 then o1 (f_X8_operandOf vM_15 x3_4 x4_14) (fun (r46 : Int32) => gd (inb r46 24) (k33 (vM_15.2.1 5 (r46).toNatClampNeg))) else k33 (0 : Int32)))))
def f_X8_levelOf_L7 (x1 : Int32) (self6 : Int32 → Int32 → Vs → Option (Int32 × Vs)) (x2_3 : Int32) (x3_4 : Int32) (vM_5 : Vs) : Option (Int32 × Vs) :=
  if x1 < x3_4 then some (x2_3, vM_5) else gd (inb x3_4 24) (bn (sI vM_5 5 (x3_4).toNatClampNeg (0 : Int32)) (fun (vM_13 : Vs) => lp (f_X8_levelOf_L22 x1 x2_3 x3_4 self6) (fun _ _ => none) FU (0 : Int32) vM_13))
def f_X8_levelOf (vM : Vs) (x1 : Int32) : Option (Int32 × Vs) :=
  o1 (f_X8_inputs vM) (fun (r1 : Int32) => lp (f_X8_levelOf_L7 x1) (fun _ _ _ => none) FU (0 : Int32) r1 vM)
abbrev wsX8_levelOf : List Cond := .code yX8_levelOf cX8_levelOf 6 (some .int) :: UW
abbrev rmX8_levelOf : Room := { frames := 2, cells := 0, slots := 0, locals := 43 }
set_option maxHeartbeats 4000000 in
set_option maxRecDepth 100000 in
theorem c_X8_levelOf (l : Launch) (g : Gx) (bM : Nat → Nat) (vM : Vs) (x1 : Int32) (r : Int32) (vM1 : Vs) (hf : f_X8_levelOf vM x1 = some (r, vM1)) : CtI l yX8_levelOf wsX8_levelOf rmX8_levelOf g [.ref (bM 0), .int x1] (cM g bM vM) (cM g bM vM1) r 0 0 := by
  unfold CtI
  intro sz
  refine Met.ofW (cc := cX8_levelOf) (maxL := 6) (ret := (some .int)) (by decide) rfl ?_
  intro p e s m args below meth c s₁ B hml hv
  obtain ⟨rfl, hsz, hP, hK, hD0, hG⟩ := hv
  have hx := B.exec
  have hb := B.bytes
  have hr := B.returns
  have hts := atoms_spec (ws := wsX8_levelOf) B.pre
  have hown : s.vm.findClass RX8 = some m.cls := findClass_of_methodNamed B.named
  have hlocks := B.notSynchronized
  subst hsz
  have hD := hD0.self (sz := s.heap.size)
  generalize hAe : va_A (cM g bM vM) s.heap.size = A at hD hG ⊢
  have hA : ∀ q : Nat, s.heap.size ≤ q → A q := fun q h => by rw [← hAe]; exact Or.inr h
  clear hAe hD0
  have hS : va_S A s.heap s.heap [] := va_S.rf
  have hl := lv_entry ([.ref (bM 0), .int x1]) (n := 6) (Nat.le_of_ble_eq_true rfl)
  rw [lg_entry_eq]
  generalize (lg_sl ([.ref (bM 0), .int x1]) ++ List.replicate (6 - (lg_sl ([.ref (bM 0), .int x1])).length) Slot.unset).toArray = ls at hl ⊢
  have hl : lv_has ls 6 [(0, .ref (bM 0)), (1, .int x1)] := hl
  have htu : ∀ w ∈ UW, w.before _ s = true := fun w h => hts w (List.mem_cons_of_mem _ h)
  have k_5_77 := htu _ mw_5_77
  unfold f_X8_levelOf at hf
  obtain ⟨H, hH⟩ : ∃ z, z = s.heap := ⟨_, rfl⟩
  obtain ⟨locs, hlo⟩ : ∃ z : List Loc, z = [] := ⟨_, rfl⟩
  have hS : va_S A s.heap H locs := by rw [hH, hlo]; exact hS
  rw [← hH] at hP
  have hW : W p l e (headSpec wsX8_levelOf rmX8_levelOf).room s m ([.ref (bM 0), .int x1] : List Value).toArray below meth c H locs 0 0 (MQ below (qI g A (cM g bM vM1) r) ([.ref (bM 0), .int x1] : List Value).toArray s 0 0 A) (F0 m 0 ls []) := by
    refine lv_iconst (v := (0 : Int32)) hx hb dX8_levelOf_0 (by decide) ?_
    refine lv_istore_n (lv' := [(2, .int (0 : Int32)), (0, .ref (bM 0)), (1, .int x1)]) hx hb dX8_levelOf_1 rfl hl (by decide) rfl (fun ls hl => ?_)
    refine lv_aload_n hx hb dX8_levelOf_2 rfl (lv_at hl 1 rfl) ?_
    obtain ⟨r1, hg2, hf⟩ := o1_at hf
    refine k_viW ⟨hx, hb, hml, hown, htu⟩ hK hP hD hS hA hG (c_X8_inputs l g bM vM r1 hg2) (cwV 0 htu (gU_V mw_6_36 hcX8_inputs) rfl rfl rfl hdX8_inputs ⟨Nat.le_of_ble_eq_true rfl, Nat.le_of_ble_eq_true rfl⟩) (q0 := 0) (ci := 8) (fs := fcM bM vM) (q := (RX8, TX8, 23)) rfl rfl rfl (As := []) (rest := []) rfl rfl hl.1 (Nat.le_of_ble_eq_true rfl) dX8_levelOf_3 (k1 := 0) (n1 := 0) rfl rfl ⟨Nat.zero_le _, Nat.zero_le _⟩ (fun H locs hP hD hS => ?_)
    refine lv_istore_n (lv' := [(3, .int r1), (2, .int (0 : Int32)), (0, .ref (bM 0)), (1, .int x1)]) hx hb dX8_levelOf_6 rfl hl (by decide) rfl (fun ls hl => ?_)
    have hL7 : ∀ (x2_3 : Int32) (x3_4 : Int32) (vM_5 : Vs), lp (f_X8_levelOf_L7 x1) (fun _ _ _ => none) FU x2_3 x3_4 vM_5 = some (r, vM1) → ∀ (H : Heap) (locs : List Loc), va_P g.1 vwCl (cM g bM vM_5) H → va_D A (cM g bM vM_5) → va_S A s.heap H locs → ∀ ls : Array Slot, lv_has ls 6 [(0, .ref (bM 0)), (1, .int x1), (2, .int x2_3), (3, .int x3_4)] → W p l e (headSpec wsX8_levelOf rmX8_levelOf).room s m ([.ref (bM 0), .int x1] : List Value).toArray below meth c H locs 0 0 (MQ below (qI g A (cM g bM vM1) r) ([.ref (bM 0), .int x1] : List Value).toArray s 0 0 A) (F0 m 7 ls []) := by
      refine lp_ind (T := Int32 → Int32 → Vs → Option (Int32 × Vs)) (fun self6 => ∀ (x2_3 : Int32) (x3_4 : Int32) (vM_5 : Vs), self6 x2_3 x3_4 vM_5 = some (r, vM1) → ∀ (H : Heap) (locs : List Loc), va_P g.1 vwCl (cM g bM vM_5) H → va_D A (cM g bM vM_5) → va_S A s.heap H locs → ∀ ls : Array Slot, lv_has ls 6 [(0, .ref (bM 0)), (1, .int x1), (2, .int x2_3), (3, .int x3_4)] → W p l e (headSpec wsX8_levelOf rmX8_levelOf).room s m ([.ref (bM 0), .int x1] : List Value).toArray below meth c H locs 0 0 (MQ below (qI g A (cM g bM vM1) r) ([.ref (bM 0), .int x1] : List Value).toArray s 0 0 A) (F0 m 7 ls [])) ?_ ?_ FU
      · intro x2_3 x3_4 vM_5 hf; cases hf
      · intro self6 ih8 x2_3 x3_4 vM_5 hf H locs hP hD hS ls hl
        unfold f_X8_levelOf_L7 at hf
        refine lv_iload_n hx hb dX8_levelOf_7 rfl (lv_at hl 3 rfl) ?_
        refine lv_iload_n hx hb dX8_levelOf_8 rfl (lv_at hl 1 rfl) ?_
        refine lv_icmp_gt (tgt := 124) hx hb dX8_levelOf_9 (by decide) (fun c9 => ?_) (fun c9 => ?_)
        · have hf := it_t hf c9
          refine lv_iload_n hx hb dX8_levelOf_124 rfl (lv_at hl 2 rfl) ?_
          obtain ⟨e10, e11⟩ := kp_2 hf
          rw [e11] at hP hD
          exact k_iret hx hb hr hlocks hK hP hD hS e10 dX8_levelOf_125
        · have hf := it_f hf c9
          refine lv_aload_n hx hb dX8_levelOf_12 rfl (lv_at hl 0 rfl) ?_
          refine va_get (D := g.1) (ci := 8) (fs := fcM bM vM_5) (v := .ref (bM 6)) (C := RX8) (T := TX8) (N := 23) hx hb htu hinX8 hown hK hP 0 rfl rfl 5 (by decide) k_5_77 (fun _ h9 => h9) rfl dX8_levelOf_13 ?_
          refine lv_iload_n hx hb dX8_levelOf_16 rfl (lv_at hl 3 rfl) ?_
          refine lv_iconst (v := (0 : Int32)) hx hb dX8_levelOf_17 (by decide) ?_
          obtain ⟨h12, hf⟩ := gd_in hf
          refine va_iast (D := g.1) (f := (vM_5.2.1 5)) hx hb hK hP hD hS 3 0 rfl rfl h12 dX8_levelOf_18 (fun H locs hP hD hS => ?_)
          obtain ⟨vM_13, evM_13⟩ : ∃ z, z = sI vM_5 5 (x3_4).toNatClampNeg (0 : Int32) := ⟨_, rfl⟩
          have hf := bn_at hf evM_13
          have hP : va_P g.1 vwCl (cM g bM vM_13) H := by rw [evM_13]; exact hP
          have hD : va_D A (cM g bM vM_13) := by rw [evM_13]; exact hD
          refine lv_iconst (v := (0 : Int32)) hx hb dX8_levelOf_19 (by decide) ?_
          refine lv_istore (lv' := [(4, .int (0 : Int32)), (0, .ref (bM 0)), (1, .int x1), (2, .int x2_3), (3, .int x3_4)]) hx hb dX8_levelOf_20 hl (by decide) rfl (fun ls hl => ?_)
          have hL17 : ∀ (x4_14 : Int32) (vM_15 : Vs), lp (f_X8_levelOf_L22 x1 x2_3 x3_4 self6) (fun _ _ => none) FU x4_14 vM_15 = some (r, vM1) → ∀ (H : Heap) (locs : List Loc), va_P g.1 vwCl (cM g bM vM_15) H → va_D A (cM g bM vM_15) → va_S A s.heap H locs → ∀ ls : Array Slot, lv_has ls 6 [(0, .ref (bM 0)), (1, .int x1), (2, .int x2_3), (3, .int x3_4), (4, .int x4_14)] → W p l e (headSpec wsX8_levelOf rmX8_levelOf).room s m ([.ref (bM 0), .int x1] : List Value).toArray below meth c H locs 0 0 (MQ below (qI g A (cM g bM vM1) r) ([.ref (bM 0), .int x1] : List Value).toArray s 0 0 A) (F0 m 22 ls []) := by
            refine lp_ind (T := Int32 → Vs → Option (Int32 × Vs)) (fun self16 => ∀ (x4_14 : Int32) (vM_15 : Vs), self16 x4_14 vM_15 = some (r, vM1) → ∀ (H : Heap) (locs : List Loc), va_P g.1 vwCl (cM g bM vM_15) H → va_D A (cM g bM vM_15) → va_S A s.heap H locs → ∀ ls : Array Slot, lv_has ls 6 [(0, .ref (bM 0)), (1, .int x1), (2, .int x2_3), (3, .int x3_4), (4, .int x4_14)] → W p l e (headSpec wsX8_levelOf rmX8_levelOf).room s m ([.ref (bM 0), .int x1] : List Value).toArray below meth c H locs 0 0 (MQ below (qI g A (cM g bM vM1) r) ([.ref (bM 0), .int x1] : List Value).toArray s 0 0 A) (F0 m 22 ls [])) ?_ ?_ FU
            · intro x4_14 vM_15 hf; cases hf
            · intro self16 ih18 x4_14 vM_15 hf H locs hP hD hS ls hl
              unfold f_X8_levelOf_L22 at hf
              refine lv_iload hx hb dX8_levelOf_22 (lv_at hl 4 rfl) ?_
              refine lv_aload_n hx hb dX8_levelOf_24 rfl (lv_at hl 0 rfl) ?_
              refine lv_iload_n hx hb dX8_levelOf_25 rfl (lv_at hl 3 rfl) ?_
              obtain ⟨r19, hg20, hf⟩ := o1_at hf
              refine k_viW ⟨hx, hb, hml, hown, htu⟩ hK hP hD hS hA hG (c_X8_have l g bM vM_15 x3_4 r19 hg20) (cwV 1 htu (gU_V mw_6_91 hcX8_have) rfl rfl rfl hdX8_have ⟨Nat.le_of_ble_eq_true rfl, Nat.le_of_ble_eq_true rfl⟩) (q0 := 0) (ci := 8) (fs := fcM bM vM_15) (q := (RX8, TX8, 23)) rfl rfl rfl (As := [.int x3_4]) (rest := [.int x4_14]) rfl rfl hl.1 (Nat.le_of_ble_eq_true rfl) dX8_levelOf_26 (k1 := 0) (n1 := 0) rfl rfl ⟨Nat.zero_le _, Nat.zero_le _⟩ (fun H locs hP hD hS => ?_)
              refine lv_icmp_ge (tgt := 102) hx hb dX8_levelOf_29 (by decide) (fun c21 => ?_) (fun c21 => ?_)
              · have hf := it_t hf c21
                refine lv_iload_n hx hb dX8_levelOf_102 rfl (lv_at hl 3 rfl) ?_
                refine lv_iload_n hx hb dX8_levelOf_103 rfl (lv_at hl 1 rfl) ?_
                obtain ⟨k23, hk25, hf⟩ := jn_at hf
                have hJ24 : ∀ (t22 : Int32), k23 t22 = some (r, vM1) → ∀ (H : Heap) (locs : List Loc), va_P g.1 vwCl (cM g bM vM_15) H → va_D A (cM g bM vM_15) → va_S A s.heap H locs → ∀ ls : Array Slot, lv_has ls 6 [(0, .ref (bM 0)), (1, .int x1), (3, .int x3_4)] → W p l e (headSpec wsX8_levelOf rmX8_levelOf).room s m ([.ref (bM 0), .int x1] : List Value).toArray below meth c H locs 0 0 (MQ below (qI g A (cM g bM vM1) r) ([.ref (bM 0), .int x1] : List Value).toArray s 0 0 A) (F0 m 117 ls [.int t22]) := by
                  intro t22 hf H locs hP hD hS ls hl
                  rw [hk25] at hf
                  dsimp only at hf
                  clear hk25
                  refine lv_istore_n (lv' := [(2, .int t22), (0, .ref (bM 0)), (1, .int x1), (3, .int x3_4)]) hx hb dX8_levelOf_117 rfl hl (by decide) rfl (fun ls hl => ?_)
                  refine lv_iinc (v := (x3_4 + (1 : Int32))) (lv' := [(3, .int (x3_4 + (1 : Int32))), (2, .int t22), (0, .ref (bM 0)), (1, .int x1)]) hx hb dX8_levelOf_118 hl (k := 3) rfl rfl (by decide) rfl (fun ls hl => ?_)
                  refine lv_goto (tgt := 7) hx hb dX8_levelOf_121 (by decide) ?_
                  exact ih8 t22 (x3_4 + (1 : Int32)) vM_15 hf H locs hP hD hS _ (lv_sub hl [2, 3, 1, 0] rfl)
                refine lv_icmp_ne (tgt := 116) hx hb dX8_levelOf_104 (by decide) (fun c26 => ?_) (fun c26 => ?_)
                · have hf := it_f hf c26
                  refine lv_iload_n hx hb dX8_levelOf_116 rfl (lv_at hl 2 rfl) ?_
                  exact hJ24 x2_3 hf H locs hP hD hS _ (lv_sub hl [0, 1, 3] rfl)
                · have hf := it_t hf c26
                  refine lv_aload_n hx hb dX8_levelOf_107 rfl (lv_at hl 0 rfl) ?_
                  refine va_get (D := g.1) (ci := 8) (fs := fcM bM vM_15) (v := .ref (bM 6)) (C := RX8) (T := TX8) (N := 23) hx hb htu hinX8 hown hK hP 0 rfl rfl 5 (by decide) k_5_77 (fun _ h9 => h9) rfl dX8_levelOf_108 ?_
                  refine lv_iload_n hx hb dX8_levelOf_111 rfl (lv_at hl 3 rfl) ?_
                  obtain ⟨h27, hf⟩ := gd_in hf
                  refine va_iald (D := g.1) (f := (vM_15.2.1 5)) hx hb hK hP 3 0 rfl rfl h27 dX8_levelOf_112 ?_
                  refine lv_goto (tgt := 117) hx hb dX8_levelOf_113 (by decide) ?_
                  exact hJ24 (vM_15.2.1 5 (x3_4).toNatClampNeg) hf H locs hP hD hS _ (lv_sub hl [0, 1, 3] rfl)
              · have hf := it_f hf c21
                refine lv_aload_n hx hb dX8_levelOf_32 rfl (lv_at hl 0 rfl) ?_
                refine lv_iload_n hx hb dX8_levelOf_33 rfl (lv_at hl 3 rfl) ?_
                refine lv_iload hx hb dX8_levelOf_34 (lv_at hl 4 rfl) ?_
                obtain ⟨r28, hg29, hf⟩ := o1_at hf
                refine k_viW ⟨hx, hb, hml, hown, htu⟩ hK hP hD hS hA hG (c_X8_operandOf l g bM vM_15 x3_4 x4_14 r28 hg29) (cwV 2 htu (gU_V mw_6_84 hcX8_operandOf) rfl rfl rfl hdX8_operandOf ⟨Nat.le_of_ble_eq_true rfl, Nat.le_of_ble_eq_true rfl⟩) (q0 := 0) (ci := 8) (fs := fcM bM vM_15) (q := (RX8, TX8, 23)) rfl rfl rfl (As := [.int x3_4, .int x4_14]) (rest := []) rfl rfl hl.1 (Nat.le_of_ble_eq_true rfl) dX8_levelOf_36 (k1 := 0) (n1 := 0) rfl rfl ⟨Nat.zero_le _, Nat.zero_le _⟩ (fun H locs hP hD hS => ?_)
                refine lv_aload_n hx hb dX8_levelOf_39 rfl (lv_at hl 0 rfl) ?_
                obtain ⟨r30, hg31, hf⟩ := o1_at hf
                refine k_viW ⟨hx, hb, hml, hown, htu⟩ hK hP hD hS hA hG (c_X8_inputs l g bM vM_15 r30 hg31) (cwV 0 htu (gU_V mw_6_36 hcX8_inputs) rfl rfl rfl hdX8_inputs ⟨Nat.le_of_ble_eq_true rfl, Nat.le_of_ble_eq_true rfl⟩) (q0 := 0) (ci := 8) (fs := fcM bM vM_15) (q := (RX8, TX8, 23)) rfl rfl rfl (As := []) (rest := [.int r28]) rfl rfl hl.1 (Nat.le_of_ble_eq_true rfl) dX8_levelOf_40 (k1 := 0) (n1 := 0) rfl rfl ⟨Nat.zero_le _, Nat.zero_le _⟩ (fun H locs hP hD hS => ?_)
                obtain ⟨k33, hk44, hf⟩ := jn_at hf
                have hJ34 : ∀ (t32 : Int32), k33 t32 = some (r, vM1) → ∀ (H : Heap) (locs : List Loc), va_P g.1 vwCl (cM g bM vM_15) H → va_D A (cM g bM vM_15) → va_S A s.heap H locs → ∀ ls : Array Slot, lv_has ls 6 [(0, .ref (bM 0)), (1, .int x1), (2, .int x2_3), (3, .int x3_4), (4, .int x4_14)] → W p l e (headSpec wsX8_levelOf rmX8_levelOf).room s m ([.ref (bM 0), .int x1] : List Value).toArray below meth c H locs 0 0 (MQ below (qI g A (cM g bM vM1) r) ([.ref (bM 0), .int x1] : List Value).toArray s 0 0 A) (F0 m 62 ls [.int t32]) := by
                  intro t32 hf H locs hP hD hS ls hl
                  rw [hk44] at hf
                  dsimp only at hf
                  clear hk44
                  refine lv_istore (lv' := [(5, .int t32), (0, .ref (bM 0)), (1, .int x1), (2, .int x2_3), (3, .int x3_4), (4, .int x4_14)]) hx hb dX8_levelOf_62 hl (by decide) rfl (fun ls hl => ?_)
                  refine lv_aload_n hx hb dX8_levelOf_64 rfl (lv_at hl 1 rfl) ?_
                  refine va_get (D := g.1) (ci := 8) (fs := fcM bM vM_15) (v := .ref (bM 6)) (C := RX8) (T := TX8) (N := 23) hx hb htu hinX8 hown hK hP 0 rfl rfl 5 (by decide) k_5_77 (fun _ h9 => h9) rfl dX8_levelOf_65 ?_
                  refine lv_iload_n hx hb dX8_levelOf_68 rfl (lv_at hl 4 rfl) ?_
                  refine lv_iload hx hb dX8_levelOf_69 (lv_at hl 0 rfl) ?_
                  refine lv_iconst (v := (1 : Int32)) hx hb dX8_levelOf_71 (by decide) ?_
                  refine lv_iadd hx hb dX8_levelOf_72 ?_
                  refine lv_aload_n hx hb dX8_levelOf_73 rfl (lv_at hl 1 rfl) ?_
                  refine va_get (D := g.1) (ci := 8) (fs := fcM bM vM_15) (v := .ref (bM 6)) (C := RX8) (T := TX8) (N := 23) hx hb htu hinX8 hown hK hP 0 rfl rfl 5 (by decide) k_5_77 (fun _ h9 => h9) rfl dX8_levelOf_74 ?_
                  refine lv_iload_n hx hb dX8_levelOf_77 rfl (lv_at hl 4 rfl) ?_
                  obtain ⟨h35, hf⟩ := gd_in hf
                  refine va_iald (D := g.1) (f := (vM_15.2.1 5)) hx hb hK hP 3 0 rfl rfl h35 dX8_levelOf_78 ?_
                  obtain ⟨k37, hk41, hf⟩ := jn_at hf
                  have hJ38 : ∀ (t36 : Int32), k37 t36 = some (r, vM1) → ∀ (H : Heap) (locs : List Loc), va_P g.1 vwCl (cM g bM vM_15) H → va_D A (cM g bM vM_15) → va_S A s.heap H locs → ∀ ls : Array Slot, lv_has ls 6 [(0, .ref (bM 0)), (1, .int x1), (2, .int x2_3), (3, .int x3_4), (4, .int x4_14)] → W p l e (headSpec wsX8_levelOf rmX8_levelOf).room s m ([.ref (bM 0), .int x1] : List Value).toArray below meth c H locs 0 0 (MQ below (qI g A (cM g bM vM1) r) ([.ref (bM 0), .int x1] : List Value).toArray s 0 0 A) (F0 m 95 ls [.int t36, .int x3_4, .ref (bM 6)]) := by
                    intro t36 hf H locs hP hD hS ls hl
                    rw [hk41] at hf
                    dsimp only at hf
                    clear hk41
                    obtain ⟨h39, hf⟩ := gd_in hf
                    refine va_iast (D := g.1) (f := (vM_15.2.1 5)) hx hb hK hP hD hS 3 0 rfl rfl h39 dX8_levelOf_95 (fun H locs hP hD hS => ?_)
                    obtain ⟨vM_40, evM_40⟩ : ∃ z, z = sI vM_15 5 (x3_4).toNatClampNeg t36 := ⟨_, rfl⟩
                    have hf := bn_at hf evM_40
                    have hP : va_P g.1 vwCl (cM g bM vM_40) H := by rw [evM_40]; exact hP
                    have hD : va_D A (cM g bM vM_40) := by rw [evM_40]; exact hD
                    refine lv_iinc (v := (x4_14 + (1 : Int32))) (lv' := [(4, .int (x4_14 + (1 : Int32))), (0, .ref (bM 0)), (1, .int x1), (2, .int x2_3), (3, .int x3_4)]) hx hb dX8_levelOf_96 hl (k := 4) rfl rfl (by decide) rfl (fun ls hl => ?_)
                    refine lv_goto (tgt := 22) hx hb dX8_levelOf_99 (by decide) ?_
                    exact ih18 (x4_14 + (1 : Int32)) vM_40 hf H locs hP hD hS _ (lv_sub hl [1, 2, 3, 4, 0] rfl)
                  refine lv_icmp_le (tgt := 89) hx hb dX8_levelOf_79 (by decide) (fun c42 => ?_) (fun c42 => ?_)
                  · have hf := it_t hf c42
                    refine lv_aload_n hx hb dX8_levelOf_89 rfl (lv_at hl 1 rfl) ?_
                    refine va_get (D := g.1) (ci := 8) (fs := fcM bM vM_15) (v := .ref (bM 6)) (C := RX8) (T := TX8) (N := 23) hx hb htu hinX8 hown hK hP 0 rfl rfl 5 (by decide) k_5_77 (fun _ h9 => h9) rfl dX8_levelOf_90 ?_
                    refine lv_iload_n hx hb dX8_levelOf_93 rfl (lv_at hl 4 rfl) ?_
                    obtain ⟨h43, hf⟩ := gd_in hf
                    refine va_iald (D := g.1) (f := (vM_15.2.1 5)) hx hb hK hP 3 0 rfl rfl h43 dX8_levelOf_94 ?_
                    exact hJ38 (vM_15.2.1 5 (x3_4).toNatClampNeg) hf H locs hP hD hS _ (lv_sub hl [1, 2, 3, 4, 5] rfl)
                  · have hf := it_f hf c42
                    refine lv_iload hx hb dX8_levelOf_82 (lv_at hl 0 rfl) ?_
                    refine lv_iconst (v := (1 : Int32)) hx hb dX8_levelOf_84 (by decide) ?_
                    refine lv_iadd hx hb dX8_levelOf_85 ?_
                    refine lv_goto (tgt := 95) hx hb dX8_levelOf_86 (by decide) ?_
                    exact hJ38 (t32 + (1 : Int32)) hf H locs hP hD hS _ (lv_sub hl [1, 2, 3, 4, 5] rfl)
                refine lv_icmp_ge (tgt := 50) hx hb dX8_levelOf_43 (by decide) (fun c45 => ?_) (fun c45 => ?_)
                · have hf := it_t hf c45
                  refine lv_aload_n hx hb dX8_levelOf_50 rfl (lv_at hl 0 rfl) ?_
                  refine va_get (D := g.1) (ci := 8) (fs := fcM bM vM_15) (v := .ref (bM 6)) (C := RX8) (T := TX8) (N := 23) hx hb htu hinX8 hown hK hP 0 rfl rfl 5 (by decide) k_5_77 (fun _ h9 => h9) rfl dX8_levelOf_51 ?_
                  refine lv_aload_n hx hb dX8_levelOf_54 rfl (lv_at hl 0 rfl) ?_
                  refine lv_iload_n hx hb dX8_levelOf_55 rfl (lv_at hl 3 rfl) ?_
                  refine lv_iload hx hb dX8_levelOf_56 (lv_at hl 4 rfl) ?_
                  obtain ⟨r46, hg47, hf⟩ := o1_at hf
                  refine k_viW ⟨hx, hb, hml, hown, htu⟩ hK hP hD hS hA hG (c_X8_operandOf l g bM vM_15 x3_4 x4_14 r46 hg47) (cwV 2 htu (gU_V mw_6_84 hcX8_operandOf) rfl rfl rfl hdX8_operandOf ⟨Nat.le_of_ble_eq_true rfl, Nat.le_of_ble_eq_true rfl⟩) (q0 := 0) (ci := 8) (fs := fcM bM vM_15) (q := (RX8, TX8, 23)) rfl rfl rfl (As := [.int x3_4, .int x4_14]) (rest := [.ref (bM 6)]) rfl rfl hl.1 (Nat.le_of_ble_eq_true rfl) dX8_levelOf_58 (k1 := 0) (n1 := 0) rfl rfl ⟨Nat.zero_le _, Nat.zero_le _⟩ (fun H locs hP hD hS => ?_)
                  obtain ⟨h48, hf⟩ := gd_in hf
                  refine va_iald (D := g.1) (f := (vM_15.2.1 5)) hx hb hK hP 3 0 rfl rfl h48 dX8_levelOf_61 ?_
                  exact hJ34 (vM_15.2.1 5 (r46).toNatClampNeg) hf H locs hP hD hS _ (lv_sub hl [0, 1, 2, 3, 4] rfl)
                · have hf := it_f hf c45
                  refine lv_iconst (v := (0 : Int32)) hx hb dX8_levelOf_46 (by decide) ?_
                  refine lv_goto (tgt := 62) hx hb dX8_levelOf_47 (by decide) ?_
                  exact hJ34 (0 : Int32) hf H locs hP hD hS _ (lv_sub hl [0, 1, 2, 3, 4] rfl)
          exact hL17 (0 : Int32) vM_13 hf H locs hP hD hS _ (lv_sub hl [1, 2, 3, 4, 0] rfl)
    exact hL7 (0 : Int32) r1 vM hf H locs hP hD hS _ (lv_sub hl [2, 3, 1, 0] rfl)
  rw [hH, hlo] at hW
  exact hW
def f_X8_turned (x0 : Int32) : Option (Int32) :=
  jn (fun (t1 : Int32) => some (t1)) (fun k2 => if x0 = (2 : Int32) then k2 (2 : Int32) else k2 ((1 : Int32) - x0))
abbrev wsX8_turned : List Cond := .code yX8_turned cX8_turned 1 (some .int) :: UW
abbrev rmX8_turned : Room := { frames := 0, cells := 0, slots := 0, locals := 0 }
set_option maxHeartbeats 4000000 in
set_option maxRecDepth 100000 in
theorem c_X8_turned (l : Launch) (g : Gx) (x0 : Int32) (r : Int32) (hf : f_X8_turned x0 = some r) : CtI l yX8_turned wsX8_turned rmX8_turned g [.int x0] ([]) ([]) r 0 0 := by
  unfold CtI
  intro sz
  refine Met.ofW (cc := cX8_turned) (maxL := 1) (ret := (some .int)) (by decide) rfl ?_
  intro p e s m args below meth c s₁ B hml hv
  obtain ⟨rfl, hsz, hP, hK, hD0, hG⟩ := hv
  have hx := B.exec
  have hb := B.bytes
  have hr := B.returns
  have hts := atoms_spec (ws := wsX8_turned) B.pre
  have hown : s.vm.findClass RX8 = some m.cls := findClass_of_methodNamed B.named
  have hlocks := B.notSynchronized
  subst hsz
  have hD := hD0.self (sz := s.heap.size)
  generalize hAe : va_A ([]) s.heap.size = A at hD hG ⊢
  have hA : ∀ q : Nat, s.heap.size ≤ q → A q := fun q h => by rw [← hAe]; exact Or.inr h
  clear hAe hD0
  have hS : va_S A s.heap s.heap [] := va_S.rf
  have hl := lv_entry ([.int x0]) (n := 1) (Nat.le_of_ble_eq_true rfl)
  rw [lg_entry_eq]
  generalize (lg_sl ([.int x0]) ++ List.replicate (1 - (lg_sl ([.int x0])).length) Slot.unset).toArray = ls at hl ⊢
  have hl : lv_has ls 1 [(0, .int x0)] := hl
  have htu : ∀ w ∈ UW, w.before _ s = true := fun w h => hts w (List.mem_cons_of_mem _ h)
  unfold f_X8_turned at hf
  obtain ⟨H, hH⟩ : ∃ z, z = s.heap := ⟨_, rfl⟩
  obtain ⟨locs, hlo⟩ : ∃ z : List Loc, z = [] := ⟨_, rfl⟩
  have hS : va_S A s.heap H locs := by rw [hH, hlo]; exact hS
  rw [← hH] at hP
  have hW : W p l e (headSpec wsX8_turned rmX8_turned).room s m ([.int x0] : List Value).toArray below meth c H locs 0 0 (MQ below (qI g A ([]) r) ([.int x0] : List Value).toArray s 0 0 A) (F0 m 0 ls []) := by
    refine lv_iload_n hx hb dX8_turned_0 rfl (lv_at hl 0 rfl) ?_
    refine lv_iconst (v := (2 : Int32)) hx hb dX8_turned_1 (by decide) ?_
    obtain ⟨k2, hk5, hf⟩ := jn_at hf
    have hJ3 : ∀ (t1 : Int32), k2 t1 = some r → ∀ (H : Heap) (locs : List Loc), va_P g.1 vwCl ([]) H → va_D A ([]) → va_S A s.heap H locs → ∀ ls : Array Slot, lv_has ls 1 [] → W p l e (headSpec wsX8_turned rmX8_turned).room s m ([.int x0] : List Value).toArray below meth c H locs 0 0 (MQ below (qI g A ([]) r) ([.int x0] : List Value).toArray s 0 0 A) (F0 m 12 ls [.int t1]) := by
      intro t1 hf H locs hP hD hS ls hl
      rw [hk5] at hf
      dsimp only at hf
      clear hk5
      have e4 := Option.some.inj hf
      exact k_iret hx hb hr hlocks hK hP hD hS e4 dX8_turned_12
    refine lv_icmp_ne (tgt := 9) hx hb dX8_turned_2 (by decide) (fun c6 => ?_) (fun c6 => ?_)
    · have hf := it_f hf c6
      refine lv_iconst (v := (1 : Int32)) hx hb dX8_turned_9 (by decide) ?_
      refine lv_iload_n hx hb dX8_turned_10 rfl (lv_at hl 0 rfl) ?_
      refine lv_isub hx hb dX8_turned_11 ?_
      exact hJ3 ((1 : Int32) - x0) hf H locs hP hD hS _ (lv_sub hl [] rfl)
    · have hf := it_t hf c6
      refine lv_iconst (v := (2 : Int32)) hx hb dX8_turned_5 (by decide) ?_
      refine lv_goto (tgt := 12) hx hb dX8_turned_6 (by decide) ?_
      exact hJ3 (2 : Int32) hf H locs hP hD hS _ (lv_sub hl [] rfl)
  rw [hH, hlo] at hW
  exact hW
def f_X8_decided (x0 : Int32) (x1 : Int32) (x2 : Int32) : Option (Int32) :=
  jn (fun (t1 : Int32) => some (t1)) (fun k2 => jn (k2 x2) (fun k6 => if x0 = x2 then k6 else if x1 = x2 then k6 else jn (k2 (2 : Int32)) (fun k11 => if x0 = (2 : Int32) then k11 else if x1 = (2 : Int32) then k11 else k2 ((1 : Int32) - x2))))
abbrev wsX8_decided : List Cond := .code yX8_decided cX8_decided 3 (some .int) :: UW
abbrev rmX8_decided : Room := { frames := 0, cells := 0, slots := 0, locals := 0 }
set_option maxHeartbeats 4000000 in
set_option maxRecDepth 100000 in
theorem c_X8_decided (l : Launch) (g : Gx) (x0 : Int32) (x1 : Int32) (x2 : Int32) (r : Int32) (hf : f_X8_decided x0 x1 x2 = some r) : CtI l yX8_decided wsX8_decided rmX8_decided g [.int x0, .int x1, .int x2] ([]) ([]) r 0 0 := by
  unfold CtI
  intro sz
  refine Met.ofW (cc := cX8_decided) (maxL := 3) (ret := (some .int)) (by decide) rfl ?_
  intro p e s m args below meth c s₁ B hml hv
  obtain ⟨rfl, hsz, hP, hK, hD0, hG⟩ := hv
  have hx := B.exec
  have hb := B.bytes
  have hr := B.returns
  have hts := atoms_spec (ws := wsX8_decided) B.pre
  have hown : s.vm.findClass RX8 = some m.cls := findClass_of_methodNamed B.named
  have hlocks := B.notSynchronized
  subst hsz
  have hD := hD0.self (sz := s.heap.size)
  generalize hAe : va_A ([]) s.heap.size = A at hD hG ⊢
  have hA : ∀ q : Nat, s.heap.size ≤ q → A q := fun q h => by rw [← hAe]; exact Or.inr h
  clear hAe hD0
  have hS : va_S A s.heap s.heap [] := va_S.rf
  have hl := lv_entry ([.int x0, .int x1, .int x2]) (n := 3) (Nat.le_of_ble_eq_true rfl)
  rw [lg_entry_eq]
  generalize (lg_sl ([.int x0, .int x1, .int x2]) ++ List.replicate (3 - (lg_sl ([.int x0, .int x1, .int x2])).length) Slot.unset).toArray = ls at hl ⊢
  have hl : lv_has ls 3 [(0, .int x0), (1, .int x1), (2, .int x2)] := hl
  have htu : ∀ w ∈ UW, w.before _ s = true := fun w h => hts w (List.mem_cons_of_mem _ h)
  unfold f_X8_decided at hf
  obtain ⟨H, hH⟩ : ∃ z, z = s.heap := ⟨_, rfl⟩
  obtain ⟨locs, hlo⟩ : ∃ z : List Loc, z = [] := ⟨_, rfl⟩
  have hS : va_S A s.heap H locs := by rw [hH, hlo]; exact hS
  rw [← hH] at hP
  have hW : W p l e (headSpec wsX8_decided rmX8_decided).room s m ([.int x0, .int x1, .int x2] : List Value).toArray below meth c H locs 0 0 (MQ below (qI g A ([]) r) ([.int x0, .int x1, .int x2] : List Value).toArray s 0 0 A) (F0 m 0 ls []) := by
    refine lv_iload_n hx hb dX8_decided_0 rfl (lv_at hl 0 rfl) ?_
    refine lv_iload_n hx hb dX8_decided_1 rfl (lv_at hl 2 rfl) ?_
    obtain ⟨k2, hk5, hf⟩ := jn_at hf
    have hJ3 : ∀ (t1 : Int32), k2 t1 = some r → ∀ (H : Heap) (locs : List Loc), va_P g.1 vwCl ([]) H → va_D A ([]) → va_S A s.heap H locs → ∀ ls : Array Slot, lv_has ls 3 [] → W p l e (headSpec wsX8_decided rmX8_decided).room s m ([.int x0, .int x1, .int x2] : List Value).toArray below meth c H locs 0 0 (MQ below (qI g A ([]) r) ([.int x0, .int x1, .int x2] : List Value).toArray s 0 0 A) (F0 m 31 ls [.int t1]) := by
      intro t1 hf H locs hP hD hS ls hl
      rw [hk5] at hf
      dsimp only at hf
      clear hk5
      have e4 := Option.some.inj hf
      exact k_iret hx hb hr hlocks hK hP hD hS e4 dX8_decided_31
    obtain ⟨k6, hk8, hf⟩ := jn_at hf
    have hJ7 : k6 = some r → ∀ (H : Heap) (locs : List Loc), va_P g.1 vwCl ([]) H → va_D A ([]) → va_S A s.heap H locs → ∀ ls : Array Slot, lv_has ls 3 [(2, .int x2)] → W p l e (headSpec wsX8_decided rmX8_decided).room s m ([.int x0, .int x1, .int x2] : List Value).toArray below meth c H locs 0 0 (MQ below (qI g A ([]) r) ([.int x0, .int x1, .int x2] : List Value).toArray s 0 0 A) (F0 m 10 ls []) := by
      intro hf H locs hP hD hS ls hl
      rw [hk8] at hf
      clear hk8
      refine lv_iload_n hx hb dX8_decided_10 rfl (lv_at hl 0 rfl) ?_
      refine lv_goto (tgt := 31) hx hb dX8_decided_11 (by decide) ?_
      exact hJ3 x2 hf H locs hP hD hS _ (lv_sub hl [] rfl)
    refine lv_icmp_eq (tgt := 10) hx hb dX8_decided_2 (by decide) (fun c9 => ?_) (fun c9 => ?_)
    · have hf := it_t hf c9
      exact hJ7 hf H locs hP hD hS _ (lv_sub hl [2] rfl)
    · have hf := it_f hf c9
      refine lv_iload_n hx hb dX8_decided_5 rfl (lv_at hl 1 rfl) ?_
      refine lv_iload_n hx hb dX8_decided_6 rfl (lv_at hl 2 rfl) ?_
      refine lv_icmp_ne (tgt := 14) hx hb dX8_decided_7 (by decide) (fun c10 => ?_) (fun c10 => ?_)
      · have hf := it_f hf c10
        refine lv_iload_n hx hb dX8_decided_14 rfl (lv_at hl 0 rfl) ?_
        refine lv_iconst (v := (2 : Int32)) hx hb dX8_decided_15 (by decide) ?_
        obtain ⟨k11, hk13, hf⟩ := jn_at hf
        have hJ12 : k11 = some r → ∀ (H : Heap) (locs : List Loc), va_P g.1 vwCl ([]) H → va_D A ([]) → va_S A s.heap H locs → ∀ ls : Array Slot, lv_has ls 3 [] → W p l e (headSpec wsX8_decided rmX8_decided).room s m ([.int x0, .int x1, .int x2] : List Value).toArray below meth c H locs 0 0 (MQ below (qI g A ([]) r) ([.int x0, .int x1, .int x2] : List Value).toArray s 0 0 A) (F0 m 24 ls []) := by
          intro hf H locs hP hD hS ls hl
          rw [hk13] at hf
          clear hk13
          refine lv_iconst (v := (2 : Int32)) hx hb dX8_decided_24 (by decide) ?_
          refine lv_goto (tgt := 31) hx hb dX8_decided_25 (by decide) ?_
          exact hJ3 (2 : Int32) hf H locs hP hD hS _ (lv_sub hl [] rfl)
        refine lv_icmp_eq (tgt := 24) hx hb dX8_decided_16 (by decide) (fun c14 => ?_) (fun c14 => ?_)
        · have hf := it_t hf c14
          exact hJ12 hf H locs hP hD hS _ (lv_sub hl [] rfl)
        · have hf := it_f hf c14
          refine lv_iload_n hx hb dX8_decided_19 rfl (lv_at hl 1 rfl) ?_
          refine lv_iconst (v := (2 : Int32)) hx hb dX8_decided_20 (by decide) ?_
          refine lv_icmp_ne (tgt := 28) hx hb dX8_decided_21 (by decide) (fun c15 => ?_) (fun c15 => ?_)
          · have hf := it_f hf c15
            refine lv_iconst (v := (1 : Int32)) hx hb dX8_decided_28 (by decide) ?_
            refine lv_iload_n hx hb dX8_decided_29 rfl (lv_at hl 2 rfl) ?_
            refine lv_isub hx hb dX8_decided_30 ?_
            exact hJ3 ((1 : Int32) - x2) hf H locs hP hD hS _ (lv_sub hl [] rfl)
          · have hf := it_t hf c15
            exact hJ12 hf H locs hP hD hS _ (lv_sub hl [] rfl)
      · have hf := it_t hf c10
        exact hJ7 hf H locs hP hD hS _ (lv_sub hl [2] rfl)
  rw [hH, hlo] at hW
  exact hW
def f_X8_gate_clean_L126 (vM : Vs) (x1 : Int32) (r1 : Int32) (t20 : Int32) (self25 : Int32 → Int32 → Option (Int32)) (x4_23 : Int32) (x6_24 : Int32) : Option (Int32) :=
  o1 (f_X8_have vM x1) (fun (r28 : Int32) => if r28 ≤ x6_24 then jn (fun (t31 : Int32) => some (t31)) (fun k32 => jn (o1 (f_X8_turned x4_23) (fun (r38 : Int32) => k32 r38)) (fun k36 => if r1 = (2 : Int32) then k36 else if r1 = (3 : Int32) then k36 else if r1 = (5 : Int32) then k36 else k32 x4_23)) else o1 (f_X8_operandOf vM x1 x6_24) (fun (r44 : Int32) => gd (inb r44 24) (jn (fun (x4_47 : Int32) => self25 x4_47 (x6_24 + (1 : Int32))) (fun k48 => if t20 = 0 then jn (fun (t52 : Int32) => o1 (f_X8_decided x4_23 (vM.2.1 7 (r44).toNatClampNeg) t52) (fun (r55 : Int32) => k48 r55)) (fun k53 => jn (k53 (0 : Int32)) (fun k58 => if r1 = 0 then k58 else if r1 = (2 : Int32) then k58 else k53 (1 : Int32))) else jn (fun (t63 : Int32) => k48 t63) (fun k64 => jn (k64 (2 : Int32)) (fun k67 => if x4_23 = (2 : Int32) then k67 else if (vM.2.1 7 (r44).toNatClampNeg) = (2 : Int32) then k67 else if x4_23 = (vM.2.1 7 (r44).toNatClampNeg) then k64 (0 : Int32) else k64 (1 : Int32)))))))
def f_X8_gate_clean (vM : Vs) (x1 : Int32) : Option (Int32) :=
  o1 (f_X8_kindOf vM x1) (fun (r1 : Int32) => o1 (f_X8_operandOf vM x1 (0 : Int32)) (fun (r3 : Int32) => gd (inb r3 24) (jn (jn (fun (t8 : Int32) => some (t8)) (fun k9 => if r1 = (6 : Int32) then o1 (f_X8_turned (vM.2.1 7 (r3).toNatClampNeg)) (fun (r14 : Int32) => k9 r14) else k9 (vM.2.1 7 (r3).toNatClampNeg))) (fun k6 => if r1 = (6 : Int32) then k6 else if r1 = (7 : Int32) then k6 else if r1 = (8 : Int32) then o1 (f_X8_operandOf vM x1 (1 : Int32)) (fun (r79 : Int32) => gd (inb r79 24) (o1 (f_X8_operandOf vM x1 (2 : Int32)) (fun (r82 : Int32) => gd (inb r82 24) (jn (fun (t85 : Int32) => some (t85)) (fun k86 => if (vM.2.1 7 (r3).toNatClampNeg) = 0 then k86 (vM.2.1 7 (r79).toNatClampNeg) else if (vM.2.1 7 (r3).toNatClampNeg) = (1 : Int32) then k86 (vM.2.1 7 (r82).toNatClampNeg) else if (vM.2.1 7 (r79).toNatClampNeg) = (vM.2.1 7 (r82).toNatClampNeg) then k86 (vM.2.1 7 (r79).toNatClampNeg) else k86 (2 : Int32)))))) else jn (fun (t20 : Int32) => lp (f_X8_gate_clean_L126 vM x1 r1 t20) (fun _ _ => none) FU (vM.2.1 7 (r3).toNatClampNeg) (1 : Int32)) (fun k21 => jn (k21 (1 : Int32)) (fun k74 => if r1 = (4 : Int32) then k74 else if r1 = (5 : Int32) then k74 else k21 (0 : Int32)))))))
abbrev wsX8_gate : List Cond := .code yX8_gate cX8_gate 8 (some .int) :: UW
abbrev rmX8_gate_clean : Room := { frames := 2, cells := 0, slots := 0, locals := 43 }
set_option maxHeartbeats 4000000 in
set_option maxRecDepth 100000 in
theorem c_X8_gate_clean (l : Launch) (g : Gx) (bM : Nat → Nat) (vM : Vs) (x1 : Int32) (r : Int32) (hf : f_X8_gate_clean vM x1 = some r) : CtI l yX8_gate wsX8_gate rmX8_gate_clean g [.ref (bM 0), .int x1, .ref (bM 8)] (cM g bM vM) (cM g bM vM) r 0 0 := by
  unfold CtI
  intro sz
  refine Met.ofW (cc := cX8_gate) (maxL := 8) (ret := (some .int)) (by decide) rfl ?_
  intro p e s m args below meth c s₁ B hml hv
  obtain ⟨rfl, hsz, hP, hK, hD0, hG⟩ := hv
  have hx := B.exec
  have hb := B.bytes
  have hr := B.returns
  have hts := atoms_spec (ws := wsX8_gate) B.pre
  have hown : s.vm.findClass RX8 = some m.cls := findClass_of_methodNamed B.named
  have hlocks := B.notSynchronized
  subst hsz
  have hD := hD0.self (sz := s.heap.size)
  generalize hAe : va_A (cM g bM vM) s.heap.size = A at hD hG ⊢
  have hA : ∀ q : Nat, s.heap.size ≤ q → A q := fun q h => by rw [← hAe]; exact Or.inr h
  clear hAe hD0
  have hS : va_S A s.heap s.heap [] := va_S.rf
  have hl := lv_entry ([.ref (bM 0), .int x1, .ref (bM 8)]) (n := 8) (Nat.le_of_ble_eq_true rfl)
  rw [lg_entry_eq]
  generalize (lg_sl ([.ref (bM 0), .int x1, .ref (bM 8)]) ++ List.replicate (8 - (lg_sl ([.ref (bM 0), .int x1, .ref (bM 8)])).length) Slot.unset).toArray = ls at hl ⊢
  have hl : lv_has ls 8 [(0, .ref (bM 0)), (1, .int x1), (2, .ref (bM 8))] := hl
  have htu : ∀ w ∈ UW, w.before _ s = true := fun w h => hts w (List.mem_cons_of_mem _ h)
  unfold f_X8_gate_clean at hf
  obtain ⟨H, hH⟩ : ∃ z, z = s.heap := ⟨_, rfl⟩
  obtain ⟨locs, hlo⟩ : ∃ z : List Loc, z = [] := ⟨_, rfl⟩
  have hS : va_S A s.heap H locs := by rw [hH, hlo]; exact hS
  rw [← hH] at hP
  have hW : W p l e (headSpec wsX8_gate rmX8_gate_clean).room s m ([.ref (bM 0), .int x1, .ref (bM 8)] : List Value).toArray below meth c H locs 0 0 (MQ below (qI g A (cM g bM vM) r) ([.ref (bM 0), .int x1, .ref (bM 8)] : List Value).toArray s 0 0 A) (F0 m 0 ls []) := by
    refine lv_aload_n hx hb dX8_gate_0 rfl (lv_at hl 0 rfl) ?_
    refine lv_iload_n hx hb dX8_gate_1 rfl (lv_at hl 1 rfl) ?_
    obtain ⟨r1, hg2, hf⟩ := o1_at hf
    refine k_viW ⟨hx, hb, hml, hown, htu⟩ hK hP hD hS hA hG (c_X8_kindOf l g bM vM x1 r1 hg2) (cwV 1 htu (gU_V mw_6_80 hcX8_kindOf) rfl rfl rfl hdX8_kindOf ⟨Nat.le_of_ble_eq_true rfl, Nat.le_of_ble_eq_true rfl⟩) (q0 := 0) (ci := 8) (fs := fcM bM vM) (q := (RX8, TX8, 23)) rfl rfl rfl (As := [.int x1]) (rest := []) rfl rfl hl.1 (Nat.le_of_ble_eq_true rfl) dX8_gate_2 (k1 := 0) (n1 := 0) rfl rfl ⟨Nat.zero_le _, Nat.zero_le _⟩ (fun H locs hP hD hS => ?_)
    refine lv_istore_n (lv' := [(3, .int r1), (0, .ref (bM 0)), (1, .int x1), (2, .ref (bM 8))]) hx hb dX8_gate_5 rfl hl (by decide) rfl (fun ls hl => ?_)
    refine lv_aload_n hx hb dX8_gate_6 rfl (lv_at hl 3 rfl) ?_
    refine lv_aload_n hx hb dX8_gate_7 rfl (lv_at hl 1 rfl) ?_
    refine lv_iload_n hx hb dX8_gate_8 rfl (lv_at hl 2 rfl) ?_
    refine lv_iconst (v := (0 : Int32)) hx hb dX8_gate_9 (by decide) ?_
    obtain ⟨r3, hg4, hf⟩ := o1_at hf
    refine k_viW ⟨hx, hb, hml, hown, htu⟩ hK hP hD hS hA hG (c_X8_operandOf l g bM vM x1 (0 : Int32) r3 hg4) (cwV 2 htu (gU_V mw_6_84 hcX8_operandOf) rfl rfl rfl hdX8_operandOf ⟨Nat.le_of_ble_eq_true rfl, Nat.le_of_ble_eq_true rfl⟩) (q0 := 0) (ci := 8) (fs := fcM bM vM) (q := (RX8, TX8, 23)) rfl rfl rfl (As := [.int x1, .int (0 : Int32)]) (rest := [.ref (bM 8)]) rfl rfl hl.1 (Nat.le_of_ble_eq_true rfl) dX8_gate_10 (k1 := 0) (n1 := 0) rfl rfl ⟨Nat.zero_le _, Nat.zero_le _⟩ (fun H locs hP hD hS => ?_)
    obtain ⟨h5, hf⟩ := gd_in hf
    refine va_iald (D := g.1) (f := (vM.2.1 7)) hx hb hK hP 5 0 rfl rfl h5 dX8_gate_13 ?_
    refine lv_istore (lv' := [(4, .int (vM.2.1 7 (r3).toNatClampNeg)), (3, .int r1), (0, .ref (bM 0)), (1, .int x1), (2, .ref (bM 8))]) hx hb dX8_gate_14 hl (by decide) rfl (fun ls hl => ?_)
    refine lv_iload_n hx hb dX8_gate_16 rfl (lv_at hl 1 rfl) ?_
    refine lv_bipush (v := (6 : Int32)) hx hb dX8_gate_17 (by decide) ?_
    obtain ⟨k6, hk16, hf⟩ := jn_at hf
    have hJ7 : k6 = some r → ∀ (H : Heap) (locs : List Loc), va_P g.1 vwCl (cM g bM vM) H → va_D A (cM g bM vM) → va_S A s.heap H locs → ∀ ls : Array Slot, lv_has ls 8 [(3, .int r1), (4, .int (vM.2.1 7 (r3).toNatClampNeg))] → W p l e (headSpec wsX8_gate rmX8_gate_clean).room s m ([.ref (bM 0), .int x1, .ref (bM 8)] : List Value).toArray below meth c H locs 0 0 (MQ below (qI g A (cM g bM vM) r) ([.ref (bM 0), .int x1, .ref (bM 8)] : List Value).toArray s 0 0 A) (F0 m 28 ls []) := by
      intro hf H locs hP hD hS ls hl
      rw [hk16] at hf
      clear hk16
      refine lv_iload_n hx hb dX8_gate_28 rfl (lv_at hl 0 rfl) ?_
      refine lv_bipush (v := (6 : Int32)) hx hb dX8_gate_29 (by decide) ?_
      obtain ⟨k9, hk12, hf⟩ := jn_at hf
      have hJ10 : ∀ (t8 : Int32), k9 t8 = some r → ∀ (H : Heap) (locs : List Loc), va_P g.1 vwCl (cM g bM vM) H → va_D A (cM g bM vM) → va_S A s.heap H locs → ∀ ls : Array Slot, lv_has ls 8 [] → W p l e (headSpec wsX8_gate rmX8_gate_clean).room s m ([.ref (bM 0), .int x1, .ref (bM 8)] : List Value).toArray below meth c H locs 0 0 (MQ below (qI g A (cM g bM vM) r) ([.ref (bM 0), .int x1, .ref (bM 8)] : List Value).toArray s 0 0 A) (F0 m 44 ls [.int t8]) := by
        intro t8 hf H locs hP hD hS ls hl
        rw [hk12] at hf
        dsimp only at hf
        clear hk12
        have e11 := Option.some.inj hf
        exact k_iret hx hb hr hlocks hK hP hD hS e11 dX8_gate_44
      refine lv_icmp_ne (tgt := 42) hx hb dX8_gate_31 (by decide) (fun c13 => ?_) (fun c13 => ?_)
      · have hf := it_f hf c13
        refine lv_iload hx hb dX8_gate_42 (lv_at hl 1 rfl) ?_
        exact hJ10 (vM.2.1 7 (r3).toNatClampNeg) hf H locs hP hD hS _ (lv_sub hl [] rfl)
      · have hf := it_t hf c13
        refine lv_iload hx hb dX8_gate_34 (lv_at hl 1 rfl) ?_
        obtain ⟨r14, hg15, hf⟩ := o1_at hf
        refine k_si0 ⟨hx, hb, hml, hown, htu⟩ hK hP hD hS hA hG (c_X8_turned l g (vM.2.1 7 (r3).toNatClampNeg) r14 hg15) (va_cwS 1 htu (gU_S mw_6_88 hcX8_turned) rfl rfl rfl hdX8_turned ⟨Nat.le_of_ble_eq_true rfl, Nat.le_of_ble_eq_true rfl⟩) (As := [.int (vM.2.1 7 (r3).toNatClampNeg)]) (rest := []) rfl rfl hl.1 (Nat.le_of_ble_eq_true rfl) dX8_gate_36 (k1 := 0) (n1 := 0) rfl rfl ⟨Nat.zero_le _, Nat.zero_le _⟩ (fun H locs hP hD hS => ?_)
        refine lv_goto (tgt := 44) hx hb dX8_gate_39 (by decide) ?_
        exact hJ10 r14 hf H locs hP hD hS _ (lv_sub hl [] rfl)
    refine lv_icmp_eq (tgt := 28) hx hb dX8_gate_19 (by decide) (fun c17 => ?_) (fun c17 => ?_)
    · have hf := it_t hf c17
      exact hJ7 hf H locs hP hD hS _ (lv_sub hl [1, 0] rfl)
    · have hf := it_f hf c17
      refine lv_iload_n hx hb dX8_gate_22 rfl (lv_at hl 1 rfl) ?_
      refine lv_bipush (v := (7 : Int32)) hx hb dX8_gate_23 (by decide) ?_
      refine lv_icmp_ne (tgt := 45) hx hb dX8_gate_25 (by decide) (fun c18 => ?_) (fun c18 => ?_)
      · have hf := it_f hf c18
        refine lv_iload_n hx hb dX8_gate_45 rfl (lv_at hl 1 rfl) ?_
        refine lv_bipush (v := (8 : Int32)) hx hb dX8_gate_46 (by decide) ?_
        refine lv_icmp_ne (tgt := 106) hx hb dX8_gate_48 (by decide) (fun c19 => ?_) (fun c19 => ?_)
        · have hf := it_f hf c19
          refine lv_iload_n hx hb dX8_gate_106 rfl (lv_at hl 1 rfl) ?_
          refine lv_iconst (v := (4 : Int32)) hx hb dX8_gate_107 (by decide) ?_
          obtain ⟨k21, hk73, hf⟩ := jn_at hf
          have hJ22 : ∀ (t20 : Int32), k21 t20 = some r → ∀ (H : Heap) (locs : List Loc), va_P g.1 vwCl (cM g bM vM) H → va_D A (cM g bM vM) → va_S A s.heap H locs → ∀ ls : Array Slot, lv_has ls 8 [(0, .ref (bM 0)), (1, .int x1), (2, .ref (bM 8)), (3, .int r1), (4, .int (vM.2.1 7 (r3).toNatClampNeg))] → W p l e (headSpec wsX8_gate rmX8_gate_clean).room s m ([.ref (bM 0), .int x1, .ref (bM 8)] : List Value).toArray below meth c H locs 0 0 (MQ below (qI g A (cM g bM vM) r) ([.ref (bM 0), .int x1, .ref (bM 8)] : List Value).toArray s 0 0 A) (F0 m 121 ls [.int t20]) := by
            intro t20 hf H locs hP hD hS ls hl
            rw [hk73] at hf
            dsimp only at hf
            clear hk73
            refine lv_istore (lv' := [(5, .int t20), (0, .ref (bM 0)), (1, .int x1), (2, .ref (bM 8)), (3, .int r1), (4, .int (vM.2.1 7 (r3).toNatClampNeg))]) hx hb dX8_gate_121 hl (by decide) rfl (fun ls hl => ?_)
            refine lv_iconst (v := (1 : Int32)) hx hb dX8_gate_123 (by decide) ?_
            refine lv_istore (lv' := [(6, .int (1 : Int32)), (5, .int t20), (0, .ref (bM 0)), (1, .int x1), (2, .ref (bM 8)), (3, .int r1), (4, .int (vM.2.1 7 (r3).toNatClampNeg))]) hx hb dX8_gate_124 hl (by decide) rfl (fun ls hl => ?_)
            have hL26 : ∀ (x4_23 : Int32) (x6_24 : Int32), lp (f_X8_gate_clean_L126 vM x1 r1 t20) (fun _ _ => none) FU x4_23 x6_24 = some r → ∀ (H : Heap) (locs : List Loc), va_P g.1 vwCl (cM g bM vM) H → va_D A (cM g bM vM) → va_S A s.heap H locs → ∀ ls : Array Slot, lv_has ls 8 [(0, .ref (bM 0)), (1, .int x1), (2, .ref (bM 8)), (3, .int r1), (4, .int x4_23), (5, .int t20), (6, .int x6_24)] → W p l e (headSpec wsX8_gate rmX8_gate_clean).room s m ([.ref (bM 0), .int x1, .ref (bM 8)] : List Value).toArray below meth c H locs 0 0 (MQ below (qI g A (cM g bM vM) r) ([.ref (bM 0), .int x1, .ref (bM 8)] : List Value).toArray s 0 0 A) (F0 m 126 ls []) := by
              refine lp_ind (T := Int32 → Int32 → Option (Int32)) (fun self25 => ∀ (x4_23 : Int32) (x6_24 : Int32), self25 x4_23 x6_24 = some r → ∀ (H : Heap) (locs : List Loc), va_P g.1 vwCl (cM g bM vM) H → va_D A (cM g bM vM) → va_S A s.heap H locs → ∀ ls : Array Slot, lv_has ls 8 [(0, .ref (bM 0)), (1, .int x1), (2, .ref (bM 8)), (3, .int r1), (4, .int x4_23), (5, .int t20), (6, .int x6_24)] → W p l e (headSpec wsX8_gate rmX8_gate_clean).room s m ([.ref (bM 0), .int x1, .ref (bM 8)] : List Value).toArray below meth c H locs 0 0 (MQ below (qI g A (cM g bM vM) r) ([.ref (bM 0), .int x1, .ref (bM 8)] : List Value).toArray s 0 0 A) (F0 m 126 ls [])) ?_ ?_ FU
              · intro x4_23 x6_24 hf; cases hf
              · intro self25 ih27 x4_23 x6_24 hf H locs hP hD hS ls hl
                unfold f_X8_gate_clean_L126 at hf
                refine lv_iload hx hb dX8_gate_126 (lv_at hl 6 rfl) ?_
                refine lv_aload_n hx hb dX8_gate_128 rfl (lv_at hl 0 rfl) ?_
                refine lv_iload_n hx hb dX8_gate_129 rfl (lv_at hl 1 rfl) ?_
                obtain ⟨r28, hg29, hf⟩ := o1_at hf
                refine k_viW ⟨hx, hb, hml, hown, htu⟩ hK hP hD hS hA hG (c_X8_have l g bM vM x1 r28 hg29) (cwV 1 htu (gU_V mw_6_91 hcX8_have) rfl rfl rfl hdX8_have ⟨Nat.le_of_ble_eq_true rfl, Nat.le_of_ble_eq_true rfl⟩) (q0 := 0) (ci := 8) (fs := fcM bM vM) (q := (RX8, TX8, 23)) rfl rfl rfl (As := [.int x1]) (rest := [.int x6_24]) rfl rfl hl.1 (Nat.le_of_ble_eq_true rfl) dX8_gate_130 (k1 := 0) (n1 := 0) rfl rfl ⟨Nat.zero_le _, Nat.zero_le _⟩ (fun H locs hP hD hS => ?_)
                refine lv_icmp_ge (tgt := 214) hx hb dX8_gate_133 (by decide) (fun c30 => ?_) (fun c30 => ?_)
                · have hf := it_t hf c30
                  refine lv_iload_n hx hb dX8_gate_214 rfl (lv_at hl 3 rfl) ?_
                  refine lv_iconst (v := (2 : Int32)) hx hb dX8_gate_215 (by decide) ?_
                  obtain ⟨k32, hk35, hf⟩ := jn_at hf
                  have hJ33 : ∀ (t31 : Int32), k32 t31 = some r → ∀ (H : Heap) (locs : List Loc), va_P g.1 vwCl (cM g bM vM) H → va_D A (cM g bM vM) → va_S A s.heap H locs → ∀ ls : Array Slot, lv_has ls 8 [] → W p l e (headSpec wsX8_gate rmX8_gate_clean).room s m ([.ref (bM 0), .int x1, .ref (bM 8)] : List Value).toArray below meth c H locs 0 0 (MQ below (qI g A (cM g bM vM) r) ([.ref (bM 0), .int x1, .ref (bM 8)] : List Value).toArray s 0 0 A) (F0 m 239 ls [.int t31]) := by
                    intro t31 hf H locs hP hD hS ls hl
                    rw [hk35] at hf
                    dsimp only at hf
                    clear hk35
                    have e34 := Option.some.inj hf
                    exact k_iret hx hb hr hlocks hK hP hD hS e34 dX8_gate_239
                  obtain ⟨k36, hk40, hf⟩ := jn_at hf
                  have hJ37 : k36 = some r → ∀ (H : Heap) (locs : List Loc), va_P g.1 vwCl (cM g bM vM) H → va_D A (cM g bM vM) → va_S A s.heap H locs → ∀ ls : Array Slot, lv_has ls 8 [(4, .int x4_23)] → W p l e (headSpec wsX8_gate rmX8_gate_clean).room s m ([.ref (bM 0), .int x1, .ref (bM 8)] : List Value).toArray below meth c H locs 0 0 (MQ below (qI g A (cM g bM vM) r) ([.ref (bM 0), .int x1, .ref (bM 8)] : List Value).toArray s 0 0 A) (F0 m 229 ls []) := by
                    intro hf H locs hP hD hS ls hl
                    rw [hk40] at hf
                    clear hk40
                    refine lv_iload hx hb dX8_gate_229 (lv_at hl 0 rfl) ?_
                    obtain ⟨r38, hg39, hf⟩ := o1_at hf
                    refine k_si0 ⟨hx, hb, hml, hown, htu⟩ hK hP hD hS hA hG (c_X8_turned l g x4_23 r38 hg39) (va_cwS 1 htu (gU_S mw_6_88 hcX8_turned) rfl rfl rfl hdX8_turned ⟨Nat.le_of_ble_eq_true rfl, Nat.le_of_ble_eq_true rfl⟩) (As := [.int x4_23]) (rest := []) rfl rfl hl.1 (Nat.le_of_ble_eq_true rfl) dX8_gate_231 (k1 := 0) (n1 := 0) rfl rfl ⟨Nat.zero_le _, Nat.zero_le _⟩ (fun H locs hP hD hS => ?_)
                    refine lv_goto (tgt := 239) hx hb dX8_gate_234 (by decide) ?_
                    exact hJ33 r38 hf H locs hP hD hS _ (lv_sub hl [] rfl)
                  refine lv_icmp_eq (tgt := 229) hx hb dX8_gate_216 (by decide) (fun c41 => ?_) (fun c41 => ?_)
                  · have hf := it_t hf c41
                    exact hJ37 hf H locs hP hD hS _ (lv_sub hl [4] rfl)
                  · have hf := it_f hf c41
                    refine lv_iload_n hx hb dX8_gate_219 rfl (lv_at hl 3 rfl) ?_
                    refine lv_iconst (v := (3 : Int32)) hx hb dX8_gate_220 (by decide) ?_
                    refine lv_icmp_eq (tgt := 229) hx hb dX8_gate_221 (by decide) (fun c42 => ?_) (fun c42 => ?_)
                    · have hf := it_t hf c42
                      exact hJ37 hf H locs hP hD hS _ (lv_sub hl [4] rfl)
                    · have hf := it_f hf c42
                      refine lv_iload_n hx hb dX8_gate_224 rfl (lv_at hl 3 rfl) ?_
                      refine lv_iconst (v := (5 : Int32)) hx hb dX8_gate_225 (by decide) ?_
                      refine lv_icmp_ne (tgt := 237) hx hb dX8_gate_226 (by decide) (fun c43 => ?_) (fun c43 => ?_)
                      · have hf := it_f hf c43
                        refine lv_iload hx hb dX8_gate_237 (lv_at hl 4 rfl) ?_
                        exact hJ33 x4_23 hf H locs hP hD hS _ (lv_sub hl [] rfl)
                      · have hf := it_t hf c43
                        exact hJ37 hf H locs hP hD hS _ (lv_sub hl [4] rfl)
                · have hf := it_f hf c30
                  refine lv_aload_n hx hb dX8_gate_136 rfl (lv_at hl 2 rfl) ?_
                  refine lv_aload_n hx hb dX8_gate_137 rfl (lv_at hl 0 rfl) ?_
                  refine lv_iload_n hx hb dX8_gate_138 rfl (lv_at hl 1 rfl) ?_
                  refine lv_iload hx hb dX8_gate_139 (lv_at hl 6 rfl) ?_
                  obtain ⟨r44, hg45, hf⟩ := o1_at hf
                  refine k_viW ⟨hx, hb, hml, hown, htu⟩ hK hP hD hS hA hG (c_X8_operandOf l g bM vM x1 x6_24 r44 hg45) (cwV 2 htu (gU_V mw_6_84 hcX8_operandOf) rfl rfl rfl hdX8_operandOf ⟨Nat.le_of_ble_eq_true rfl, Nat.le_of_ble_eq_true rfl⟩) (q0 := 0) (ci := 8) (fs := fcM bM vM) (q := (RX8, TX8, 23)) rfl rfl rfl (As := [.int x1, .int x6_24]) (rest := [.ref (bM 8)]) rfl rfl hl.1 (Nat.le_of_ble_eq_true rfl) dX8_gate_141 (k1 := 0) (n1 := 0) rfl rfl ⟨Nat.zero_le _, Nat.zero_le _⟩ (fun H locs hP hD hS => ?_)
                  obtain ⟨h46, hf⟩ := gd_in hf
                  refine va_iald (D := g.1) (f := (vM.2.1 7)) hx hb hK hP 5 0 rfl rfl h46 dX8_gate_144 ?_
                  refine lv_istore (lv' := [(7, .int (vM.2.1 7 (r44).toNatClampNeg)), (0, .ref (bM 0)), (1, .int x1), (2, .ref (bM 8)), (3, .int r1), (4, .int x4_23), (5, .int t20), (6, .int x6_24)]) hx hb dX8_gate_145 hl (by decide) rfl (fun ls hl => ?_)
                  refine lv_iload hx hb dX8_gate_147 (lv_at hl 6 rfl) ?_
                  obtain ⟨k48, hk50, hf⟩ := jn_at hf
                  have hJ49 : ∀ (x4_47 : Int32), k48 x4_47 = some r → ∀ (H : Heap) (locs : List Loc), va_P g.1 vwCl (cM g bM vM) H → va_D A (cM g bM vM) → va_S A s.heap H locs → ∀ ls : Array Slot, lv_has ls 8 [(0, .ref (bM 0)), (1, .int x1), (2, .ref (bM 8)), (3, .int r1), (4, .int x4_47), (5, .int t20), (6, .int x6_24)] → W p l e (headSpec wsX8_gate rmX8_gate_clean).room s m ([.ref (bM 0), .int x1, .ref (bM 8)] : List Value).toArray below meth c H locs 0 0 (MQ below (qI g A (cM g bM vM) r) ([.ref (bM 0), .int x1, .ref (bM 8)] : List Value).toArray s 0 0 A) (F0 m 208 ls []) := by
                    intro x4_47 hf H locs hP hD hS ls hl
                    rw [hk50] at hf
                    dsimp only at hf
                    clear hk50
                    refine lv_iinc (v := (x6_24 + (1 : Int32))) (lv' := [(6, .int (x6_24 + (1 : Int32))), (0, .ref (bM 0)), (1, .int x1), (2, .ref (bM 8)), (3, .int r1), (4, .int x4_47), (5, .int t20)]) hx hb dX8_gate_208 hl (k := 6) rfl rfl (by decide) rfl (fun ls hl => ?_)
                    refine lv_goto (tgt := 126) hx hb dX8_gate_211 (by decide) ?_
                    exact ih27 x4_47 (x6_24 + (1 : Int32)) hf H locs hP hD hS _ (lv_sub hl [1, 2, 3, 4, 5, 6, 0] rfl)
                  refine lv_if_eq (tgt := 185) hx hb dX8_gate_149 (by decide) (fun c51 => ?_) (fun c51 => ?_)
                  · have hf := it_t hf c51
                    refine lv_iload hx hb dX8_gate_185 (lv_at hl 5 rfl) ?_
                    refine lv_iload hx hb dX8_gate_187 (lv_at hl 0 rfl) ?_
                    refine lv_iload_n hx hb dX8_gate_189 rfl (lv_at hl 4 rfl) ?_
                    obtain ⟨k53, hk57, hf⟩ := jn_at hf
                    have hJ54 : ∀ (t52 : Int32), k53 t52 = some r → ∀ (H : Heap) (locs : List Loc), va_P g.1 vwCl (cM g bM vM) H → va_D A (cM g bM vM) → va_S A s.heap H locs → ∀ ls : Array Slot, lv_has ls 8 [(0, .ref (bM 0)), (1, .int x1), (2, .ref (bM 8)), (3, .int r1), (5, .int t20), (6, .int x6_24)] → W p l e (headSpec wsX8_gate rmX8_gate_clean).room s m ([.ref (bM 0), .int x1, .ref (bM 8)] : List Value).toArray below meth c H locs 0 0 (MQ below (qI g A (cM g bM vM) r) ([.ref (bM 0), .int x1, .ref (bM 8)] : List Value).toArray s 0 0 A) (F0 m 203 ls [.int t52, .int (vM.2.1 7 (r44).toNatClampNeg), .int x4_23]) := by
                      intro t52 hf H locs hP hD hS ls hl
                      rw [hk57] at hf
                      dsimp only at hf
                      clear hk57
                      obtain ⟨r55, hg56, hf⟩ := o1_at hf
                      refine k_si0 ⟨hx, hb, hml, hown, htu⟩ hK hP hD hS hA hG (c_X8_decided l g x4_23 (vM.2.1 7 (r44).toNatClampNeg) t52 r55 hg56) (va_cwS 3 htu (gU_S mw_6_95 hcX8_decided) rfl rfl rfl hdX8_decided ⟨Nat.le_of_ble_eq_true rfl, Nat.le_of_ble_eq_true rfl⟩) (As := [.int x4_23, .int (vM.2.1 7 (r44).toNatClampNeg), .int t52]) (rest := []) rfl rfl hl.1 (Nat.le_of_ble_eq_true rfl) dX8_gate_203 (k1 := 0) (n1 := 0) rfl rfl ⟨Nat.zero_le _, Nat.zero_le _⟩ (fun H locs hP hD hS => ?_)
                      refine lv_istore (lv' := [(4, .int r55), (0, .ref (bM 0)), (1, .int x1), (2, .ref (bM 8)), (3, .int r1), (5, .int t20), (6, .int x6_24)]) hx hb dX8_gate_206 hl (by decide) rfl (fun ls hl => ?_)
                      exact hJ49 r55 hf H locs hP hD hS _ (lv_sub hl [1, 2, 3, 4, 0, 5, 6] rfl)
                    obtain ⟨k58, hk60, hf⟩ := jn_at hf
                    have hJ59 : k58 = some r → ∀ (H : Heap) (locs : List Loc), va_P g.1 vwCl (cM g bM vM) H → va_D A (cM g bM vM) → va_S A s.heap H locs → ∀ ls : Array Slot, lv_has ls 8 [(0, .ref (bM 0)), (1, .int x1), (2, .ref (bM 8)), (3, .int r1), (5, .int t20), (6, .int x6_24)] → W p l e (headSpec wsX8_gate rmX8_gate_clean).room s m ([.ref (bM 0), .int x1, .ref (bM 8)] : List Value).toArray below meth c H locs 0 0 (MQ below (qI g A (cM g bM vM) r) ([.ref (bM 0), .int x1, .ref (bM 8)] : List Value).toArray s 0 0 A) (F0 m 198 ls [.int (vM.2.1 7 (r44).toNatClampNeg), .int x4_23]) := by
                      intro hf H locs hP hD hS ls hl
                      rw [hk60] at hf
                      clear hk60
                      refine lv_iconst (v := (0 : Int32)) hx hb dX8_gate_198 (by decide) ?_
                      refine lv_goto (tgt := 203) hx hb dX8_gate_199 (by decide) ?_
                      exact hJ54 (0 : Int32) hf H locs hP hD hS _ (lv_sub hl [0, 1, 2, 3, 4, 5] rfl)
                    refine lv_if_eq (tgt := 198) hx hb dX8_gate_190 (by decide) (fun c61 => ?_) (fun c61 => ?_)
                    · have hf := it_t hf c61
                      exact hJ59 hf H locs hP hD hS _ (lv_sub hl [1, 2, 3, 4, 6, 7] rfl)
                    · have hf := it_f hf c61
                      refine lv_iload_n hx hb dX8_gate_193 rfl (lv_at hl 4 rfl) ?_
                      refine lv_iconst (v := (2 : Int32)) hx hb dX8_gate_194 (by decide) ?_
                      refine lv_icmp_ne (tgt := 202) hx hb dX8_gate_195 (by decide) (fun c62 => ?_) (fun c62 => ?_)
                      · have hf := it_f hf c62
                        refine lv_iconst (v := (1 : Int32)) hx hb dX8_gate_202 (by decide) ?_
                        exact hJ54 (1 : Int32) hf H locs hP hD hS _ (lv_sub hl [1, 2, 3, 4, 6, 7] rfl)
                      · have hf := it_t hf c62
                        exact hJ59 hf H locs hP hD hS _ (lv_sub hl [1, 2, 3, 4, 6, 7] rfl)
                  · have hf := it_f hf c51
                    refine lv_iload hx hb dX8_gate_152 (lv_at hl 5 rfl) ?_
                    refine lv_iconst (v := (2 : Int32)) hx hb dX8_gate_154 (by decide) ?_
                    obtain ⟨k64, hk66, hf⟩ := jn_at hf
                    have hJ65 : ∀ (t63 : Int32), k64 t63 = some r → ∀ (H : Heap) (locs : List Loc), va_P g.1 vwCl (cM g bM vM) H → va_D A (cM g bM vM) → va_S A s.heap H locs → ∀ ls : Array Slot, lv_has ls 8 [(0, .ref (bM 0)), (1, .int x1), (2, .ref (bM 8)), (3, .int r1), (5, .int t20), (6, .int x6_24)] → W p l e (headSpec wsX8_gate rmX8_gate_clean).room s m ([.ref (bM 0), .int x1, .ref (bM 8)] : List Value).toArray below meth c H locs 0 0 (MQ below (qI g A (cM g bM vM) r) ([.ref (bM 0), .int x1, .ref (bM 8)] : List Value).toArray s 0 0 A) (F0 m 180 ls [.int t63]) := by
                      intro t63 hf H locs hP hD hS ls hl
                      rw [hk66] at hf
                      dsimp only at hf
                      clear hk66
                      refine lv_istore (lv' := [(4, .int t63), (0, .ref (bM 0)), (1, .int x1), (2, .ref (bM 8)), (3, .int r1), (5, .int t20), (6, .int x6_24)]) hx hb dX8_gate_180 hl (by decide) rfl (fun ls hl => ?_)
                      refine lv_goto (tgt := 208) hx hb dX8_gate_182 (by decide) ?_
                      exact hJ49 t63 hf H locs hP hD hS _ (lv_sub hl [1, 2, 3, 4, 0, 5, 6] rfl)
                    obtain ⟨k67, hk69, hf⟩ := jn_at hf
                    have hJ68 : k67 = some r → ∀ (H : Heap) (locs : List Loc), va_P g.1 vwCl (cM g bM vM) H → va_D A (cM g bM vM) → va_S A s.heap H locs → ∀ ls : Array Slot, lv_has ls 8 [(0, .ref (bM 0)), (1, .int x1), (2, .ref (bM 8)), (3, .int r1), (5, .int t20), (6, .int x6_24)] → W p l e (headSpec wsX8_gate rmX8_gate_clean).room s m ([.ref (bM 0), .int x1, .ref (bM 8)] : List Value).toArray below meth c H locs 0 0 (MQ below (qI g A (cM g bM vM) r) ([.ref (bM 0), .int x1, .ref (bM 8)] : List Value).toArray s 0 0 A) (F0 m 164 ls []) := by
                      intro hf H locs hP hD hS ls hl
                      rw [hk69] at hf
                      clear hk69
                      refine lv_iconst (v := (2 : Int32)) hx hb dX8_gate_164 (by decide) ?_
                      refine lv_goto (tgt := 180) hx hb dX8_gate_165 (by decide) ?_
                      exact hJ65 (2 : Int32) hf H locs hP hD hS _ (lv_sub hl [0, 1, 2, 3, 4, 5] rfl)
                    refine lv_icmp_eq (tgt := 164) hx hb dX8_gate_155 (by decide) (fun c70 => ?_) (fun c70 => ?_)
                    · have hf := it_t hf c70
                      exact hJ68 hf H locs hP hD hS _ (lv_sub hl [1, 2, 3, 4, 6, 7] rfl)
                    · have hf := it_f hf c70
                      refine lv_iload hx hb dX8_gate_158 (lv_at hl 0 rfl) ?_
                      refine lv_iconst (v := (2 : Int32)) hx hb dX8_gate_160 (by decide) ?_
                      refine lv_icmp_ne (tgt := 168) hx hb dX8_gate_161 (by decide) (fun c71 => ?_) (fun c71 => ?_)
                      · have hf := it_f hf c71
                        refine lv_iload hx hb dX8_gate_168 (lv_at hl 5 rfl) ?_
                        refine lv_iload hx hb dX8_gate_170 (lv_at hl 0 rfl) ?_
                        refine lv_icmp_ne (tgt := 179) hx hb dX8_gate_172 (by decide) (fun c72 => ?_) (fun c72 => ?_)
                        · have hf := it_f hf c72
                          refine lv_iconst (v := (1 : Int32)) hx hb dX8_gate_179 (by decide) ?_
                          exact hJ65 (1 : Int32) hf H locs hP hD hS _ (lv_sub hl [1, 2, 3, 4, 6, 7] rfl)
                        · have hf := it_t hf c72
                          refine lv_iconst (v := (0 : Int32)) hx hb dX8_gate_175 (by decide) ?_
                          refine lv_goto (tgt := 180) hx hb dX8_gate_176 (by decide) ?_
                          exact hJ65 (0 : Int32) hf H locs hP hD hS _ (lv_sub hl [1, 2, 3, 4, 6, 7] rfl)
                      · have hf := it_t hf c71
                        exact hJ68 hf H locs hP hD hS _ (lv_sub hl [1, 2, 3, 4, 6, 7] rfl)
            exact hL26 (vM.2.1 7 (r3).toNatClampNeg) (1 : Int32) hf H locs hP hD hS _ (lv_sub hl [2, 3, 4, 5, 6, 1, 0] rfl)
          obtain ⟨k74, hk76, hf⟩ := jn_at hf
          have hJ75 : k74 = some r → ∀ (H : Heap) (locs : List Loc), va_P g.1 vwCl (cM g bM vM) H → va_D A (cM g bM vM) → va_S A s.heap H locs → ∀ ls : Array Slot, lv_has ls 8 [(0, .ref (bM 0)), (1, .int x1), (2, .ref (bM 8)), (3, .int r1), (4, .int (vM.2.1 7 (r3).toNatClampNeg))] → W p l e (headSpec wsX8_gate rmX8_gate_clean).room s m ([.ref (bM 0), .int x1, .ref (bM 8)] : List Value).toArray below meth c H locs 0 0 (MQ below (qI g A (cM g bM vM) r) ([.ref (bM 0), .int x1, .ref (bM 8)] : List Value).toArray s 0 0 A) (F0 m 116 ls []) := by
            intro hf H locs hP hD hS ls hl
            rw [hk76] at hf
            clear hk76
            refine lv_iconst (v := (1 : Int32)) hx hb dX8_gate_116 (by decide) ?_
            refine lv_goto (tgt := 121) hx hb dX8_gate_117 (by decide) ?_
            exact hJ22 (1 : Int32) hf H locs hP hD hS _ (lv_sub hl [0, 1, 2, 3, 4] rfl)
          refine lv_icmp_eq (tgt := 116) hx hb dX8_gate_108 (by decide) (fun c77 => ?_) (fun c77 => ?_)
          · have hf := it_t hf c77
            exact hJ75 hf H locs hP hD hS _ (lv_sub hl [2, 3, 4, 1, 0] rfl)
          · have hf := it_f hf c77
            refine lv_iload_n hx hb dX8_gate_111 rfl (lv_at hl 1 rfl) ?_
            refine lv_iconst (v := (5 : Int32)) hx hb dX8_gate_112 (by decide) ?_
            refine lv_icmp_ne (tgt := 120) hx hb dX8_gate_113 (by decide) (fun c78 => ?_) (fun c78 => ?_)
            · have hf := it_f hf c78
              refine lv_iconst (v := (0 : Int32)) hx hb dX8_gate_120 (by decide) ?_
              exact hJ22 (0 : Int32) hf H locs hP hD hS _ (lv_sub hl [2, 3, 4, 1, 0] rfl)
            · have hf := it_t hf c78
              exact hJ75 hf H locs hP hD hS _ (lv_sub hl [2, 3, 4, 1, 0] rfl)
        · have hf := it_t hf c19
          refine lv_aload_n hx hb dX8_gate_51 rfl (lv_at hl 4 rfl) ?_
          refine lv_aload_n hx hb dX8_gate_52 rfl (lv_at hl 2 rfl) ?_
          refine lv_iload_n hx hb dX8_gate_53 rfl (lv_at hl 3 rfl) ?_
          refine lv_iconst (v := (1 : Int32)) hx hb dX8_gate_54 (by decide) ?_
          obtain ⟨r79, hg80, hf⟩ := o1_at hf
          refine k_viW ⟨hx, hb, hml, hown, htu⟩ hK hP hD hS hA hG (c_X8_operandOf l g bM vM x1 (1 : Int32) r79 hg80) (cwV 2 htu (gU_V mw_6_84 hcX8_operandOf) rfl rfl rfl hdX8_operandOf ⟨Nat.le_of_ble_eq_true rfl, Nat.le_of_ble_eq_true rfl⟩) (q0 := 0) (ci := 8) (fs := fcM bM vM) (q := (RX8, TX8, 23)) rfl rfl rfl (As := [.int x1, .int (1 : Int32)]) (rest := [.ref (bM 8)]) rfl rfl hl.1 (Nat.le_of_ble_eq_true rfl) dX8_gate_55 (k1 := 0) (n1 := 0) rfl rfl ⟨Nat.zero_le _, Nat.zero_le _⟩ (fun H locs hP hD hS => ?_)
          obtain ⟨h81, hf⟩ := gd_in hf
          refine va_iald (D := g.1) (f := (vM.2.1 7)) hx hb hK hP 5 0 rfl rfl h81 dX8_gate_58 ?_
          refine lv_istore (lv' := [(5, .int (vM.2.1 7 (r79).toNatClampNeg)), (4, .int (vM.2.1 7 (r3).toNatClampNeg)), (3, .int r1), (0, .ref (bM 0)), (1, .int x1), (2, .ref (bM 8))]) hx hb dX8_gate_59 hl (by decide) rfl (fun ls hl => ?_)
          refine lv_aload_n hx hb dX8_gate_61 rfl (lv_at hl 5 rfl) ?_
          refine lv_aload_n hx hb dX8_gate_62 rfl (lv_at hl 3 rfl) ?_
          refine lv_iload_n hx hb dX8_gate_63 rfl (lv_at hl 4 rfl) ?_
          refine lv_iconst (v := (2 : Int32)) hx hb dX8_gate_64 (by decide) ?_
          obtain ⟨r82, hg83, hf⟩ := o1_at hf
          refine k_viW ⟨hx, hb, hml, hown, htu⟩ hK hP hD hS hA hG (c_X8_operandOf l g bM vM x1 (2 : Int32) r82 hg83) (cwV 2 htu (gU_V mw_6_84 hcX8_operandOf) rfl rfl rfl hdX8_operandOf ⟨Nat.le_of_ble_eq_true rfl, Nat.le_of_ble_eq_true rfl⟩) (q0 := 0) (ci := 8) (fs := fcM bM vM) (q := (RX8, TX8, 23)) rfl rfl rfl (As := [.int x1, .int (2 : Int32)]) (rest := [.ref (bM 8)]) rfl rfl hl.1 (Nat.le_of_ble_eq_true rfl) dX8_gate_65 (k1 := 0) (n1 := 0) rfl rfl ⟨Nat.zero_le _, Nat.zero_le _⟩ (fun H locs hP hD hS => ?_)
          obtain ⟨h84, hf⟩ := gd_in hf
          refine va_iald (D := g.1) (f := (vM.2.1 7)) hx hb hK hP 5 0 rfl rfl h84 dX8_gate_68 ?_
          refine lv_istore (lv' := [(6, .int (vM.2.1 7 (r82).toNatClampNeg)), (5, .int (vM.2.1 7 (r79).toNatClampNeg)), (4, .int (vM.2.1 7 (r3).toNatClampNeg)), (3, .int r1), (0, .ref (bM 0)), (1, .int x1), (2, .ref (bM 8))]) hx hb dX8_gate_69 hl (by decide) rfl (fun ls hl => ?_)
          refine lv_iload hx hb dX8_gate_71 (lv_at hl 2 rfl) ?_
          obtain ⟨k86, hk89, hf⟩ := jn_at hf
          have hJ87 : ∀ (t85 : Int32), k86 t85 = some r → ∀ (H : Heap) (locs : List Loc), va_P g.1 vwCl (cM g bM vM) H → va_D A (cM g bM vM) → va_S A s.heap H locs → ∀ ls : Array Slot, lv_has ls 8 [] → W p l e (headSpec wsX8_gate rmX8_gate_clean).room s m ([.ref (bM 0), .int x1, .ref (bM 8)] : List Value).toArray below meth c H locs 0 0 (MQ below (qI g A (cM g bM vM) r) ([.ref (bM 0), .int x1, .ref (bM 8)] : List Value).toArray s 0 0 A) (F0 m 105 ls [.int t85]) := by
            intro t85 hf H locs hP hD hS ls hl
            rw [hk89] at hf
            dsimp only at hf
            clear hk89
            have e88 := Option.some.inj hf
            exact k_iret hx hb hr hlocks hK hP hD hS e88 dX8_gate_105
          refine lv_if_ne (tgt := 81) hx hb dX8_gate_73 (by decide) (fun c90 => ?_) (fun c90 => ?_)
          · have hf := it_f hf c90
            refine lv_iload hx hb dX8_gate_81 (lv_at hl 2 rfl) ?_
            refine lv_iconst (v := (1 : Int32)) hx hb dX8_gate_83 (by decide) ?_
            refine lv_icmp_ne (tgt := 92) hx hb dX8_gate_84 (by decide) (fun c91 => ?_) (fun c91 => ?_)
            · have hf := it_f hf c91
              refine lv_iload hx hb dX8_gate_92 (lv_at hl 1 rfl) ?_
              refine lv_iload hx hb dX8_gate_94 (lv_at hl 0 rfl) ?_
              refine lv_icmp_ne (tgt := 104) hx hb dX8_gate_96 (by decide) (fun c92 => ?_) (fun c92 => ?_)
              · have hf := it_f hf c92
                refine lv_iconst (v := (2 : Int32)) hx hb dX8_gate_104 (by decide) ?_
                exact hJ87 (2 : Int32) hf H locs hP hD hS _ (lv_sub hl [] rfl)
              · have hf := it_t hf c92
                refine lv_iload hx hb dX8_gate_99 (lv_at hl 1 rfl) ?_
                refine lv_goto (tgt := 105) hx hb dX8_gate_101 (by decide) ?_
                exact hJ87 (vM.2.1 7 (r79).toNatClampNeg) hf H locs hP hD hS _ (lv_sub hl [] rfl)
            · have hf := it_t hf c91
              refine lv_iload hx hb dX8_gate_87 (lv_at hl 0 rfl) ?_
              refine lv_goto (tgt := 105) hx hb dX8_gate_89 (by decide) ?_
              exact hJ87 (vM.2.1 7 (r82).toNatClampNeg) hf H locs hP hD hS _ (lv_sub hl [] rfl)
          · have hf := it_t hf c90
            refine lv_iload hx hb dX8_gate_76 (lv_at hl 1 rfl) ?_
            refine lv_goto (tgt := 105) hx hb dX8_gate_78 (by decide) ?_
            exact hJ87 (vM.2.1 7 (r79).toNatClampNeg) hf H locs hP hD hS _ (lv_sub hl [] rfl)
      · have hf := it_t hf c18
        exact hJ7 hf H locs hP hD hS _ (lv_sub hl [1, 0] rfl)
  rw [hH, hlo] at hW
  exact hW
def f_X8_atOutput_clean (vM : Vs) (x1 : Int32) : Option (Int32) :=
  o1 (f_X8_get vM ((152 : Int32) + x1)) (fun (r1 : Int32) => gd (inb r1 24) (some ((vM.2.1 7 (r1).toNatClampNeg))))
abbrev wsX8_atOutput : List Cond := .code yX8_atOutput cX8_atOutput 3 (some .int) :: UW
abbrev rmX8_atOutput_clean : Room := { frames := 1, cells := 0, slots := 0, locals := 21 }
set_option maxHeartbeats 4000000 in
set_option maxRecDepth 100000 in
theorem c_X8_atOutput_clean (l : Launch) (g : Gx) (bM : Nat → Nat) (vM : Vs) (x1 : Int32) (r : Int32) (hf : f_X8_atOutput_clean vM x1 = some r) : CtI l yX8_atOutput wsX8_atOutput rmX8_atOutput_clean g [.ref (bM 0), .int x1, .ref (bM 8)] (cM g bM vM) (cM g bM vM) r 0 0 := by
  unfold CtI
  intro sz
  refine Met.ofW (cc := cX8_atOutput) (maxL := 3) (ret := (some .int)) (by decide) rfl ?_
  intro p e s m args below meth c s₁ B hml hv
  obtain ⟨rfl, hsz, hP, hK, hD0, hG⟩ := hv
  have hx := B.exec
  have hb := B.bytes
  have hr := B.returns
  have hts := atoms_spec (ws := wsX8_atOutput) B.pre
  have hown : s.vm.findClass RX8 = some m.cls := findClass_of_methodNamed B.named
  have hlocks := B.notSynchronized
  subst hsz
  have hD := hD0.self (sz := s.heap.size)
  generalize hAe : va_A (cM g bM vM) s.heap.size = A at hD hG ⊢
  have hA : ∀ q : Nat, s.heap.size ≤ q → A q := fun q h => by rw [← hAe]; exact Or.inr h
  clear hAe hD0
  have hS : va_S A s.heap s.heap [] := va_S.rf
  have hl := lv_entry ([.ref (bM 0), .int x1, .ref (bM 8)]) (n := 3) (Nat.le_of_ble_eq_true rfl)
  rw [lg_entry_eq]
  generalize (lg_sl ([.ref (bM 0), .int x1, .ref (bM 8)]) ++ List.replicate (3 - (lg_sl ([.ref (bM 0), .int x1, .ref (bM 8)])).length) Slot.unset).toArray = ls at hl ⊢
  have hl : lv_has ls 3 [(0, .ref (bM 0)), (1, .int x1), (2, .ref (bM 8))] := hl
  have htu : ∀ w ∈ UW, w.before _ s = true := fun w h => hts w (List.mem_cons_of_mem _ h)
  unfold f_X8_atOutput_clean at hf
  obtain ⟨H, hH⟩ : ∃ z, z = s.heap := ⟨_, rfl⟩
  obtain ⟨locs, hlo⟩ : ∃ z : List Loc, z = [] := ⟨_, rfl⟩
  have hS : va_S A s.heap H locs := by rw [hH, hlo]; exact hS
  rw [← hH] at hP
  have hW : W p l e (headSpec wsX8_atOutput rmX8_atOutput_clean).room s m ([.ref (bM 0), .int x1, .ref (bM 8)] : List Value).toArray below meth c H locs 0 0 (MQ below (qI g A (cM g bM vM) r) ([.ref (bM 0), .int x1, .ref (bM 8)] : List Value).toArray s 0 0 A) (F0 m 0 ls []) := by
    refine lv_aload_n hx hb dX8_atOutput_0 rfl (lv_at hl 2 rfl) ?_
    refine lv_aload_n hx hb dX8_atOutput_1 rfl (lv_at hl 0 rfl) ?_
    refine lv_sipush (v := (152 : Int32)) hx hb dX8_atOutput_2 (by decide) ?_
    refine lv_iload_n hx hb dX8_atOutput_5 rfl (lv_at hl 1 rfl) ?_
    refine lv_iadd hx hb dX8_atOutput_6 ?_
    obtain ⟨r1, hg2, hf⟩ := o1_at hf
    refine k_viW ⟨hx, hb, hml, hown, htu⟩ hK hP hD hS hA hG (c_X8_get l g bM vM ((152 : Int32) + x1) r1 hg2) (cwV 1 htu (gU_V mw_6_20 hcX8_get) rfl rfl rfl hdX8_get ⟨Nat.le_of_ble_eq_true rfl, Nat.le_of_ble_eq_true rfl⟩) (q0 := 0) (ci := 8) (fs := fcM bM vM) (q := (RX8, TX8, 23)) rfl rfl rfl (As := [.int ((152 : Int32) + x1)]) (rest := [.ref (bM 8)]) rfl rfl hl.1 (Nat.le_of_ble_eq_true rfl) dX8_atOutput_7 (k1 := 0) (n1 := 0) rfl rfl ⟨Nat.zero_le _, Nat.zero_le _⟩ (fun H locs hP hD hS => ?_)
    obtain ⟨h3, hf⟩ := gd_in hf
    refine va_iald (D := g.1) (f := (vM.2.1 7)) hx hb hK hP 5 0 rfl rfl h3 dX8_atOutput_10 ?_
    have e4 := Option.some.inj hf
    exact k_iret hx hb hr hlocks hK hP hD hS e4 dX8_atOutput_11
  rw [hH, hlo] at hW
  exact hW
def f_X8_bitsAt_clean_L4 (vM : Vs) (self3 : Int32 → Int32 → Option (Int32)) (x2_1 : Int32) (x3_2 : Int32) : Option (Int32) :=
  o1 (f_X8_outputs vM) (fun (r6 : Int32) => if r6 ≤ x3_2 then some (x2_1) else o1 (f_X8_atOutput_clean vM x3_2) (fun (r10 : Int32) => self3 (x2_1 ||| (r10 <<< (x3_2 &&& 31))) (x3_2 + (1 : Int32))))
def f_X8_bitsAt_clean (vM : Vs) : Option (Int32) :=
  lp (f_X8_bitsAt_clean_L4 vM) (fun _ _ => none) FU (0 : Int32) (0 : Int32)
abbrev wsX8_bitsAt : List Cond := .code yX8_bitsAt cX8_bitsAt 4 (some .int) :: UW
abbrev rmX8_bitsAt_clean : Room := { frames := 2, cells := 0, slots := 0, locals := 43 }
set_option maxHeartbeats 4000000 in
set_option maxRecDepth 100000 in
theorem c_X8_bitsAt_clean (l : Launch) (g : Gx) (bM : Nat → Nat) (vM : Vs) (r : Int32) (hf : f_X8_bitsAt_clean vM = some r) : CtI l yX8_bitsAt wsX8_bitsAt rmX8_bitsAt_clean g [.ref (bM 0), .ref (bM 8)] (cM g bM vM) (cM g bM vM) r 0 0 := by
  unfold CtI
  intro sz
  refine Met.ofW (cc := cX8_bitsAt) (maxL := 4) (ret := (some .int)) (by decide) rfl ?_
  intro p e s m args below meth c s₁ B hml hv
  obtain ⟨rfl, hsz, hP, hK, hD0, hG⟩ := hv
  have hx := B.exec
  have hb := B.bytes
  have hr := B.returns
  have hts := atoms_spec (ws := wsX8_bitsAt) B.pre
  have hown : s.vm.findClass RX8 = some m.cls := findClass_of_methodNamed B.named
  have hlocks := B.notSynchronized
  subst hsz
  have hD := hD0.self (sz := s.heap.size)
  generalize hAe : va_A (cM g bM vM) s.heap.size = A at hD hG ⊢
  have hA : ∀ q : Nat, s.heap.size ≤ q → A q := fun q h => by rw [← hAe]; exact Or.inr h
  clear hAe hD0
  have hS : va_S A s.heap s.heap [] := va_S.rf
  have hl := lv_entry ([.ref (bM 0), .ref (bM 8)]) (n := 4) (Nat.le_of_ble_eq_true rfl)
  rw [lg_entry_eq]
  generalize (lg_sl ([.ref (bM 0), .ref (bM 8)]) ++ List.replicate (4 - (lg_sl ([.ref (bM 0), .ref (bM 8)])).length) Slot.unset).toArray = ls at hl ⊢
  have hl : lv_has ls 4 [(0, .ref (bM 0)), (1, .ref (bM 8))] := hl
  have htu : ∀ w ∈ UW, w.before _ s = true := fun w h => hts w (List.mem_cons_of_mem _ h)
  unfold f_X8_bitsAt_clean at hf
  obtain ⟨H, hH⟩ : ∃ z, z = s.heap := ⟨_, rfl⟩
  obtain ⟨locs, hlo⟩ : ∃ z : List Loc, z = [] := ⟨_, rfl⟩
  have hS : va_S A s.heap H locs := by rw [hH, hlo]; exact hS
  rw [← hH] at hP
  have hW : W p l e (headSpec wsX8_bitsAt rmX8_bitsAt_clean).room s m ([.ref (bM 0), .ref (bM 8)] : List Value).toArray below meth c H locs 0 0 (MQ below (qI g A (cM g bM vM) r) ([.ref (bM 0), .ref (bM 8)] : List Value).toArray s 0 0 A) (F0 m 0 ls []) := by
    refine lv_iconst (v := (0 : Int32)) hx hb dX8_bitsAt_0 (by decide) ?_
    refine lv_istore_n (lv' := [(2, .int (0 : Int32)), (0, .ref (bM 0)), (1, .ref (bM 8))]) hx hb dX8_bitsAt_1 rfl hl (by decide) rfl (fun ls hl => ?_)
    refine lv_iconst (v := (0 : Int32)) hx hb dX8_bitsAt_2 (by decide) ?_
    refine lv_istore_n (lv' := [(3, .int (0 : Int32)), (2, .int (0 : Int32)), (0, .ref (bM 0)), (1, .ref (bM 8))]) hx hb dX8_bitsAt_3 rfl hl (by decide) rfl (fun ls hl => ?_)
    have hL4 : ∀ (x2_1 : Int32) (x3_2 : Int32), lp (f_X8_bitsAt_clean_L4 vM) (fun _ _ => none) FU x2_1 x3_2 = some r → ∀ (H : Heap) (locs : List Loc), va_P g.1 vwCl (cM g bM vM) H → va_D A (cM g bM vM) → va_S A s.heap H locs → ∀ ls : Array Slot, lv_has ls 4 [(0, .ref (bM 0)), (1, .ref (bM 8)), (2, .int x2_1), (3, .int x3_2)] → W p l e (headSpec wsX8_bitsAt rmX8_bitsAt_clean).room s m ([.ref (bM 0), .ref (bM 8)] : List Value).toArray below meth c H locs 0 0 (MQ below (qI g A (cM g bM vM) r) ([.ref (bM 0), .ref (bM 8)] : List Value).toArray s 0 0 A) (F0 m 4 ls []) := by
      refine lp_ind (T := Int32 → Int32 → Option (Int32)) (fun self3 => ∀ (x2_1 : Int32) (x3_2 : Int32), self3 x2_1 x3_2 = some r → ∀ (H : Heap) (locs : List Loc), va_P g.1 vwCl (cM g bM vM) H → va_D A (cM g bM vM) → va_S A s.heap H locs → ∀ ls : Array Slot, lv_has ls 4 [(0, .ref (bM 0)), (1, .ref (bM 8)), (2, .int x2_1), (3, .int x3_2)] → W p l e (headSpec wsX8_bitsAt rmX8_bitsAt_clean).room s m ([.ref (bM 0), .ref (bM 8)] : List Value).toArray below meth c H locs 0 0 (MQ below (qI g A (cM g bM vM) r) ([.ref (bM 0), .ref (bM 8)] : List Value).toArray s 0 0 A) (F0 m 4 ls [])) ?_ ?_ FU
      · intro x2_1 x3_2 hf; cases hf
      · intro self3 ih5 x2_1 x3_2 hf H locs hP hD hS ls hl
        unfold f_X8_bitsAt_clean_L4 at hf
        refine lv_iload_n hx hb dX8_bitsAt_4 rfl (lv_at hl 3 rfl) ?_
        refine lv_aload_n hx hb dX8_bitsAt_5 rfl (lv_at hl 0 rfl) ?_
        obtain ⟨r6, hg7, hf⟩ := o1_at hf
        refine k_viW ⟨hx, hb, hml, hown, htu⟩ hK hP hD hS hA hG (c_X8_outputs l g bM vM r6 hg7) (cwV 0 htu (gU_V mw_6_40 hcX8_outputs) rfl rfl rfl hdX8_outputs ⟨Nat.le_of_ble_eq_true rfl, Nat.le_of_ble_eq_true rfl⟩) (q0 := 0) (ci := 8) (fs := fcM bM vM) (q := (RX8, TX8, 23)) rfl rfl rfl (As := []) (rest := [.int x3_2]) rfl rfl hl.1 (Nat.le_of_ble_eq_true rfl) dX8_bitsAt_6 (k1 := 0) (n1 := 0) rfl rfl ⟨Nat.zero_le _, Nat.zero_le _⟩ (fun H locs hP hD hS => ?_)
        refine lv_icmp_ge (tgt := 29) hx hb dX8_bitsAt_9 (by decide) (fun c8 => ?_) (fun c8 => ?_)
        · have hf := it_t hf c8
          refine lv_iload_n hx hb dX8_bitsAt_29 rfl (lv_at hl 2 rfl) ?_
          have e9 := Option.some.inj hf
          exact k_iret hx hb hr hlocks hK hP hD hS e9 dX8_bitsAt_30
        · have hf := it_f hf c8
          refine lv_iload_n hx hb dX8_bitsAt_12 rfl (lv_at hl 2 rfl) ?_
          refine lv_aload_n hx hb dX8_bitsAt_13 rfl (lv_at hl 0 rfl) ?_
          refine lv_iload_n hx hb dX8_bitsAt_14 rfl (lv_at hl 3 rfl) ?_
          refine lv_aload_n hx hb dX8_bitsAt_15 rfl (lv_at hl 1 rfl) ?_
          obtain ⟨r10, hg11, hf⟩ := o1_at hf
          refine k_viW ⟨hx, hb, hml, hown, htu⟩ hK hP hD hS hA hG (c_X8_atOutput_clean l g bM vM x3_2 r10 hg11) (cwV 2 htu (gU_V mw_6_106 hcX8_atOutput) rfl rfl rfl hdX8_atOutput ⟨Nat.le_of_ble_eq_true rfl, Nat.le_of_ble_eq_true rfl⟩) (q0 := 0) (ci := 8) (fs := fcM bM vM) (q := (RX8, TX8, 23)) rfl rfl rfl (As := [.int x3_2, .ref (bM 8)]) (rest := [.int x2_1]) rfl rfl hl.1 (Nat.le_of_ble_eq_true rfl) dX8_bitsAt_16 (k1 := 0) (n1 := 0) rfl rfl ⟨Nat.zero_le _, Nat.zero_le _⟩ (fun H locs hP hD hS => ?_)
          refine lv_iload_n hx hb dX8_bitsAt_19 rfl (lv_at hl 3 rfl) ?_
          refine lv_ishl hx hb dX8_bitsAt_20 ?_
          refine lv_ior hx hb dX8_bitsAt_21 ?_
          refine lv_istore_n (lv' := [(2, .int (x2_1 ||| (r10 <<< (x3_2 &&& 31)))), (0, .ref (bM 0)), (1, .ref (bM 8)), (3, .int x3_2)]) hx hb dX8_bitsAt_22 rfl hl (by decide) rfl (fun ls hl => ?_)
          refine lv_iinc (v := (x3_2 + (1 : Int32))) (lv' := [(3, .int (x3_2 + (1 : Int32))), (2, .int (x2_1 ||| (r10 <<< (x3_2 &&& 31)))), (0, .ref (bM 0)), (1, .ref (bM 8))]) hx hb dX8_bitsAt_23 hl (k := 3) rfl rfl (by decide) rfl (fun ls hl => ?_)
          refine lv_goto (tgt := 4) hx hb dX8_bitsAt_26 (by decide) ?_
          exact ih5 (x2_1 ||| (r10 <<< (x3_2 &&& 31))) (x3_2 + (1 : Int32)) hf H locs hP hD hS _ (lv_sub hl [2, 3, 1, 0] rfl)
    exact hL4 (0 : Int32) (0 : Int32) hf H locs hP hD hS _ (lv_sub hl [2, 3, 1, 0] rfl)
  rw [hH, hlo] at hW
  exact hW
def f_X8_gate_bent_L126 (vM : Vs) (x1 : Int32) (r1 : Int32) (t20 : Int32) (self25 : Int32 → Int32 → Option (Int32)) (x4_23 : Int32) (x6_24 : Int32) : Option (Int32) :=
  o1 (f_X8_have vM x1) (fun (r28 : Int32) => if r28 ≤ x6_24 then jn (fun (t31 : Int32) => some (t31)) (fun k32 => jn (o1 (f_X8_turned x4_23) (fun (r38 : Int32) => k32 r38)) (fun k36 => if r1 = (2 : Int32) then k36 else if r1 = (3 : Int32) then k36 else if r1 = (5 : Int32) then k36 else k32 x4_23)) else o1 (f_X8_operandOf vM x1 x6_24) (fun (r44 : Int32) => gd (inb r44 24) (jn (fun (x4_47 : Int32) => self25 x4_47 (x6_24 + (1 : Int32))) (fun k48 => if t20 = 0 then jn (fun (t52 : Int32) => o1 (f_X8_decided x4_23 (vM.2.1 8 (r44).toNatClampNeg) t52) (fun (r55 : Int32) => k48 r55)) (fun k53 => jn (k53 (0 : Int32)) (fun k58 => if r1 = 0 then k58 else if r1 = (2 : Int32) then k58 else k53 (1 : Int32))) else jn (fun (t63 : Int32) => k48 t63) (fun k64 => jn (k64 (2 : Int32)) (fun k67 => if x4_23 = (2 : Int32) then k67 else if (vM.2.1 8 (r44).toNatClampNeg) = (2 : Int32) then k67 else if x4_23 = (vM.2.1 8 (r44).toNatClampNeg) then k64 (0 : Int32) else k64 (1 : Int32)))))))
def f_X8_gate_bent (vM : Vs) (x1 : Int32) : Option (Int32) :=
  o1 (f_X8_kindOf vM x1) (fun (r1 : Int32) => o1 (f_X8_operandOf vM x1 (0 : Int32)) (fun (r3 : Int32) => gd (inb r3 24) (jn (jn (fun (t8 : Int32) => some (t8)) (fun k9 => if r1 = (6 : Int32) then o1 (f_X8_turned (vM.2.1 8 (r3).toNatClampNeg)) (fun (r14 : Int32) => k9 r14) else k9 (vM.2.1 8 (r3).toNatClampNeg))) (fun k6 => if r1 = (6 : Int32) then k6 else if r1 = (7 : Int32) then k6 else if r1 = (8 : Int32) then o1 (f_X8_operandOf vM x1 (1 : Int32)) (fun (r79 : Int32) => gd (inb r79 24) (o1 (f_X8_operandOf vM x1 (2 : Int32)) (fun (r82 : Int32) => gd (inb r82 24) (jn (fun (t85 : Int32) => some (t85)) (fun k86 => if (vM.2.1 8 (r3).toNatClampNeg) = 0 then k86 (vM.2.1 8 (r79).toNatClampNeg) else if (vM.2.1 8 (r3).toNatClampNeg) = (1 : Int32) then k86 (vM.2.1 8 (r82).toNatClampNeg) else if (vM.2.1 8 (r79).toNatClampNeg) = (vM.2.1 8 (r82).toNatClampNeg) then k86 (vM.2.1 8 (r79).toNatClampNeg) else k86 (2 : Int32)))))) else jn (fun (t20 : Int32) => lp (f_X8_gate_bent_L126 vM x1 r1 t20) (fun _ _ => none) FU (vM.2.1 8 (r3).toNatClampNeg) (1 : Int32)) (fun k21 => jn (k21 (1 : Int32)) (fun k74 => if r1 = (4 : Int32) then k74 else if r1 = (5 : Int32) then k74 else k21 (0 : Int32)))))))
abbrev rmX8_gate_bent : Room := { frames := 2, cells := 0, slots := 0, locals := 43 }
set_option maxHeartbeats 4000000 in
set_option maxRecDepth 100000 in
theorem c_X8_gate_bent (l : Launch) (g : Gx) (bM : Nat → Nat) (vM : Vs) (x1 : Int32) (r : Int32) (hf : f_X8_gate_bent vM x1 = some r) : CtI l yX8_gate wsX8_gate rmX8_gate_bent g [.ref (bM 0), .int x1, .ref (bM 9)] (cM g bM vM) (cM g bM vM) r 0 0 := by
  unfold CtI
  intro sz
  refine Met.ofW (cc := cX8_gate) (maxL := 8) (ret := (some .int)) (by decide) rfl ?_
  intro p e s m args below meth c s₁ B hml hv
  obtain ⟨rfl, hsz, hP, hK, hD0, hG⟩ := hv
  have hx := B.exec
  have hb := B.bytes
  have hr := B.returns
  have hts := atoms_spec (ws := wsX8_gate) B.pre
  have hown : s.vm.findClass RX8 = some m.cls := findClass_of_methodNamed B.named
  have hlocks := B.notSynchronized
  subst hsz
  have hD := hD0.self (sz := s.heap.size)
  generalize hAe : va_A (cM g bM vM) s.heap.size = A at hD hG ⊢
  have hA : ∀ q : Nat, s.heap.size ≤ q → A q := fun q h => by rw [← hAe]; exact Or.inr h
  clear hAe hD0
  have hS : va_S A s.heap s.heap [] := va_S.rf
  have hl := lv_entry ([.ref (bM 0), .int x1, .ref (bM 9)]) (n := 8) (Nat.le_of_ble_eq_true rfl)
  rw [lg_entry_eq]
  generalize (lg_sl ([.ref (bM 0), .int x1, .ref (bM 9)]) ++ List.replicate (8 - (lg_sl ([.ref (bM 0), .int x1, .ref (bM 9)])).length) Slot.unset).toArray = ls at hl ⊢
  have hl : lv_has ls 8 [(0, .ref (bM 0)), (1, .int x1), (2, .ref (bM 9))] := hl
  have htu : ∀ w ∈ UW, w.before _ s = true := fun w h => hts w (List.mem_cons_of_mem _ h)
  unfold f_X8_gate_bent at hf
  obtain ⟨H, hH⟩ : ∃ z, z = s.heap := ⟨_, rfl⟩
  obtain ⟨locs, hlo⟩ : ∃ z : List Loc, z = [] := ⟨_, rfl⟩
  have hS : va_S A s.heap H locs := by rw [hH, hlo]; exact hS
  rw [← hH] at hP
  have hW : W p l e (headSpec wsX8_gate rmX8_gate_bent).room s m ([.ref (bM 0), .int x1, .ref (bM 9)] : List Value).toArray below meth c H locs 0 0 (MQ below (qI g A (cM g bM vM) r) ([.ref (bM 0), .int x1, .ref (bM 9)] : List Value).toArray s 0 0 A) (F0 m 0 ls []) := by
    refine lv_aload_n hx hb dX8_gate_0 rfl (lv_at hl 0 rfl) ?_
    refine lv_iload_n hx hb dX8_gate_1 rfl (lv_at hl 1 rfl) ?_
    obtain ⟨r1, hg2, hf⟩ := o1_at hf
    refine k_viW ⟨hx, hb, hml, hown, htu⟩ hK hP hD hS hA hG (c_X8_kindOf l g bM vM x1 r1 hg2) (cwV 1 htu (gU_V mw_6_80 hcX8_kindOf) rfl rfl rfl hdX8_kindOf ⟨Nat.le_of_ble_eq_true rfl, Nat.le_of_ble_eq_true rfl⟩) (q0 := 0) (ci := 8) (fs := fcM bM vM) (q := (RX8, TX8, 23)) rfl rfl rfl (As := [.int x1]) (rest := []) rfl rfl hl.1 (Nat.le_of_ble_eq_true rfl) dX8_gate_2 (k1 := 0) (n1 := 0) rfl rfl ⟨Nat.zero_le _, Nat.zero_le _⟩ (fun H locs hP hD hS => ?_)
    refine lv_istore_n (lv' := [(3, .int r1), (0, .ref (bM 0)), (1, .int x1), (2, .ref (bM 9))]) hx hb dX8_gate_5 rfl hl (by decide) rfl (fun ls hl => ?_)
    refine lv_aload_n hx hb dX8_gate_6 rfl (lv_at hl 3 rfl) ?_
    refine lv_aload_n hx hb dX8_gate_7 rfl (lv_at hl 1 rfl) ?_
    refine lv_iload_n hx hb dX8_gate_8 rfl (lv_at hl 2 rfl) ?_
    refine lv_iconst (v := (0 : Int32)) hx hb dX8_gate_9 (by decide) ?_
    obtain ⟨r3, hg4, hf⟩ := o1_at hf
    refine k_viW ⟨hx, hb, hml, hown, htu⟩ hK hP hD hS hA hG (c_X8_operandOf l g bM vM x1 (0 : Int32) r3 hg4) (cwV 2 htu (gU_V mw_6_84 hcX8_operandOf) rfl rfl rfl hdX8_operandOf ⟨Nat.le_of_ble_eq_true rfl, Nat.le_of_ble_eq_true rfl⟩) (q0 := 0) (ci := 8) (fs := fcM bM vM) (q := (RX8, TX8, 23)) rfl rfl rfl (As := [.int x1, .int (0 : Int32)]) (rest := [.ref (bM 9)]) rfl rfl hl.1 (Nat.le_of_ble_eq_true rfl) dX8_gate_10 (k1 := 0) (n1 := 0) rfl rfl ⟨Nat.zero_le _, Nat.zero_le _⟩ (fun H locs hP hD hS => ?_)
    obtain ⟨h5, hf⟩ := gd_in hf
    refine va_iald (D := g.1) (f := (vM.2.1 8)) hx hb hK hP 6 0 rfl rfl h5 dX8_gate_13 ?_
    refine lv_istore (lv' := [(4, .int (vM.2.1 8 (r3).toNatClampNeg)), (3, .int r1), (0, .ref (bM 0)), (1, .int x1), (2, .ref (bM 9))]) hx hb dX8_gate_14 hl (by decide) rfl (fun ls hl => ?_)
    refine lv_iload_n hx hb dX8_gate_16 rfl (lv_at hl 1 rfl) ?_
    refine lv_bipush (v := (6 : Int32)) hx hb dX8_gate_17 (by decide) ?_
    obtain ⟨k6, hk16, hf⟩ := jn_at hf
    have hJ7 : k6 = some r → ∀ (H : Heap) (locs : List Loc), va_P g.1 vwCl (cM g bM vM) H → va_D A (cM g bM vM) → va_S A s.heap H locs → ∀ ls : Array Slot, lv_has ls 8 [(3, .int r1), (4, .int (vM.2.1 8 (r3).toNatClampNeg))] → W p l e (headSpec wsX8_gate rmX8_gate_bent).room s m ([.ref (bM 0), .int x1, .ref (bM 9)] : List Value).toArray below meth c H locs 0 0 (MQ below (qI g A (cM g bM vM) r) ([.ref (bM 0), .int x1, .ref (bM 9)] : List Value).toArray s 0 0 A) (F0 m 28 ls []) := by
      intro hf H locs hP hD hS ls hl
      rw [hk16] at hf
      clear hk16
      refine lv_iload_n hx hb dX8_gate_28 rfl (lv_at hl 0 rfl) ?_
      refine lv_bipush (v := (6 : Int32)) hx hb dX8_gate_29 (by decide) ?_
      obtain ⟨k9, hk12, hf⟩ := jn_at hf
      have hJ10 : ∀ (t8 : Int32), k9 t8 = some r → ∀ (H : Heap) (locs : List Loc), va_P g.1 vwCl (cM g bM vM) H → va_D A (cM g bM vM) → va_S A s.heap H locs → ∀ ls : Array Slot, lv_has ls 8 [] → W p l e (headSpec wsX8_gate rmX8_gate_bent).room s m ([.ref (bM 0), .int x1, .ref (bM 9)] : List Value).toArray below meth c H locs 0 0 (MQ below (qI g A (cM g bM vM) r) ([.ref (bM 0), .int x1, .ref (bM 9)] : List Value).toArray s 0 0 A) (F0 m 44 ls [.int t8]) := by
        intro t8 hf H locs hP hD hS ls hl
        rw [hk12] at hf
        dsimp only at hf
        clear hk12
        have e11 := Option.some.inj hf
        exact k_iret hx hb hr hlocks hK hP hD hS e11 dX8_gate_44
      refine lv_icmp_ne (tgt := 42) hx hb dX8_gate_31 (by decide) (fun c13 => ?_) (fun c13 => ?_)
      · have hf := it_f hf c13
        refine lv_iload hx hb dX8_gate_42 (lv_at hl 1 rfl) ?_
        exact hJ10 (vM.2.1 8 (r3).toNatClampNeg) hf H locs hP hD hS _ (lv_sub hl [] rfl)
      · have hf := it_t hf c13
        refine lv_iload hx hb dX8_gate_34 (lv_at hl 1 rfl) ?_
        obtain ⟨r14, hg15, hf⟩ := o1_at hf
        refine k_si0 ⟨hx, hb, hml, hown, htu⟩ hK hP hD hS hA hG (c_X8_turned l g (vM.2.1 8 (r3).toNatClampNeg) r14 hg15) (va_cwS 1 htu (gU_S mw_6_88 hcX8_turned) rfl rfl rfl hdX8_turned ⟨Nat.le_of_ble_eq_true rfl, Nat.le_of_ble_eq_true rfl⟩) (As := [.int (vM.2.1 8 (r3).toNatClampNeg)]) (rest := []) rfl rfl hl.1 (Nat.le_of_ble_eq_true rfl) dX8_gate_36 (k1 := 0) (n1 := 0) rfl rfl ⟨Nat.zero_le _, Nat.zero_le _⟩ (fun H locs hP hD hS => ?_)
        refine lv_goto (tgt := 44) hx hb dX8_gate_39 (by decide) ?_
        exact hJ10 r14 hf H locs hP hD hS _ (lv_sub hl [] rfl)
    refine lv_icmp_eq (tgt := 28) hx hb dX8_gate_19 (by decide) (fun c17 => ?_) (fun c17 => ?_)
    · have hf := it_t hf c17
      exact hJ7 hf H locs hP hD hS _ (lv_sub hl [1, 0] rfl)
    · have hf := it_f hf c17
      refine lv_iload_n hx hb dX8_gate_22 rfl (lv_at hl 1 rfl) ?_
      refine lv_bipush (v := (7 : Int32)) hx hb dX8_gate_23 (by decide) ?_
      refine lv_icmp_ne (tgt := 45) hx hb dX8_gate_25 (by decide) (fun c18 => ?_) (fun c18 => ?_)
      · have hf := it_f hf c18
        refine lv_iload_n hx hb dX8_gate_45 rfl (lv_at hl 1 rfl) ?_
        refine lv_bipush (v := (8 : Int32)) hx hb dX8_gate_46 (by decide) ?_
        refine lv_icmp_ne (tgt := 106) hx hb dX8_gate_48 (by decide) (fun c19 => ?_) (fun c19 => ?_)
        · have hf := it_f hf c19
          refine lv_iload_n hx hb dX8_gate_106 rfl (lv_at hl 1 rfl) ?_
          refine lv_iconst (v := (4 : Int32)) hx hb dX8_gate_107 (by decide) ?_
          obtain ⟨k21, hk73, hf⟩ := jn_at hf
          have hJ22 : ∀ (t20 : Int32), k21 t20 = some r → ∀ (H : Heap) (locs : List Loc), va_P g.1 vwCl (cM g bM vM) H → va_D A (cM g bM vM) → va_S A s.heap H locs → ∀ ls : Array Slot, lv_has ls 8 [(0, .ref (bM 0)), (1, .int x1), (2, .ref (bM 9)), (3, .int r1), (4, .int (vM.2.1 8 (r3).toNatClampNeg))] → W p l e (headSpec wsX8_gate rmX8_gate_bent).room s m ([.ref (bM 0), .int x1, .ref (bM 9)] : List Value).toArray below meth c H locs 0 0 (MQ below (qI g A (cM g bM vM) r) ([.ref (bM 0), .int x1, .ref (bM 9)] : List Value).toArray s 0 0 A) (F0 m 121 ls [.int t20]) := by
            intro t20 hf H locs hP hD hS ls hl
            rw [hk73] at hf
            dsimp only at hf
            clear hk73
            refine lv_istore (lv' := [(5, .int t20), (0, .ref (bM 0)), (1, .int x1), (2, .ref (bM 9)), (3, .int r1), (4, .int (vM.2.1 8 (r3).toNatClampNeg))]) hx hb dX8_gate_121 hl (by decide) rfl (fun ls hl => ?_)
            refine lv_iconst (v := (1 : Int32)) hx hb dX8_gate_123 (by decide) ?_
            refine lv_istore (lv' := [(6, .int (1 : Int32)), (5, .int t20), (0, .ref (bM 0)), (1, .int x1), (2, .ref (bM 9)), (3, .int r1), (4, .int (vM.2.1 8 (r3).toNatClampNeg))]) hx hb dX8_gate_124 hl (by decide) rfl (fun ls hl => ?_)
            have hL26 : ∀ (x4_23 : Int32) (x6_24 : Int32), lp (f_X8_gate_bent_L126 vM x1 r1 t20) (fun _ _ => none) FU x4_23 x6_24 = some r → ∀ (H : Heap) (locs : List Loc), va_P g.1 vwCl (cM g bM vM) H → va_D A (cM g bM vM) → va_S A s.heap H locs → ∀ ls : Array Slot, lv_has ls 8 [(0, .ref (bM 0)), (1, .int x1), (2, .ref (bM 9)), (3, .int r1), (4, .int x4_23), (5, .int t20), (6, .int x6_24)] → W p l e (headSpec wsX8_gate rmX8_gate_bent).room s m ([.ref (bM 0), .int x1, .ref (bM 9)] : List Value).toArray below meth c H locs 0 0 (MQ below (qI g A (cM g bM vM) r) ([.ref (bM 0), .int x1, .ref (bM 9)] : List Value).toArray s 0 0 A) (F0 m 126 ls []) := by
              refine lp_ind (T := Int32 → Int32 → Option (Int32)) (fun self25 => ∀ (x4_23 : Int32) (x6_24 : Int32), self25 x4_23 x6_24 = some r → ∀ (H : Heap) (locs : List Loc), va_P g.1 vwCl (cM g bM vM) H → va_D A (cM g bM vM) → va_S A s.heap H locs → ∀ ls : Array Slot, lv_has ls 8 [(0, .ref (bM 0)), (1, .int x1), (2, .ref (bM 9)), (3, .int r1), (4, .int x4_23), (5, .int t20), (6, .int x6_24)] → W p l e (headSpec wsX8_gate rmX8_gate_bent).room s m ([.ref (bM 0), .int x1, .ref (bM 9)] : List Value).toArray below meth c H locs 0 0 (MQ below (qI g A (cM g bM vM) r) ([.ref (bM 0), .int x1, .ref (bM 9)] : List Value).toArray s 0 0 A) (F0 m 126 ls [])) ?_ ?_ FU
              · intro x4_23 x6_24 hf; cases hf
              · intro self25 ih27 x4_23 x6_24 hf H locs hP hD hS ls hl
                unfold f_X8_gate_bent_L126 at hf
                refine lv_iload hx hb dX8_gate_126 (lv_at hl 6 rfl) ?_
                refine lv_aload_n hx hb dX8_gate_128 rfl (lv_at hl 0 rfl) ?_
                refine lv_iload_n hx hb dX8_gate_129 rfl (lv_at hl 1 rfl) ?_
                obtain ⟨r28, hg29, hf⟩ := o1_at hf
                refine k_viW ⟨hx, hb, hml, hown, htu⟩ hK hP hD hS hA hG (c_X8_have l g bM vM x1 r28 hg29) (cwV 1 htu (gU_V mw_6_91 hcX8_have) rfl rfl rfl hdX8_have ⟨Nat.le_of_ble_eq_true rfl, Nat.le_of_ble_eq_true rfl⟩) (q0 := 0) (ci := 8) (fs := fcM bM vM) (q := (RX8, TX8, 23)) rfl rfl rfl (As := [.int x1]) (rest := [.int x6_24]) rfl rfl hl.1 (Nat.le_of_ble_eq_true rfl) dX8_gate_130 (k1 := 0) (n1 := 0) rfl rfl ⟨Nat.zero_le _, Nat.zero_le _⟩ (fun H locs hP hD hS => ?_)
                refine lv_icmp_ge (tgt := 214) hx hb dX8_gate_133 (by decide) (fun c30 => ?_) (fun c30 => ?_)
                · have hf := it_t hf c30
                  refine lv_iload_n hx hb dX8_gate_214 rfl (lv_at hl 3 rfl) ?_
                  refine lv_iconst (v := (2 : Int32)) hx hb dX8_gate_215 (by decide) ?_
                  obtain ⟨k32, hk35, hf⟩ := jn_at hf
                  have hJ33 : ∀ (t31 : Int32), k32 t31 = some r → ∀ (H : Heap) (locs : List Loc), va_P g.1 vwCl (cM g bM vM) H → va_D A (cM g bM vM) → va_S A s.heap H locs → ∀ ls : Array Slot, lv_has ls 8 [] → W p l e (headSpec wsX8_gate rmX8_gate_bent).room s m ([.ref (bM 0), .int x1, .ref (bM 9)] : List Value).toArray below meth c H locs 0 0 (MQ below (qI g A (cM g bM vM) r) ([.ref (bM 0), .int x1, .ref (bM 9)] : List Value).toArray s 0 0 A) (F0 m 239 ls [.int t31]) := by
                    intro t31 hf H locs hP hD hS ls hl
                    rw [hk35] at hf
                    dsimp only at hf
                    clear hk35
                    have e34 := Option.some.inj hf
                    exact k_iret hx hb hr hlocks hK hP hD hS e34 dX8_gate_239
                  obtain ⟨k36, hk40, hf⟩ := jn_at hf
                  have hJ37 : k36 = some r → ∀ (H : Heap) (locs : List Loc), va_P g.1 vwCl (cM g bM vM) H → va_D A (cM g bM vM) → va_S A s.heap H locs → ∀ ls : Array Slot, lv_has ls 8 [(4, .int x4_23)] → W p l e (headSpec wsX8_gate rmX8_gate_bent).room s m ([.ref (bM 0), .int x1, .ref (bM 9)] : List Value).toArray below meth c H locs 0 0 (MQ below (qI g A (cM g bM vM) r) ([.ref (bM 0), .int x1, .ref (bM 9)] : List Value).toArray s 0 0 A) (F0 m 229 ls []) := by
                    intro hf H locs hP hD hS ls hl
                    rw [hk40] at hf
                    clear hk40
                    refine lv_iload hx hb dX8_gate_229 (lv_at hl 0 rfl) ?_
                    obtain ⟨r38, hg39, hf⟩ := o1_at hf
                    refine k_si0 ⟨hx, hb, hml, hown, htu⟩ hK hP hD hS hA hG (c_X8_turned l g x4_23 r38 hg39) (va_cwS 1 htu (gU_S mw_6_88 hcX8_turned) rfl rfl rfl hdX8_turned ⟨Nat.le_of_ble_eq_true rfl, Nat.le_of_ble_eq_true rfl⟩) (As := [.int x4_23]) (rest := []) rfl rfl hl.1 (Nat.le_of_ble_eq_true rfl) dX8_gate_231 (k1 := 0) (n1 := 0) rfl rfl ⟨Nat.zero_le _, Nat.zero_le _⟩ (fun H locs hP hD hS => ?_)
                    refine lv_goto (tgt := 239) hx hb dX8_gate_234 (by decide) ?_
                    exact hJ33 r38 hf H locs hP hD hS _ (lv_sub hl [] rfl)
                  refine lv_icmp_eq (tgt := 229) hx hb dX8_gate_216 (by decide) (fun c41 => ?_) (fun c41 => ?_)
                  · have hf := it_t hf c41
                    exact hJ37 hf H locs hP hD hS _ (lv_sub hl [4] rfl)
                  · have hf := it_f hf c41
                    refine lv_iload_n hx hb dX8_gate_219 rfl (lv_at hl 3 rfl) ?_
                    refine lv_iconst (v := (3 : Int32)) hx hb dX8_gate_220 (by decide) ?_
                    refine lv_icmp_eq (tgt := 229) hx hb dX8_gate_221 (by decide) (fun c42 => ?_) (fun c42 => ?_)
                    · have hf := it_t hf c42
                      exact hJ37 hf H locs hP hD hS _ (lv_sub hl [4] rfl)
                    · have hf := it_f hf c42
                      refine lv_iload_n hx hb dX8_gate_224 rfl (lv_at hl 3 rfl) ?_
                      refine lv_iconst (v := (5 : Int32)) hx hb dX8_gate_225 (by decide) ?_
                      refine lv_icmp_ne (tgt := 237) hx hb dX8_gate_226 (by decide) (fun c43 => ?_) (fun c43 => ?_)
                      · have hf := it_f hf c43
                        refine lv_iload hx hb dX8_gate_237 (lv_at hl 4 rfl) ?_
                        exact hJ33 x4_23 hf H locs hP hD hS _ (lv_sub hl [] rfl)
                      · have hf := it_t hf c43
                        exact hJ37 hf H locs hP hD hS _ (lv_sub hl [4] rfl)
                · have hf := it_f hf c30
                  refine lv_aload_n hx hb dX8_gate_136 rfl (lv_at hl 2 rfl) ?_
                  refine lv_aload_n hx hb dX8_gate_137 rfl (lv_at hl 0 rfl) ?_
                  refine lv_iload_n hx hb dX8_gate_138 rfl (lv_at hl 1 rfl) ?_
                  refine lv_iload hx hb dX8_gate_139 (lv_at hl 6 rfl) ?_
                  obtain ⟨r44, hg45, hf⟩ := o1_at hf
                  refine k_viW ⟨hx, hb, hml, hown, htu⟩ hK hP hD hS hA hG (c_X8_operandOf l g bM vM x1 x6_24 r44 hg45) (cwV 2 htu (gU_V mw_6_84 hcX8_operandOf) rfl rfl rfl hdX8_operandOf ⟨Nat.le_of_ble_eq_true rfl, Nat.le_of_ble_eq_true rfl⟩) (q0 := 0) (ci := 8) (fs := fcM bM vM) (q := (RX8, TX8, 23)) rfl rfl rfl (As := [.int x1, .int x6_24]) (rest := [.ref (bM 9)]) rfl rfl hl.1 (Nat.le_of_ble_eq_true rfl) dX8_gate_141 (k1 := 0) (n1 := 0) rfl rfl ⟨Nat.zero_le _, Nat.zero_le _⟩ (fun H locs hP hD hS => ?_)
                  obtain ⟨h46, hf⟩ := gd_in hf
                  refine va_iald (D := g.1) (f := (vM.2.1 8)) hx hb hK hP 6 0 rfl rfl h46 dX8_gate_144 ?_
                  refine lv_istore (lv' := [(7, .int (vM.2.1 8 (r44).toNatClampNeg)), (0, .ref (bM 0)), (1, .int x1), (2, .ref (bM 9)), (3, .int r1), (4, .int x4_23), (5, .int t20), (6, .int x6_24)]) hx hb dX8_gate_145 hl (by decide) rfl (fun ls hl => ?_)
                  refine lv_iload hx hb dX8_gate_147 (lv_at hl 6 rfl) ?_
                  obtain ⟨k48, hk50, hf⟩ := jn_at hf
                  have hJ49 : ∀ (x4_47 : Int32), k48 x4_47 = some r → ∀ (H : Heap) (locs : List Loc), va_P g.1 vwCl (cM g bM vM) H → va_D A (cM g bM vM) → va_S A s.heap H locs → ∀ ls : Array Slot, lv_has ls 8 [(0, .ref (bM 0)), (1, .int x1), (2, .ref (bM 9)), (3, .int r1), (4, .int x4_47), (5, .int t20), (6, .int x6_24)] → W p l e (headSpec wsX8_gate rmX8_gate_bent).room s m ([.ref (bM 0), .int x1, .ref (bM 9)] : List Value).toArray below meth c H locs 0 0 (MQ below (qI g A (cM g bM vM) r) ([.ref (bM 0), .int x1, .ref (bM 9)] : List Value).toArray s 0 0 A) (F0 m 208 ls []) := by
                    intro x4_47 hf H locs hP hD hS ls hl
                    rw [hk50] at hf
                    dsimp only at hf
                    clear hk50
                    refine lv_iinc (v := (x6_24 + (1 : Int32))) (lv' := [(6, .int (x6_24 + (1 : Int32))), (0, .ref (bM 0)), (1, .int x1), (2, .ref (bM 9)), (3, .int r1), (4, .int x4_47), (5, .int t20)]) hx hb dX8_gate_208 hl (k := 6) rfl rfl (by decide) rfl (fun ls hl => ?_)
                    refine lv_goto (tgt := 126) hx hb dX8_gate_211 (by decide) ?_
                    exact ih27 x4_47 (x6_24 + (1 : Int32)) hf H locs hP hD hS _ (lv_sub hl [1, 2, 3, 4, 5, 6, 0] rfl)
                  refine lv_if_eq (tgt := 185) hx hb dX8_gate_149 (by decide) (fun c51 => ?_) (fun c51 => ?_)
                  · have hf := it_t hf c51
                    refine lv_iload hx hb dX8_gate_185 (lv_at hl 5 rfl) ?_
                    refine lv_iload hx hb dX8_gate_187 (lv_at hl 0 rfl) ?_
                    refine lv_iload_n hx hb dX8_gate_189 rfl (lv_at hl 4 rfl) ?_
                    obtain ⟨k53, hk57, hf⟩ := jn_at hf
                    have hJ54 : ∀ (t52 : Int32), k53 t52 = some r → ∀ (H : Heap) (locs : List Loc), va_P g.1 vwCl (cM g bM vM) H → va_D A (cM g bM vM) → va_S A s.heap H locs → ∀ ls : Array Slot, lv_has ls 8 [(0, .ref (bM 0)), (1, .int x1), (2, .ref (bM 9)), (3, .int r1), (5, .int t20), (6, .int x6_24)] → W p l e (headSpec wsX8_gate rmX8_gate_bent).room s m ([.ref (bM 0), .int x1, .ref (bM 9)] : List Value).toArray below meth c H locs 0 0 (MQ below (qI g A (cM g bM vM) r) ([.ref (bM 0), .int x1, .ref (bM 9)] : List Value).toArray s 0 0 A) (F0 m 203 ls [.int t52, .int (vM.2.1 8 (r44).toNatClampNeg), .int x4_23]) := by
                      intro t52 hf H locs hP hD hS ls hl
                      rw [hk57] at hf
                      dsimp only at hf
                      clear hk57
                      obtain ⟨r55, hg56, hf⟩ := o1_at hf
                      refine k_si0 ⟨hx, hb, hml, hown, htu⟩ hK hP hD hS hA hG (c_X8_decided l g x4_23 (vM.2.1 8 (r44).toNatClampNeg) t52 r55 hg56) (va_cwS 3 htu (gU_S mw_6_95 hcX8_decided) rfl rfl rfl hdX8_decided ⟨Nat.le_of_ble_eq_true rfl, Nat.le_of_ble_eq_true rfl⟩) (As := [.int x4_23, .int (vM.2.1 8 (r44).toNatClampNeg), .int t52]) (rest := []) rfl rfl hl.1 (Nat.le_of_ble_eq_true rfl) dX8_gate_203 (k1 := 0) (n1 := 0) rfl rfl ⟨Nat.zero_le _, Nat.zero_le _⟩ (fun H locs hP hD hS => ?_)
                      refine lv_istore (lv' := [(4, .int r55), (0, .ref (bM 0)), (1, .int x1), (2, .ref (bM 9)), (3, .int r1), (5, .int t20), (6, .int x6_24)]) hx hb dX8_gate_206 hl (by decide) rfl (fun ls hl => ?_)
                      exact hJ49 r55 hf H locs hP hD hS _ (lv_sub hl [1, 2, 3, 4, 0, 5, 6] rfl)
                    obtain ⟨k58, hk60, hf⟩ := jn_at hf
                    have hJ59 : k58 = some r → ∀ (H : Heap) (locs : List Loc), va_P g.1 vwCl (cM g bM vM) H → va_D A (cM g bM vM) → va_S A s.heap H locs → ∀ ls : Array Slot, lv_has ls 8 [(0, .ref (bM 0)), (1, .int x1), (2, .ref (bM 9)), (3, .int r1), (5, .int t20), (6, .int x6_24)] → W p l e (headSpec wsX8_gate rmX8_gate_bent).room s m ([.ref (bM 0), .int x1, .ref (bM 9)] : List Value).toArray below meth c H locs 0 0 (MQ below (qI g A (cM g bM vM) r) ([.ref (bM 0), .int x1, .ref (bM 9)] : List Value).toArray s 0 0 A) (F0 m 198 ls [.int (vM.2.1 8 (r44).toNatClampNeg), .int x4_23]) := by
                      intro hf H locs hP hD hS ls hl
                      rw [hk60] at hf
                      clear hk60
                      refine lv_iconst (v := (0 : Int32)) hx hb dX8_gate_198 (by decide) ?_
                      refine lv_goto (tgt := 203) hx hb dX8_gate_199 (by decide) ?_
                      exact hJ54 (0 : Int32) hf H locs hP hD hS _ (lv_sub hl [0, 1, 2, 3, 4, 5] rfl)
                    refine lv_if_eq (tgt := 198) hx hb dX8_gate_190 (by decide) (fun c61 => ?_) (fun c61 => ?_)
                    · have hf := it_t hf c61
                      exact hJ59 hf H locs hP hD hS _ (lv_sub hl [1, 2, 3, 4, 6, 7] rfl)
                    · have hf := it_f hf c61
                      refine lv_iload_n hx hb dX8_gate_193 rfl (lv_at hl 4 rfl) ?_
                      refine lv_iconst (v := (2 : Int32)) hx hb dX8_gate_194 (by decide) ?_
                      refine lv_icmp_ne (tgt := 202) hx hb dX8_gate_195 (by decide) (fun c62 => ?_) (fun c62 => ?_)
                      · have hf := it_f hf c62
                        refine lv_iconst (v := (1 : Int32)) hx hb dX8_gate_202 (by decide) ?_
                        exact hJ54 (1 : Int32) hf H locs hP hD hS _ (lv_sub hl [1, 2, 3, 4, 6, 7] rfl)
                      · have hf := it_t hf c62
                        exact hJ59 hf H locs hP hD hS _ (lv_sub hl [1, 2, 3, 4, 6, 7] rfl)
                  · have hf := it_f hf c51
                    refine lv_iload hx hb dX8_gate_152 (lv_at hl 5 rfl) ?_
                    refine lv_iconst (v := (2 : Int32)) hx hb dX8_gate_154 (by decide) ?_
                    obtain ⟨k64, hk66, hf⟩ := jn_at hf
                    have hJ65 : ∀ (t63 : Int32), k64 t63 = some r → ∀ (H : Heap) (locs : List Loc), va_P g.1 vwCl (cM g bM vM) H → va_D A (cM g bM vM) → va_S A s.heap H locs → ∀ ls : Array Slot, lv_has ls 8 [(0, .ref (bM 0)), (1, .int x1), (2, .ref (bM 9)), (3, .int r1), (5, .int t20), (6, .int x6_24)] → W p l e (headSpec wsX8_gate rmX8_gate_bent).room s m ([.ref (bM 0), .int x1, .ref (bM 9)] : List Value).toArray below meth c H locs 0 0 (MQ below (qI g A (cM g bM vM) r) ([.ref (bM 0), .int x1, .ref (bM 9)] : List Value).toArray s 0 0 A) (F0 m 180 ls [.int t63]) := by
                      intro t63 hf H locs hP hD hS ls hl
                      rw [hk66] at hf
                      dsimp only at hf
                      clear hk66
                      refine lv_istore (lv' := [(4, .int t63), (0, .ref (bM 0)), (1, .int x1), (2, .ref (bM 9)), (3, .int r1), (5, .int t20), (6, .int x6_24)]) hx hb dX8_gate_180 hl (by decide) rfl (fun ls hl => ?_)
                      refine lv_goto (tgt := 208) hx hb dX8_gate_182 (by decide) ?_
                      exact hJ49 t63 hf H locs hP hD hS _ (lv_sub hl [1, 2, 3, 4, 0, 5, 6] rfl)
                    obtain ⟨k67, hk69, hf⟩ := jn_at hf
                    have hJ68 : k67 = some r → ∀ (H : Heap) (locs : List Loc), va_P g.1 vwCl (cM g bM vM) H → va_D A (cM g bM vM) → va_S A s.heap H locs → ∀ ls : Array Slot, lv_has ls 8 [(0, .ref (bM 0)), (1, .int x1), (2, .ref (bM 9)), (3, .int r1), (5, .int t20), (6, .int x6_24)] → W p l e (headSpec wsX8_gate rmX8_gate_bent).room s m ([.ref (bM 0), .int x1, .ref (bM 9)] : List Value).toArray below meth c H locs 0 0 (MQ below (qI g A (cM g bM vM) r) ([.ref (bM 0), .int x1, .ref (bM 9)] : List Value).toArray s 0 0 A) (F0 m 164 ls []) := by
                      intro hf H locs hP hD hS ls hl
                      rw [hk69] at hf
                      clear hk69
                      refine lv_iconst (v := (2 : Int32)) hx hb dX8_gate_164 (by decide) ?_
                      refine lv_goto (tgt := 180) hx hb dX8_gate_165 (by decide) ?_
                      exact hJ65 (2 : Int32) hf H locs hP hD hS _ (lv_sub hl [0, 1, 2, 3, 4, 5] rfl)
                    refine lv_icmp_eq (tgt := 164) hx hb dX8_gate_155 (by decide) (fun c70 => ?_) (fun c70 => ?_)
                    · have hf := it_t hf c70
                      exact hJ68 hf H locs hP hD hS _ (lv_sub hl [1, 2, 3, 4, 6, 7] rfl)
                    · have hf := it_f hf c70
                      refine lv_iload hx hb dX8_gate_158 (lv_at hl 0 rfl) ?_
                      refine lv_iconst (v := (2 : Int32)) hx hb dX8_gate_160 (by decide) ?_
                      refine lv_icmp_ne (tgt := 168) hx hb dX8_gate_161 (by decide) (fun c71 => ?_) (fun c71 => ?_)
                      · have hf := it_f hf c71
                        refine lv_iload hx hb dX8_gate_168 (lv_at hl 5 rfl) ?_
                        refine lv_iload hx hb dX8_gate_170 (lv_at hl 0 rfl) ?_
                        refine lv_icmp_ne (tgt := 179) hx hb dX8_gate_172 (by decide) (fun c72 => ?_) (fun c72 => ?_)
                        · have hf := it_f hf c72
                          refine lv_iconst (v := (1 : Int32)) hx hb dX8_gate_179 (by decide) ?_
                          exact hJ65 (1 : Int32) hf H locs hP hD hS _ (lv_sub hl [1, 2, 3, 4, 6, 7] rfl)
                        · have hf := it_t hf c72
                          refine lv_iconst (v := (0 : Int32)) hx hb dX8_gate_175 (by decide) ?_
                          refine lv_goto (tgt := 180) hx hb dX8_gate_176 (by decide) ?_
                          exact hJ65 (0 : Int32) hf H locs hP hD hS _ (lv_sub hl [1, 2, 3, 4, 6, 7] rfl)
                      · have hf := it_t hf c71
                        exact hJ68 hf H locs hP hD hS _ (lv_sub hl [1, 2, 3, 4, 6, 7] rfl)
            exact hL26 (vM.2.1 8 (r3).toNatClampNeg) (1 : Int32) hf H locs hP hD hS _ (lv_sub hl [2, 3, 4, 5, 6, 1, 0] rfl)
          obtain ⟨k74, hk76, hf⟩ := jn_at hf
          have hJ75 : k74 = some r → ∀ (H : Heap) (locs : List Loc), va_P g.1 vwCl (cM g bM vM) H → va_D A (cM g bM vM) → va_S A s.heap H locs → ∀ ls : Array Slot, lv_has ls 8 [(0, .ref (bM 0)), (1, .int x1), (2, .ref (bM 9)), (3, .int r1), (4, .int (vM.2.1 8 (r3).toNatClampNeg))] → W p l e (headSpec wsX8_gate rmX8_gate_bent).room s m ([.ref (bM 0), .int x1, .ref (bM 9)] : List Value).toArray below meth c H locs 0 0 (MQ below (qI g A (cM g bM vM) r) ([.ref (bM 0), .int x1, .ref (bM 9)] : List Value).toArray s 0 0 A) (F0 m 116 ls []) := by
            intro hf H locs hP hD hS ls hl
            rw [hk76] at hf
            clear hk76
            refine lv_iconst (v := (1 : Int32)) hx hb dX8_gate_116 (by decide) ?_
            refine lv_goto (tgt := 121) hx hb dX8_gate_117 (by decide) ?_
            exact hJ22 (1 : Int32) hf H locs hP hD hS _ (lv_sub hl [0, 1, 2, 3, 4] rfl)
          refine lv_icmp_eq (tgt := 116) hx hb dX8_gate_108 (by decide) (fun c77 => ?_) (fun c77 => ?_)
          · have hf := it_t hf c77
            exact hJ75 hf H locs hP hD hS _ (lv_sub hl [2, 3, 4, 1, 0] rfl)
          · have hf := it_f hf c77
            refine lv_iload_n hx hb dX8_gate_111 rfl (lv_at hl 1 rfl) ?_
            refine lv_iconst (v := (5 : Int32)) hx hb dX8_gate_112 (by decide) ?_
            refine lv_icmp_ne (tgt := 120) hx hb dX8_gate_113 (by decide) (fun c78 => ?_) (fun c78 => ?_)
            · have hf := it_f hf c78
              refine lv_iconst (v := (0 : Int32)) hx hb dX8_gate_120 (by decide) ?_
              exact hJ22 (0 : Int32) hf H locs hP hD hS _ (lv_sub hl [2, 3, 4, 1, 0] rfl)
            · have hf := it_t hf c78
              exact hJ75 hf H locs hP hD hS _ (lv_sub hl [2, 3, 4, 1, 0] rfl)
        · have hf := it_t hf c19
          refine lv_aload_n hx hb dX8_gate_51 rfl (lv_at hl 4 rfl) ?_
          refine lv_aload_n hx hb dX8_gate_52 rfl (lv_at hl 2 rfl) ?_
          refine lv_iload_n hx hb dX8_gate_53 rfl (lv_at hl 3 rfl) ?_
          refine lv_iconst (v := (1 : Int32)) hx hb dX8_gate_54 (by decide) ?_
          obtain ⟨r79, hg80, hf⟩ := o1_at hf
          refine k_viW ⟨hx, hb, hml, hown, htu⟩ hK hP hD hS hA hG (c_X8_operandOf l g bM vM x1 (1 : Int32) r79 hg80) (cwV 2 htu (gU_V mw_6_84 hcX8_operandOf) rfl rfl rfl hdX8_operandOf ⟨Nat.le_of_ble_eq_true rfl, Nat.le_of_ble_eq_true rfl⟩) (q0 := 0) (ci := 8) (fs := fcM bM vM) (q := (RX8, TX8, 23)) rfl rfl rfl (As := [.int x1, .int (1 : Int32)]) (rest := [.ref (bM 9)]) rfl rfl hl.1 (Nat.le_of_ble_eq_true rfl) dX8_gate_55 (k1 := 0) (n1 := 0) rfl rfl ⟨Nat.zero_le _, Nat.zero_le _⟩ (fun H locs hP hD hS => ?_)
          obtain ⟨h81, hf⟩ := gd_in hf
          refine va_iald (D := g.1) (f := (vM.2.1 8)) hx hb hK hP 6 0 rfl rfl h81 dX8_gate_58 ?_
          refine lv_istore (lv' := [(5, .int (vM.2.1 8 (r79).toNatClampNeg)), (4, .int (vM.2.1 8 (r3).toNatClampNeg)), (3, .int r1), (0, .ref (bM 0)), (1, .int x1), (2, .ref (bM 9))]) hx hb dX8_gate_59 hl (by decide) rfl (fun ls hl => ?_)
          refine lv_aload_n hx hb dX8_gate_61 rfl (lv_at hl 5 rfl) ?_
          refine lv_aload_n hx hb dX8_gate_62 rfl (lv_at hl 3 rfl) ?_
          refine lv_iload_n hx hb dX8_gate_63 rfl (lv_at hl 4 rfl) ?_
          refine lv_iconst (v := (2 : Int32)) hx hb dX8_gate_64 (by decide) ?_
          obtain ⟨r82, hg83, hf⟩ := o1_at hf
          refine k_viW ⟨hx, hb, hml, hown, htu⟩ hK hP hD hS hA hG (c_X8_operandOf l g bM vM x1 (2 : Int32) r82 hg83) (cwV 2 htu (gU_V mw_6_84 hcX8_operandOf) rfl rfl rfl hdX8_operandOf ⟨Nat.le_of_ble_eq_true rfl, Nat.le_of_ble_eq_true rfl⟩) (q0 := 0) (ci := 8) (fs := fcM bM vM) (q := (RX8, TX8, 23)) rfl rfl rfl (As := [.int x1, .int (2 : Int32)]) (rest := [.ref (bM 9)]) rfl rfl hl.1 (Nat.le_of_ble_eq_true rfl) dX8_gate_65 (k1 := 0) (n1 := 0) rfl rfl ⟨Nat.zero_le _, Nat.zero_le _⟩ (fun H locs hP hD hS => ?_)
          obtain ⟨h84, hf⟩ := gd_in hf
          refine va_iald (D := g.1) (f := (vM.2.1 8)) hx hb hK hP 6 0 rfl rfl h84 dX8_gate_68 ?_
          refine lv_istore (lv' := [(6, .int (vM.2.1 8 (r82).toNatClampNeg)), (5, .int (vM.2.1 8 (r79).toNatClampNeg)), (4, .int (vM.2.1 8 (r3).toNatClampNeg)), (3, .int r1), (0, .ref (bM 0)), (1, .int x1), (2, .ref (bM 9))]) hx hb dX8_gate_69 hl (by decide) rfl (fun ls hl => ?_)
          refine lv_iload hx hb dX8_gate_71 (lv_at hl 2 rfl) ?_
          obtain ⟨k86, hk89, hf⟩ := jn_at hf
          have hJ87 : ∀ (t85 : Int32), k86 t85 = some r → ∀ (H : Heap) (locs : List Loc), va_P g.1 vwCl (cM g bM vM) H → va_D A (cM g bM vM) → va_S A s.heap H locs → ∀ ls : Array Slot, lv_has ls 8 [] → W p l e (headSpec wsX8_gate rmX8_gate_bent).room s m ([.ref (bM 0), .int x1, .ref (bM 9)] : List Value).toArray below meth c H locs 0 0 (MQ below (qI g A (cM g bM vM) r) ([.ref (bM 0), .int x1, .ref (bM 9)] : List Value).toArray s 0 0 A) (F0 m 105 ls [.int t85]) := by
            intro t85 hf H locs hP hD hS ls hl
            rw [hk89] at hf
            dsimp only at hf
            clear hk89
            have e88 := Option.some.inj hf
            exact k_iret hx hb hr hlocks hK hP hD hS e88 dX8_gate_105
          refine lv_if_ne (tgt := 81) hx hb dX8_gate_73 (by decide) (fun c90 => ?_) (fun c90 => ?_)
          · have hf := it_f hf c90
            refine lv_iload hx hb dX8_gate_81 (lv_at hl 2 rfl) ?_
            refine lv_iconst (v := (1 : Int32)) hx hb dX8_gate_83 (by decide) ?_
            refine lv_icmp_ne (tgt := 92) hx hb dX8_gate_84 (by decide) (fun c91 => ?_) (fun c91 => ?_)
            · have hf := it_f hf c91
              refine lv_iload hx hb dX8_gate_92 (lv_at hl 1 rfl) ?_
              refine lv_iload hx hb dX8_gate_94 (lv_at hl 0 rfl) ?_
              refine lv_icmp_ne (tgt := 104) hx hb dX8_gate_96 (by decide) (fun c92 => ?_) (fun c92 => ?_)
              · have hf := it_f hf c92
                refine lv_iconst (v := (2 : Int32)) hx hb dX8_gate_104 (by decide) ?_
                exact hJ87 (2 : Int32) hf H locs hP hD hS _ (lv_sub hl [] rfl)
              · have hf := it_t hf c92
                refine lv_iload hx hb dX8_gate_99 (lv_at hl 1 rfl) ?_
                refine lv_goto (tgt := 105) hx hb dX8_gate_101 (by decide) ?_
                exact hJ87 (vM.2.1 8 (r79).toNatClampNeg) hf H locs hP hD hS _ (lv_sub hl [] rfl)
            · have hf := it_t hf c91
              refine lv_iload hx hb dX8_gate_87 (lv_at hl 0 rfl) ?_
              refine lv_goto (tgt := 105) hx hb dX8_gate_89 (by decide) ?_
              exact hJ87 (vM.2.1 8 (r82).toNatClampNeg) hf H locs hP hD hS _ (lv_sub hl [] rfl)
          · have hf := it_t hf c90
            refine lv_iload hx hb dX8_gate_76 (lv_at hl 1 rfl) ?_
            refine lv_goto (tgt := 105) hx hb dX8_gate_78 (by decide) ?_
            exact hJ87 (vM.2.1 8 (r79).toNatClampNeg) hf H locs hP hD hS _ (lv_sub hl [] rfl)
      · have hf := it_t hf c18
        exact hJ7 hf H locs hP hD hS _ (lv_sub hl [1, 0] rfl)
  rw [hH, hlo] at hW
  exact hW
def f_X8_atOutput_bent (vM : Vs) (x1 : Int32) : Option (Int32) :=
  o1 (f_X8_get vM ((152 : Int32) + x1)) (fun (r1 : Int32) => gd (inb r1 24) (some ((vM.2.1 8 (r1).toNatClampNeg))))
abbrev rmX8_atOutput_bent : Room := { frames := 1, cells := 0, slots := 0, locals := 21 }
set_option maxHeartbeats 4000000 in
set_option maxRecDepth 100000 in
theorem c_X8_atOutput_bent (l : Launch) (g : Gx) (bM : Nat → Nat) (vM : Vs) (x1 : Int32) (r : Int32) (hf : f_X8_atOutput_bent vM x1 = some r) : CtI l yX8_atOutput wsX8_atOutput rmX8_atOutput_bent g [.ref (bM 0), .int x1, .ref (bM 9)] (cM g bM vM) (cM g bM vM) r 0 0 := by
  unfold CtI
  intro sz
  refine Met.ofW (cc := cX8_atOutput) (maxL := 3) (ret := (some .int)) (by decide) rfl ?_
  intro p e s m args below meth c s₁ B hml hv
  obtain ⟨rfl, hsz, hP, hK, hD0, hG⟩ := hv
  have hx := B.exec
  have hb := B.bytes
  have hr := B.returns
  have hts := atoms_spec (ws := wsX8_atOutput) B.pre
  have hown : s.vm.findClass RX8 = some m.cls := findClass_of_methodNamed B.named
  have hlocks := B.notSynchronized
  subst hsz
  have hD := hD0.self (sz := s.heap.size)
  generalize hAe : va_A (cM g bM vM) s.heap.size = A at hD hG ⊢
  have hA : ∀ q : Nat, s.heap.size ≤ q → A q := fun q h => by rw [← hAe]; exact Or.inr h
  clear hAe hD0
  have hS : va_S A s.heap s.heap [] := va_S.rf
  have hl := lv_entry ([.ref (bM 0), .int x1, .ref (bM 9)]) (n := 3) (Nat.le_of_ble_eq_true rfl)
  rw [lg_entry_eq]
  generalize (lg_sl ([.ref (bM 0), .int x1, .ref (bM 9)]) ++ List.replicate (3 - (lg_sl ([.ref (bM 0), .int x1, .ref (bM 9)])).length) Slot.unset).toArray = ls at hl ⊢
  have hl : lv_has ls 3 [(0, .ref (bM 0)), (1, .int x1), (2, .ref (bM 9))] := hl
  have htu : ∀ w ∈ UW, w.before _ s = true := fun w h => hts w (List.mem_cons_of_mem _ h)
  unfold f_X8_atOutput_bent at hf
  obtain ⟨H, hH⟩ : ∃ z, z = s.heap := ⟨_, rfl⟩
  obtain ⟨locs, hlo⟩ : ∃ z : List Loc, z = [] := ⟨_, rfl⟩
  have hS : va_S A s.heap H locs := by rw [hH, hlo]; exact hS
  rw [← hH] at hP
  have hW : W p l e (headSpec wsX8_atOutput rmX8_atOutput_bent).room s m ([.ref (bM 0), .int x1, .ref (bM 9)] : List Value).toArray below meth c H locs 0 0 (MQ below (qI g A (cM g bM vM) r) ([.ref (bM 0), .int x1, .ref (bM 9)] : List Value).toArray s 0 0 A) (F0 m 0 ls []) := by
    refine lv_aload_n hx hb dX8_atOutput_0 rfl (lv_at hl 2 rfl) ?_
    refine lv_aload_n hx hb dX8_atOutput_1 rfl (lv_at hl 0 rfl) ?_
    refine lv_sipush (v := (152 : Int32)) hx hb dX8_atOutput_2 (by decide) ?_
    refine lv_iload_n hx hb dX8_atOutput_5 rfl (lv_at hl 1 rfl) ?_
    refine lv_iadd hx hb dX8_atOutput_6 ?_
    obtain ⟨r1, hg2, hf⟩ := o1_at hf
    refine k_viW ⟨hx, hb, hml, hown, htu⟩ hK hP hD hS hA hG (c_X8_get l g bM vM ((152 : Int32) + x1) r1 hg2) (cwV 1 htu (gU_V mw_6_20 hcX8_get) rfl rfl rfl hdX8_get ⟨Nat.le_of_ble_eq_true rfl, Nat.le_of_ble_eq_true rfl⟩) (q0 := 0) (ci := 8) (fs := fcM bM vM) (q := (RX8, TX8, 23)) rfl rfl rfl (As := [.int ((152 : Int32) + x1)]) (rest := [.ref (bM 9)]) rfl rfl hl.1 (Nat.le_of_ble_eq_true rfl) dX8_atOutput_7 (k1 := 0) (n1 := 0) rfl rfl ⟨Nat.zero_le _, Nat.zero_le _⟩ (fun H locs hP hD hS => ?_)
    obtain ⟨h3, hf⟩ := gd_in hf
    refine va_iald (D := g.1) (f := (vM.2.1 8)) hx hb hK hP 6 0 rfl rfl h3 dX8_atOutput_10 ?_
    have e4 := Option.some.inj hf
    exact k_iret hx hb hr hlocks hK hP hD hS e4 dX8_atOutput_11
  rw [hH, hlo] at hW
  exact hW
def f_X8_bitsAt_bent_L4 (vM : Vs) (self3 : Int32 → Int32 → Option (Int32)) (x2_1 : Int32) (x3_2 : Int32) : Option (Int32) :=
  o1 (f_X8_outputs vM) (fun (r6 : Int32) => if r6 ≤ x3_2 then some (x2_1) else o1 (f_X8_atOutput_bent vM x3_2) (fun (r10 : Int32) => self3 (x2_1 ||| (r10 <<< (x3_2 &&& 31))) (x3_2 + (1 : Int32))))
def f_X8_bitsAt_bent (vM : Vs) : Option (Int32) :=
  lp (f_X8_bitsAt_bent_L4 vM) (fun _ _ => none) FU (0 : Int32) (0 : Int32)
abbrev rmX8_bitsAt_bent : Room := { frames := 2, cells := 0, slots := 0, locals := 43 }
set_option maxHeartbeats 4000000 in
set_option maxRecDepth 100000 in
theorem c_X8_bitsAt_bent (l : Launch) (g : Gx) (bM : Nat → Nat) (vM : Vs) (r : Int32) (hf : f_X8_bitsAt_bent vM = some r) : CtI l yX8_bitsAt wsX8_bitsAt rmX8_bitsAt_bent g [.ref (bM 0), .ref (bM 9)] (cM g bM vM) (cM g bM vM) r 0 0 := by
  unfold CtI
  intro sz
  refine Met.ofW (cc := cX8_bitsAt) (maxL := 4) (ret := (some .int)) (by decide) rfl ?_
  intro p e s m args below meth c s₁ B hml hv
  obtain ⟨rfl, hsz, hP, hK, hD0, hG⟩ := hv
  have hx := B.exec
  have hb := B.bytes
  have hr := B.returns
  have hts := atoms_spec (ws := wsX8_bitsAt) B.pre
  have hown : s.vm.findClass RX8 = some m.cls := findClass_of_methodNamed B.named
  have hlocks := B.notSynchronized
  subst hsz
  have hD := hD0.self (sz := s.heap.size)
  generalize hAe : va_A (cM g bM vM) s.heap.size = A at hD hG ⊢
  have hA : ∀ q : Nat, s.heap.size ≤ q → A q := fun q h => by rw [← hAe]; exact Or.inr h
  clear hAe hD0
  have hS : va_S A s.heap s.heap [] := va_S.rf
  have hl := lv_entry ([.ref (bM 0), .ref (bM 9)]) (n := 4) (Nat.le_of_ble_eq_true rfl)
  rw [lg_entry_eq]
  generalize (lg_sl ([.ref (bM 0), .ref (bM 9)]) ++ List.replicate (4 - (lg_sl ([.ref (bM 0), .ref (bM 9)])).length) Slot.unset).toArray = ls at hl ⊢
  have hl : lv_has ls 4 [(0, .ref (bM 0)), (1, .ref (bM 9))] := hl
  have htu : ∀ w ∈ UW, w.before _ s = true := fun w h => hts w (List.mem_cons_of_mem _ h)
  unfold f_X8_bitsAt_bent at hf
  obtain ⟨H, hH⟩ : ∃ z, z = s.heap := ⟨_, rfl⟩
  obtain ⟨locs, hlo⟩ : ∃ z : List Loc, z = [] := ⟨_, rfl⟩
  have hS : va_S A s.heap H locs := by rw [hH, hlo]; exact hS
  rw [← hH] at hP
  have hW : W p l e (headSpec wsX8_bitsAt rmX8_bitsAt_bent).room s m ([.ref (bM 0), .ref (bM 9)] : List Value).toArray below meth c H locs 0 0 (MQ below (qI g A (cM g bM vM) r) ([.ref (bM 0), .ref (bM 9)] : List Value).toArray s 0 0 A) (F0 m 0 ls []) := by
    refine lv_iconst (v := (0 : Int32)) hx hb dX8_bitsAt_0 (by decide) ?_
    refine lv_istore_n (lv' := [(2, .int (0 : Int32)), (0, .ref (bM 0)), (1, .ref (bM 9))]) hx hb dX8_bitsAt_1 rfl hl (by decide) rfl (fun ls hl => ?_)
    refine lv_iconst (v := (0 : Int32)) hx hb dX8_bitsAt_2 (by decide) ?_
    refine lv_istore_n (lv' := [(3, .int (0 : Int32)), (2, .int (0 : Int32)), (0, .ref (bM 0)), (1, .ref (bM 9))]) hx hb dX8_bitsAt_3 rfl hl (by decide) rfl (fun ls hl => ?_)
    have hL4 : ∀ (x2_1 : Int32) (x3_2 : Int32), lp (f_X8_bitsAt_bent_L4 vM) (fun _ _ => none) FU x2_1 x3_2 = some r → ∀ (H : Heap) (locs : List Loc), va_P g.1 vwCl (cM g bM vM) H → va_D A (cM g bM vM) → va_S A s.heap H locs → ∀ ls : Array Slot, lv_has ls 4 [(0, .ref (bM 0)), (1, .ref (bM 9)), (2, .int x2_1), (3, .int x3_2)] → W p l e (headSpec wsX8_bitsAt rmX8_bitsAt_bent).room s m ([.ref (bM 0), .ref (bM 9)] : List Value).toArray below meth c H locs 0 0 (MQ below (qI g A (cM g bM vM) r) ([.ref (bM 0), .ref (bM 9)] : List Value).toArray s 0 0 A) (F0 m 4 ls []) := by
      refine lp_ind (T := Int32 → Int32 → Option (Int32)) (fun self3 => ∀ (x2_1 : Int32) (x3_2 : Int32), self3 x2_1 x3_2 = some r → ∀ (H : Heap) (locs : List Loc), va_P g.1 vwCl (cM g bM vM) H → va_D A (cM g bM vM) → va_S A s.heap H locs → ∀ ls : Array Slot, lv_has ls 4 [(0, .ref (bM 0)), (1, .ref (bM 9)), (2, .int x2_1), (3, .int x3_2)] → W p l e (headSpec wsX8_bitsAt rmX8_bitsAt_bent).room s m ([.ref (bM 0), .ref (bM 9)] : List Value).toArray below meth c H locs 0 0 (MQ below (qI g A (cM g bM vM) r) ([.ref (bM 0), .ref (bM 9)] : List Value).toArray s 0 0 A) (F0 m 4 ls [])) ?_ ?_ FU
      · intro x2_1 x3_2 hf; cases hf
      · intro self3 ih5 x2_1 x3_2 hf H locs hP hD hS ls hl
        unfold f_X8_bitsAt_bent_L4 at hf
        refine lv_iload_n hx hb dX8_bitsAt_4 rfl (lv_at hl 3 rfl) ?_
        refine lv_aload_n hx hb dX8_bitsAt_5 rfl (lv_at hl 0 rfl) ?_
        obtain ⟨r6, hg7, hf⟩ := o1_at hf
        refine k_viW ⟨hx, hb, hml, hown, htu⟩ hK hP hD hS hA hG (c_X8_outputs l g bM vM r6 hg7) (cwV 0 htu (gU_V mw_6_40 hcX8_outputs) rfl rfl rfl hdX8_outputs ⟨Nat.le_of_ble_eq_true rfl, Nat.le_of_ble_eq_true rfl⟩) (q0 := 0) (ci := 8) (fs := fcM bM vM) (q := (RX8, TX8, 23)) rfl rfl rfl (As := []) (rest := [.int x3_2]) rfl rfl hl.1 (Nat.le_of_ble_eq_true rfl) dX8_bitsAt_6 (k1 := 0) (n1 := 0) rfl rfl ⟨Nat.zero_le _, Nat.zero_le _⟩ (fun H locs hP hD hS => ?_)
        refine lv_icmp_ge (tgt := 29) hx hb dX8_bitsAt_9 (by decide) (fun c8 => ?_) (fun c8 => ?_)
        · have hf := it_t hf c8
          refine lv_iload_n hx hb dX8_bitsAt_29 rfl (lv_at hl 2 rfl) ?_
          have e9 := Option.some.inj hf
          exact k_iret hx hb hr hlocks hK hP hD hS e9 dX8_bitsAt_30
        · have hf := it_f hf c8
          refine lv_iload_n hx hb dX8_bitsAt_12 rfl (lv_at hl 2 rfl) ?_
          refine lv_aload_n hx hb dX8_bitsAt_13 rfl (lv_at hl 0 rfl) ?_
          refine lv_iload_n hx hb dX8_bitsAt_14 rfl (lv_at hl 3 rfl) ?_
          refine lv_aload_n hx hb dX8_bitsAt_15 rfl (lv_at hl 1 rfl) ?_
          obtain ⟨r10, hg11, hf⟩ := o1_at hf
          refine k_viW ⟨hx, hb, hml, hown, htu⟩ hK hP hD hS hA hG (c_X8_atOutput_bent l g bM vM x3_2 r10 hg11) (cwV 2 htu (gU_V mw_6_106 hcX8_atOutput) rfl rfl rfl hdX8_atOutput ⟨Nat.le_of_ble_eq_true rfl, Nat.le_of_ble_eq_true rfl⟩) (q0 := 0) (ci := 8) (fs := fcM bM vM) (q := (RX8, TX8, 23)) rfl rfl rfl (As := [.int x3_2, .ref (bM 9)]) (rest := [.int x2_1]) rfl rfl hl.1 (Nat.le_of_ble_eq_true rfl) dX8_bitsAt_16 (k1 := 0) (n1 := 0) rfl rfl ⟨Nat.zero_le _, Nat.zero_le _⟩ (fun H locs hP hD hS => ?_)
          refine lv_iload_n hx hb dX8_bitsAt_19 rfl (lv_at hl 3 rfl) ?_
          refine lv_ishl hx hb dX8_bitsAt_20 ?_
          refine lv_ior hx hb dX8_bitsAt_21 ?_
          refine lv_istore_n (lv' := [(2, .int (x2_1 ||| (r10 <<< (x3_2 &&& 31)))), (0, .ref (bM 0)), (1, .ref (bM 9)), (3, .int x3_2)]) hx hb dX8_bitsAt_22 rfl hl (by decide) rfl (fun ls hl => ?_)
          refine lv_iinc (v := (x3_2 + (1 : Int32))) (lv' := [(3, .int (x3_2 + (1 : Int32))), (2, .int (x2_1 ||| (r10 <<< (x3_2 &&& 31)))), (0, .ref (bM 0)), (1, .ref (bM 9))]) hx hb dX8_bitsAt_23 hl (k := 3) rfl rfl (by decide) rfl (fun ls hl => ?_)
          refine lv_goto (tgt := 4) hx hb dX8_bitsAt_26 (by decide) ?_
          exact ih5 (x2_1 ||| (r10 <<< (x3_2 &&& 31))) (x3_2 + (1 : Int32)) hf H locs hP hD hS _ (lv_sub hl [2, 3, 1, 0] rfl)
    exact hL4 (0 : Int32) (0 : Int32) hf H locs hP hD hS _ (lv_sub hl [2, 3, 1, 0] rfl)
  rw [hH, hlo] at hW
  exact hW
