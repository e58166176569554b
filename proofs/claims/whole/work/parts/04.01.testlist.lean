def f_X6_withoutBit (x0 : Int32) (x1 : Int32) : Option (Int32) :=
  some (((x0 &&& (((1 : Int32) <<< (x1 &&& 31)) - (1 : Int32))) ||| ((ius x0 (1 : Int32)) &&& ((((1 : Int32) <<< (x1 &&& 31)) - (1 : Int32)) ^^^ (-1 : Int32)))))
abbrev wsX6_withoutBit : List Cond := .code yX6_withoutBit cX6_withoutBit 3 (some .int) :: UW
abbrev rmX6_withoutBit : Room := { frames := 0, cells := 0, slots := 0, locals := 0 }
set_option maxHeartbeats 4000000 in
set_option maxRecDepth 100000 in
theorem c_X6_withoutBit (l : Launch) (g : Gx) (x0 : Int32) (x1 : Int32) (r : Int32) (hf : f_X6_withoutBit x0 x1 = some r) : CtI l yX6_withoutBit wsX6_withoutBit rmX6_withoutBit g [.int x0, .int x1] ([]) ([]) r 0 0 := by
  unfold CtI
  intro sz
  refine Met.ofW (cc := cX6_withoutBit) (maxL := 3) (ret := (some .int)) (by decide) rfl ?_
  intro p e s m args below meth c s₁ B hml hv
  obtain ⟨rfl, hsz, hP, hK, hD0, hG⟩ := hv
  have hx := B.exec
  have hb := B.bytes
  have hr := B.returns
  have hts := atoms_spec (ws := wsX6_withoutBit) B.pre
  have hown : s.vm.findClass RX6 = some m.cls := findClass_of_methodNamed B.named
  have hlocks := B.notSynchronized
  subst hsz
  have hD := hD0.self (sz := s.heap.size)
  generalize hAe : va_A ([]) s.heap.size = A at hD hG ⊢
  have hA : ∀ q : Nat, s.heap.size ≤ q → A q := fun q h => by rw [← hAe]; exact Or.inr h
  clear hAe hD0
  have hS : va_S A s.heap s.heap [] := va_S.rf
  have hl := lv_entry ([.int x0, .int x1]) (n := 3) (Nat.le_of_ble_eq_true rfl)
  rw [lg_entry_eq]
  generalize (lg_sl ([.int x0, .int x1]) ++ List.replicate (3 - (lg_sl ([.int x0, .int x1])).length) Slot.unset).toArray = ls at hl ⊢
  have hl : lv_has ls 3 [(0, .int x0), (1, .int x1)] := hl
  have htu : ∀ w ∈ UW, w.before _ s = true := fun w h => hts w (List.mem_cons_of_mem _ h)
  unfold f_X6_withoutBit at hf
  obtain ⟨H, hH⟩ : ∃ z, z = s.heap := ⟨_, rfl⟩
  obtain ⟨locs, hlo⟩ : ∃ z : List Loc, z = [] := ⟨_, rfl⟩
  have hS : va_S A s.heap H locs := by rw [hH, hlo]; exact hS
  rw [← hH] at hP
  have hW : W p l e (headSpec wsX6_withoutBit rmX6_withoutBit).room s m ([.int x0, .int x1] : List Value).toArray below meth c H locs 0 0 (MQ below (qI g A ([]) r) ([.int x0, .int x1] : List Value).toArray s 0 0 A) (F0 m 0 ls []) := by
    refine lv_iconst (v := (1 : Int32)) hx hb dX6_withoutBit_0 (by decide) ?_
    refine lv_iload_n hx hb dX6_withoutBit_1 rfl (lv_at hl 1 rfl) ?_
    refine lv_ishl hx hb dX6_withoutBit_2 ?_
    refine lv_iconst (v := (1 : Int32)) hx hb dX6_withoutBit_3 (by decide) ?_
    refine lv_isub hx hb dX6_withoutBit_4 ?_
    refine lv_istore_n (lv' := [(2, .int (((1 : Int32) <<< (x1 &&& 31)) - (1 : Int32))), (0, .int x0), (1, .int x1)]) hx hb dX6_withoutBit_5 rfl hl (by decide) rfl (fun ls hl => ?_)
    refine lv_iload_n hx hb dX6_withoutBit_6 rfl (lv_at hl 1 rfl) ?_
    refine lv_iload_n hx hb dX6_withoutBit_7 rfl (lv_at hl 0 rfl) ?_
    refine lv_iand hx hb dX6_withoutBit_8 ?_
    refine lv_iload_n hx hb dX6_withoutBit_9 rfl (lv_at hl 1 rfl) ?_
    refine lv_iconst (v := (1 : Int32)) hx hb dX6_withoutBit_10 (by decide) ?_
    refine lv_iushr (v := (ius x0 (1 : Int32))) hx hb dX6_withoutBit_11 rfl ?_
    refine lv_iload_n hx hb dX6_withoutBit_12 rfl (lv_at hl 0 rfl) ?_
    refine lv_iconst (v := (-1 : Int32)) hx hb dX6_withoutBit_13 (by decide) ?_
    refine lv_ixor hx hb dX6_withoutBit_14 ?_
    refine lv_iand hx hb dX6_withoutBit_15 ?_
    refine lv_ior hx hb dX6_withoutBit_16 ?_
    have e1 := Option.some.inj hf
    exact k_iret hx hb hr hlocks hK hP hD hS e1 dX6_withoutBit_17
  rw [hH, hlo] at hW
  exact hW
def f_X6_clearSeen_L2 (self3 : Int32 → Vs → Option (Vs)) (x1_1 : Int32) (vT_2 : Vs) : Option (Vs) :=
  if (6 : Int32) ≤ x1_1 then some (vT_2) else gd (inb x1_1 6) (bn (sI vT_2 3 (x1_1).toNatClampNeg (0 : Int32)) (fun (vT_9 : Vs) => gd (inb x1_1 6) (bn (sI vT_9 4 (x1_1).toNatClampNeg (0 : Int32)) (fun (vT_11 : Vs) => self3 (x1_1 + (1 : Int32)) vT_11))))
def f_X6_clearSeen (vT : Vs) : Option (Vs) :=
  lp f_X6_clearSeen_L2 (fun _ _ => none) FU (0 : Int32) vT
abbrev wsX6_clearSeen : List Cond := .code yX6_clearSeen cX6_clearSeen 2 none :: UW
abbrev rmX6_clearSeen : Room := { frames := 0, cells := 0, slots := 0, locals := 0 }
set_option maxHeartbeats 4000000 in
set_option maxRecDepth 100000 in
theorem c_X6_clearSeen (l : Launch) (g : Gx) (bT : Nat → Nat) (vT : Vs) (vT1 : Vs) (hf : f_X6_clearSeen vT = some vT1) : CtV l yX6_clearSeen wsX6_clearSeen rmX6_clearSeen g [.ref (bT 0)] (cT g bT vT) (cT g bT vT1) 0 0 := by
  unfold CtV
  intro sz
  refine Met.ofW (cc := cX6_clearSeen) (maxL := 2) (ret := none) (by decide) rfl ?_
  intro p e s m args below meth c s₁ B hml hv
  obtain ⟨rfl, hsz, hP, hK, hD0, hG⟩ := hv
  have hx := B.exec
  have hb := B.bytes
  have hr := B.returns
  have hts := atoms_spec (ws := wsX6_clearSeen) B.pre
  have hown : s.vm.findClass RX6 = some m.cls := findClass_of_methodNamed B.named
  have hlocks := B.notSynchronized
  subst hsz
  have hD := hD0.self (sz := s.heap.size)
  generalize hAe : va_A (cT g bT vT) s.heap.size = A at hD hG ⊢
  have hA : ∀ q : Nat, s.heap.size ≤ q → A q := fun q h => by rw [← hAe]; exact Or.inr h
  clear hAe hD0
  have hS : va_S A s.heap s.heap [] := va_S.rf
  have hl := lv_entry ([.ref (bT 0)]) (n := 2) (Nat.le_of_ble_eq_true rfl)
  rw [lg_entry_eq]
  generalize (lg_sl ([.ref (bT 0)]) ++ List.replicate (2 - (lg_sl ([.ref (bT 0)])).length) Slot.unset).toArray = ls at hl ⊢
  have hl : lv_has ls 2 [(0, .ref (bT 0))] := hl
  have htu : ∀ w ∈ UW, w.before _ s = true := fun w h => hts w (List.mem_cons_of_mem _ h)
  have k_1_134 := htu _ mw_1_134
  have k_1_136 := htu _ mw_1_136
  unfold f_X6_clearSeen at hf
  obtain ⟨H, hH⟩ : ∃ z, z = s.heap := ⟨_, rfl⟩
  obtain ⟨locs, hlo⟩ : ∃ z : List Loc, z = [] := ⟨_, rfl⟩
  have hS : va_S A s.heap H locs := by rw [hH, hlo]; exact hS
  rw [← hH] at hP
  have hW : W p l e (headSpec wsX6_clearSeen rmX6_clearSeen).room s m ([.ref (bT 0)] : List Value).toArray below meth c H locs 0 0 (MQ below (qV g A (cT g bT vT1)) ([.ref (bT 0)] : List Value).toArray s 0 0 A) (F0 m 0 ls []) := by
    refine lv_iconst (v := (0 : Int32)) hx hb dX6_clearSeen_0 (by decide) ?_
    refine lv_istore_n (lv' := [(1, .int (0 : Int32)), (0, .ref (bT 0))]) hx hb dX6_clearSeen_1 rfl hl (by decide) rfl (fun ls hl => ?_)
    have hL4 : ∀ (x1_1 : Int32) (vT_2 : Vs), lp f_X6_clearSeen_L2 (fun _ _ => none) FU x1_1 vT_2 = some vT1 → ∀ (H : Heap) (locs : List Loc), va_P g.1 vwCl (cT g bT vT_2) H → va_D A (cT g bT vT_2) → va_S A s.heap H locs → ∀ ls : Array Slot, lv_has ls 2 [(0, .ref (bT 0)), (1, .int x1_1)] → W p l e (headSpec wsX6_clearSeen rmX6_clearSeen).room s m ([.ref (bT 0)] : List Value).toArray below meth c H locs 0 0 (MQ below (qV g A (cT g bT vT1)) ([.ref (bT 0)] : List Value).toArray s 0 0 A) (F0 m 2 ls []) := by
      refine lp_ind (T := Int32 → Vs → Option (Vs)) (fun self3 => ∀ (x1_1 : Int32) (vT_2 : Vs), self3 x1_1 vT_2 = some vT1 → ∀ (H : Heap) (locs : List Loc), va_P g.1 vwCl (cT g bT vT_2) H → va_D A (cT g bT vT_2) → va_S A s.heap H locs → ∀ ls : Array Slot, lv_has ls 2 [(0, .ref (bT 0)), (1, .int x1_1)] → W p l e (headSpec wsX6_clearSeen rmX6_clearSeen).room s m ([.ref (bT 0)] : List Value).toArray below meth c H locs 0 0 (MQ below (qV g A (cT g bT vT1)) ([.ref (bT 0)] : List Value).toArray s 0 0 A) (F0 m 2 ls [])) ?_ ?_ FU
      · intro x1_1 vT_2 hf; cases hf
      · intro self3 ih5 x1_1 vT_2 hf H locs hP hD hS ls hl
        unfold f_X6_clearSeen_L2 at hf
        refine lv_iload_n hx hb dX6_clearSeen_2 rfl (lv_at hl 1 rfl) ?_
        refine lv_bipush (v := (6 : Int32)) hx hb dX6_clearSeen_3 (by decide) ?_
        refine lv_icmp_ge (tgt := 28) hx hb dX6_clearSeen_5 (by decide) (fun c6 => ?_) (fun c6 => ?_)
        · have hf := it_t hf c6
          have e7 := Option.some.inj hf
          rw [e7] at hP hD
          exact k_vret hx hb hr hlocks hK hP hD hS dX6_clearSeen_28
        · have hf := it_f hf c6
          refine lv_aload_n hx hb dX6_clearSeen_8 rfl (lv_at hl 0 rfl) ?_
          refine va_get (D := g.1) (ci := 6) (fs := fcT bT vT_2) (v := .ref (bT 4)) (C := RX6) (T := TX6) (N := 5) hx hb htu hinX6 hown hK hP 0 rfl rfl 3 (by decide) k_1_134 (fun _ h9 => h9) rfl dX6_clearSeen_9 ?_
          refine lv_iload_n hx hb dX6_clearSeen_12 rfl (lv_at hl 1 rfl) ?_
          refine lv_iconst (v := (0 : Int32)) hx hb dX6_clearSeen_13 (by decide) ?_
          obtain ⟨h8, hf⟩ := gd_in hf
          refine va_iast (D := g.1) (f := (vT_2.2.1 3)) hx hb hK hP hD hS 3 0 rfl rfl h8 dX6_clearSeen_14 (fun H locs hP hD hS => ?_)
          obtain ⟨vT_9, evT_9⟩ : ∃ z, z = sI vT_2 3 (x1_1).toNatClampNeg (0 : Int32) := ⟨_, rfl⟩
          have hf := bn_at hf evT_9
          have hP : va_P g.1 vwCl (cT g bT vT_9) H := by rw [evT_9]; exact hP
          have hD : va_D A (cT g bT vT_9) := by rw [evT_9]; exact hD
          refine lv_aload_n hx hb dX6_clearSeen_15 rfl (lv_at hl 0 rfl) ?_
          refine va_get (D := g.1) (ci := 6) (fs := fcT bT vT_9) (v := .ref (bT 5)) (C := RX6) (T := TX6) (N := 5) hx hb htu hinX6 hown hK hP 0 rfl rfl 4 (by decide) k_1_136 (fun _ h9 => h9) rfl dX6_clearSeen_16 ?_
          refine lv_iload_n hx hb dX6_clearSeen_19 rfl (lv_at hl 1 rfl) ?_
          refine lv_iconst (v := (0 : Int32)) hx hb dX6_clearSeen_20 (by decide) ?_
          obtain ⟨h10, hf⟩ := gd_in hf
          refine va_iast (D := g.1) (f := (vT_9.2.1 4)) hx hb hK hP hD hS 4 0 rfl rfl h10 dX6_clearSeen_21 (fun H locs hP hD hS => ?_)
          obtain ⟨vT_11, evT_11⟩ : ∃ z, z = sI vT_9 4 (x1_1).toNatClampNeg (0 : Int32) := ⟨_, rfl⟩
          have hf := bn_at hf evT_11
          have hP : va_P g.1 vwCl (cT g bT vT_11) H := by rw [evT_11]; exact hP
          have hD : va_D A (cT g bT vT_11) := by rw [evT_11]; exact hD
          refine lv_iinc (v := (x1_1 + (1 : Int32))) (lv' := [(1, .int (x1_1 + (1 : Int32))), (0, .ref (bT 0))]) hx hb dX6_clearSeen_22 hl (k := 1) rfl rfl (by decide) rfl (fun ls hl => ?_)
          refine lv_goto (tgt := 2) hx hb dX6_clearSeen_25 (by decide) ?_
          exact ih5 (x1_1 + (1 : Int32)) vT_11 hf H locs hP hD hS _ (lv_sub hl [1, 0] rfl)
    exact hL4 (0 : Int32) vT hf H locs hP hD hS _ (lv_sub hl [1, 0] rfl)
  rw [hH, hlo] at hW
  exact hW
def f_X6_clear (vT : Vs) : Option (Vs) :=
  bn (sF vT 0 (0 : Int32)) (fun (vT_1 : Vs) => o1 (f_X6_clearSeen vT_1) (fun (vT_2 : Vs) => some (vT_2)))
abbrev wsX6_clear : List Cond := .code yX6_clear cX6_clear 1 none :: UW
abbrev rmX6_clear : Room := { frames := 1, cells := 0, slots := 0, locals := 21 }
set_option maxHeartbeats 4000000 in
set_option maxRecDepth 100000 in
theorem c_X6_clear (l : Launch) (g : Gx) (bT : Nat → Nat) (vT : Vs) (vT1 : Vs) (hf : f_X6_clear vT = some vT1) : CtV l yX6_clear wsX6_clear rmX6_clear g [.ref (bT 0)] (cT g bT vT) (cT g bT vT1) 0 0 := by
  unfold CtV
  intro sz
  refine Met.ofW (cc := cX6_clear) (maxL := 1) (ret := none) (by decide) rfl ?_
  intro p e s m args below meth c s₁ B hml hv
  obtain ⟨rfl, hsz, hP, hK, hD0, hG⟩ := hv
  have hx := B.exec
  have hb := B.bytes
  have hr := B.returns
  have hts := atoms_spec (ws := wsX6_clear) B.pre
  have hown : s.vm.findClass RX6 = some m.cls := findClass_of_methodNamed B.named
  have hlocks := B.notSynchronized
  subst hsz
  have hD := hD0.self (sz := s.heap.size)
  generalize hAe : va_A (cT g bT vT) s.heap.size = A at hD hG ⊢
  have hA : ∀ q : Nat, s.heap.size ≤ q → A q := fun q h => by rw [← hAe]; exact Or.inr h
  clear hAe hD0
  have hS : va_S A s.heap s.heap [] := va_S.rf
  have hl := lv_entry ([.ref (bT 0)]) (n := 1) (Nat.le_of_ble_eq_true rfl)
  rw [lg_entry_eq]
  generalize (lg_sl ([.ref (bT 0)]) ++ List.replicate (1 - (lg_sl ([.ref (bT 0)])).length) Slot.unset).toArray = ls at hl ⊢
  have hl : lv_has ls 1 [(0, .ref (bT 0))] := hl
  have htu : ∀ w ∈ UW, w.before _ s = true := fun w h => hts w (List.mem_cons_of_mem _ h)
  have k_1_127 := htu _ mw_1_127
  unfold f_X6_clear at hf
  obtain ⟨H, hH⟩ : ∃ z, z = s.heap := ⟨_, rfl⟩
  obtain ⟨locs, hlo⟩ : ∃ z : List Loc, z = [] := ⟨_, rfl⟩
  have hS : va_S A s.heap H locs := by rw [hH, hlo]; exact hS
  rw [← hH] at hP
  have hW : W p l e (headSpec wsX6_clear rmX6_clear).room s m ([.ref (bT 0)] : List Value).toArray below meth c H locs 0 0 (MQ below (qV g A (cT g bT vT1)) ([.ref (bT 0)] : List Value).toArray s 0 0 A) (F0 m 0 ls []) := by
    refine lv_aload_n hx hb dX6_clear_0 rfl (lv_at hl 0 rfl) ?_
    refine lv_iconst (v := (0 : Int32)) hx hb dX6_clear_1 (by decide) ?_
    refine va_put (D := g.1) (ci := 6) (fs := fcT bT vT) (v := .int (0 : Int32)) (ty := .int) (C := RX6) (T := TX6) (N := 5) hx hb htu hinX6 tyX6 tyX6_ok nmX6 hown hK hP hD hS 0 rfl rfl 0 (by decide) k_1_127 (fun _ h9 => h9) rfl (by decide +kernel) rfl rfl (Nat.le_of_ble_eq_true rfl) dX6_clear_2 (fun H locs hP hD hS => ?_)
    obtain ⟨vT_1, evT_1⟩ : ∃ z, z = sF vT 0 (0 : Int32) := ⟨_, rfl⟩
    have hf := bn_at hf evT_1
    have hP : va_P g.1 vwCl (cT g bT vT_1) H := by rw [evT_1]; exact hP
    have hD : va_D A (cT g bT vT_1) := by rw [evT_1]; exact hD
    refine lv_aload_n hx hb dX6_clear_5 rfl (lv_at hl 0 rfl) ?_
    obtain ⟨vT_2, hg3, hf⟩ := o1_at hf
    refine k_vvW ⟨hx, hb, hml, hown, htu⟩ hK hP hD hS hA hG (c_X6_clearSeen l g bT vT_1 vT_2 hg3) (cwV 0 htu (gU_V mw_3_190 hcX6_clearSeen) rfl rfl rfl hdX6_clearSeen ⟨Nat.le_of_ble_eq_true rfl, Nat.le_of_ble_eq_true rfl⟩) (q0 := 0) (ci := 6) (fs := fcT bT vT_1) (q := (RX6, TX6, 5)) rfl rfl rfl (As := []) (rest := []) rfl rfl hl.1 (Nat.le_of_ble_eq_true rfl) dX6_clear_6 (k1 := 0) (n1 := 0) rfl rfl ⟨Nat.zero_le _, Nat.zero_le _⟩ (fun H locs hP hD hS => ?_)
    have e4 := Option.some.inj hf
    rw [e4] at hP hD
    exact k_vret hx hb hr hlocks hK hP hD hS dX6_clear_9
  rw [hH, hlo] at hW
  exact hW
def f_X6_copyFrom (vT : Vs) (vU : Vs) : Option (Vs) :=
  bn (sF vT 0 (vU.1 0)) (fun (vT_1 : Vs) => bn (sA vT_1 1 (va_cpy (vU.2.1 1) (vT_1.2.1 1) ((0 : Int32)).toNatClampNeg ((0 : Int32)).toNatClampNeg ((16 : Int32)).toNatClampNeg)) (fun (vT_2 : Vs) => bn (sA vT_2 2 (va_cpy (vU.2.1 2) (vT_2.2.1 2) ((0 : Int32)).toNatClampNeg ((0 : Int32)).toNatClampNeg ((16 : Int32)).toNatClampNeg)) (fun (vT_3 : Vs) => bn (sA vT_3 3 (va_cpy (vU.2.1 3) (vT_3.2.1 3) ((0 : Int32)).toNatClampNeg ((0 : Int32)).toNatClampNeg ((6 : Int32)).toNatClampNeg)) (fun (vT_4 : Vs) => bn (sA vT_4 4 (va_cpy (vU.2.1 4) (vT_4.2.1 4) ((0 : Int32)).toNatClampNeg ((0 : Int32)).toNatClampNeg ((6 : Int32)).toNatClampNeg)) (fun (vT_5 : Vs) => some (vT_5))))))
abbrev wsX6_copyFrom : List Cond := .code yX6_copyFrom cX6_copyFrom 2 none :: UW
abbrev rmX6_copyFrom : Room := { frames := 1, cells := 0, slots := 0, locals := 60 }
set_option maxHeartbeats 4000000 in
set_option maxRecDepth 100000 in
theorem c_X6_copyFrom (l : Launch) (g : Gx) (bT : Nat → Nat) (vT : Vs) (bU : Nat → Nat) (vU : Vs) (vT1 : Vs) (hf : f_X6_copyFrom vT vU = some vT1) : CtV l yX6_copyFrom wsX6_copyFrom rmX6_copyFrom g [.ref (bT 0), .ref (bU 0)] (cT g bT vT ++ (cT g bU vU)) (cT g bT vT1 ++ (cT g bU vU)) 0 0 := by
  unfold CtV
  intro sz
  refine Met.ofW (cc := cX6_copyFrom) (maxL := 2) (ret := none) (by decide) rfl ?_
  intro p e s m args below meth c s₁ B hml hv
  obtain ⟨rfl, hsz, hP, hK, hD0, hG⟩ := hv
  have hx := B.exec
  have hb := B.bytes
  have hr := B.returns
  have hts := atoms_spec (ws := wsX6_copyFrom) B.pre
  have hown : s.vm.findClass RX6 = some m.cls := findClass_of_methodNamed B.named
  have hlocks := B.notSynchronized
  subst hsz
  have hD := hD0.self (sz := s.heap.size)
  generalize hAe : va_A (cT g bT vT ++ (cT g bU vU)) s.heap.size = A at hD hG ⊢
  have hA : ∀ q : Nat, s.heap.size ≤ q → A q := fun q h => by rw [← hAe]; exact Or.inr h
  clear hAe hD0
  have hS : va_S A s.heap s.heap [] := va_S.rf
  have hl := lv_entry ([.ref (bT 0), .ref (bU 0)]) (n := 2) (Nat.le_of_ble_eq_true rfl)
  rw [lg_entry_eq]
  generalize (lg_sl ([.ref (bT 0), .ref (bU 0)]) ++ List.replicate (2 - (lg_sl ([.ref (bT 0), .ref (bU 0)])).length) Slot.unset).toArray = ls at hl ⊢
  have hl : lv_has ls 2 [(0, .ref (bT 0)), (1, .ref (bU 0))] := hl
  have htu : ∀ w ∈ UW, w.before _ s = true := fun w h => hts w (List.mem_cons_of_mem _ h)
  have k_1_127 := htu _ mw_1_127
  have k_1_130 := htu _ mw_1_130
  have k_2_234 := htu _ mw_2_234
  have k_2_229 := htu _ mw_2_229
  have k_2_228 := htu _ mw_2_228
  have k_1_19 := htu _ mw_1_19
  have k_1_132 := htu _ mw_1_132
  have k_1_134 := htu _ mw_1_134
  have k_1_136 := htu _ mw_1_136
  unfold f_X6_copyFrom at hf
  obtain ⟨H, hH⟩ : ∃ z, z = s.heap := ⟨_, rfl⟩
  obtain ⟨locs, hlo⟩ : ∃ z : List Loc, z = [] := ⟨_, rfl⟩
  have hS : va_S A s.heap H locs := by rw [hH, hlo]; exact hS
  rw [← hH] at hP
  have hW : W p l e (headSpec wsX6_copyFrom rmX6_copyFrom).room s m ([.ref (bT 0), .ref (bU 0)] : List Value).toArray below meth c H locs 0 0 (MQ below (qV g A (cT g bT vT1 ++ (cT g bU vU))) ([.ref (bT 0), .ref (bU 0)] : List Value).toArray s 0 0 A) (F0 m 0 ls []) := by
    refine lv_aload_n hx hb dX6_copyFrom_0 rfl (lv_at hl 0 rfl) ?_
    refine lv_aload_n hx hb dX6_copyFrom_1 rfl (lv_at hl 1 rfl) ?_
    refine va_get (D := g.1) (ci := 6) (fs := fcT bU vU) (v := .int (vU.1 0)) (C := RX6) (T := TX6) (N := 5) hx hb htu hinX6 hown hK hP 5 rfl rfl 0 (by decide) k_1_127 (fun _ h9 => h9) rfl dX6_copyFrom_2 ?_
    refine va_put (D := g.1) (ci := 6) (fs := fcT bT vT) (v := .int (vU.1 0)) (ty := .int) (C := RX6) (T := TX6) (N := 5) hx hb htu hinX6 tyX6 tyX6_ok nmX6 hown hK hP hD hS 0 rfl rfl 0 (by decide) k_1_127 (fun _ h9 => h9) rfl (by decide +kernel) rfl rfl (Nat.le_of_ble_eq_true rfl) dX6_copyFrom_5 (fun H locs hP hD hS => ?_)
    obtain ⟨vT_1, evT_1⟩ : ∃ z, z = sF vT 0 (vU.1 0) := ⟨_, rfl⟩
    have hf := bn_at hf evT_1
    have hP : va_P g.1 vwCl (cT g bT vT_1 ++ (cT g bU vU)) H := by rw [evT_1]; exact hP
    have hD : va_D A (cT g bT vT_1 ++ (cT g bU vU)) := by rw [evT_1]; exact hD
    refine lv_aload_n hx hb dX6_copyFrom_8 rfl (lv_at hl 1 rfl) ?_
    refine va_get (D := g.1) (ci := 6) (fs := fcT bU vU) (v := .ref (bU 2)) (C := RX6) (T := TX6) (N := 5) hx hb htu hinX6 hown hK hP 5 rfl rfl 1 (by decide) k_1_130 (fun _ h9 => h9) rfl dX6_copyFrom_9 ?_
    refine lv_iconst (v := (0 : Int32)) hx hb dX6_copyFrom_12 (by decide) ?_
    refine lv_aload_n hx hb dX6_copyFrom_13 rfl (lv_at hl 0 rfl) ?_
    refine va_get (D := g.1) (ci := 6) (fs := fcT bT vT_1) (v := .ref (bT 2)) (C := RX6) (T := TX6) (N := 5) hx hb htu hinX6 hown hK hP 0 rfl rfl 1 (by decide) k_1_130 (fun _ h9 => h9) rfl dX6_copyFrom_14 ?_
    refine lv_iconst (v := (0 : Int32)) hx hb dX6_copyFrom_17 (by decide) ?_
    refine lv_bipush (v := (16 : Int32)) hx hb dX6_copyFrom_18 (by decide) ?_
    refine va_copyi (D := g.1) (f := (vU.2.1 1)) (g := (vT_1.2.1 1)) (ty := .int) hx hb (hml.trans hl.1.symm) hown k_2_234 k_2_229 k_2_228 k_1_19 hK hP hD hS 6 1 0 0 rfl rfl rfl rfl rfl (by decide) (by decide) (by decide) (by decide) (by decide) (fun _ _ => rfl) (Nat.le_of_ble_eq_true rfl) (Nat.le_of_ble_eq_true rfl) dX6_copyFrom_20 (fun H locs hP hD hS => ?_)
    obtain ⟨vT_2, evT_2⟩ : ∃ z, z = sA vT_1 1 (va_cpy (vU.2.1 1) (vT_1.2.1 1) ((0 : Int32)).toNatClampNeg ((0 : Int32)).toNatClampNeg ((16 : Int32)).toNatClampNeg) := ⟨_, rfl⟩
    have hf := bn_at hf evT_2
    have hP : va_P g.1 vwCl (cT g bT vT_2 ++ (cT g bU vU)) H := by rw [evT_2]; exact hP
    have hD : va_D A (cT g bT vT_2 ++ (cT g bU vU)) := by rw [evT_2]; exact hD
    refine lv_aload_n hx hb dX6_copyFrom_23 rfl (lv_at hl 1 rfl) ?_
    refine va_get (D := g.1) (ci := 6) (fs := fcT bU vU) (v := .ref (bU 3)) (C := RX6) (T := TX6) (N := 5) hx hb htu hinX6 hown hK hP 5 rfl rfl 2 (by decide) k_1_132 (fun _ h9 => h9) rfl dX6_copyFrom_24 ?_
    refine lv_iconst (v := (0 : Int32)) hx hb dX6_copyFrom_27 (by decide) ?_
    refine lv_aload_n hx hb dX6_copyFrom_28 rfl (lv_at hl 0 rfl) ?_
    refine va_get (D := g.1) (ci := 6) (fs := fcT bT vT_2) (v := .ref (bT 3)) (C := RX6) (T := TX6) (N := 5) hx hb htu hinX6 hown hK hP 0 rfl rfl 2 (by decide) k_1_132 (fun _ h9 => h9) rfl dX6_copyFrom_29 ?_
    refine lv_iconst (v := (0 : Int32)) hx hb dX6_copyFrom_32 (by decide) ?_
    refine lv_bipush (v := (16 : Int32)) hx hb dX6_copyFrom_33 (by decide) ?_
    refine va_copyi (D := g.1) (f := (vU.2.1 2)) (g := (vT_2.2.1 2)) (ty := .int) hx hb (hml.trans hl.1.symm) hown k_2_234 k_2_229 k_2_228 k_1_19 hK hP hD hS 7 2 0 0 rfl rfl rfl rfl rfl (by decide) (by decide) (by decide) (by decide) (by decide) (fun _ _ => rfl) (Nat.le_of_ble_eq_true rfl) (Nat.le_of_ble_eq_true rfl) dX6_copyFrom_35 (fun H locs hP hD hS => ?_)
    obtain ⟨vT_3, evT_3⟩ : ∃ z, z = sA vT_2 2 (va_cpy (vU.2.1 2) (vT_2.2.1 2) ((0 : Int32)).toNatClampNeg ((0 : Int32)).toNatClampNeg ((16 : Int32)).toNatClampNeg) := ⟨_, rfl⟩
    have hf := bn_at hf evT_3
    have hP : va_P g.1 vwCl (cT g bT vT_3 ++ (cT g bU vU)) H := by rw [evT_3]; exact hP
    have hD : va_D A (cT g bT vT_3 ++ (cT g bU vU)) := by rw [evT_3]; exact hD
    refine lv_aload_n hx hb dX6_copyFrom_38 rfl (lv_at hl 1 rfl) ?_
    refine va_get (D := g.1) (ci := 6) (fs := fcT bU vU) (v := .ref (bU 4)) (C := RX6) (T := TX6) (N := 5) hx hb htu hinX6 hown hK hP 5 rfl rfl 3 (by decide) k_1_134 (fun _ h9 => h9) rfl dX6_copyFrom_39 ?_
    refine lv_iconst (v := (0 : Int32)) hx hb dX6_copyFrom_42 (by decide) ?_
    refine lv_aload_n hx hb dX6_copyFrom_43 rfl (lv_at hl 0 rfl) ?_
    refine va_get (D := g.1) (ci := 6) (fs := fcT bT vT_3) (v := .ref (bT 4)) (C := RX6) (T := TX6) (N := 5) hx hb htu hinX6 hown hK hP 0 rfl rfl 3 (by decide) k_1_134 (fun _ h9 => h9) rfl dX6_copyFrom_44 ?_
    refine lv_iconst (v := (0 : Int32)) hx hb dX6_copyFrom_47 (by decide) ?_
    refine lv_bipush (v := (6 : Int32)) hx hb dX6_copyFrom_48 (by decide) ?_
    refine va_copyi (D := g.1) (f := (vU.2.1 3)) (g := (vT_3.2.1 3)) (ty := .int) hx hb (hml.trans hl.1.symm) hown k_2_234 k_2_229 k_2_228 k_1_19 hK hP hD hS 8 3 0 0 rfl rfl rfl rfl rfl (by decide) (by decide) (by decide) (by decide) (by decide) (fun _ _ => rfl) (Nat.le_of_ble_eq_true rfl) (Nat.le_of_ble_eq_true rfl) dX6_copyFrom_50 (fun H locs hP hD hS => ?_)
    obtain ⟨vT_4, evT_4⟩ : ∃ z, z = sA vT_3 3 (va_cpy (vU.2.1 3) (vT_3.2.1 3) ((0 : Int32)).toNatClampNeg ((0 : Int32)).toNatClampNeg ((6 : Int32)).toNatClampNeg) := ⟨_, rfl⟩
    have hf := bn_at hf evT_4
    have hP : va_P g.1 vwCl (cT g bT vT_4 ++ (cT g bU vU)) H := by rw [evT_4]; exact hP
    have hD : va_D A (cT g bT vT_4 ++ (cT g bU vU)) := by rw [evT_4]; exact hD
    refine lv_aload_n hx hb dX6_copyFrom_53 rfl (lv_at hl 1 rfl) ?_
    refine va_get (D := g.1) (ci := 6) (fs := fcT bU vU) (v := .ref (bU 5)) (C := RX6) (T := TX6) (N := 5) hx hb htu hinX6 hown hK hP 5 rfl rfl 4 (by decide) k_1_136 (fun _ h9 => h9) rfl dX6_copyFrom_54 ?_
    refine lv_iconst (v := (0 : Int32)) hx hb dX6_copyFrom_57 (by decide) ?_
    refine lv_aload_n hx hb dX6_copyFrom_58 rfl (lv_at hl 0 rfl) ?_
    refine va_get (D := g.1) (ci := 6) (fs := fcT bT vT_4) (v := .ref (bT 5)) (C := RX6) (T := TX6) (N := 5) hx hb htu hinX6 hown hK hP 0 rfl rfl 4 (by decide) k_1_136 (fun _ h9 => h9) rfl dX6_copyFrom_59 ?_
    refine lv_iconst (v := (0 : Int32)) hx hb dX6_copyFrom_62 (by decide) ?_
    refine lv_bipush (v := (6 : Int32)) hx hb dX6_copyFrom_63 (by decide) ?_
    refine va_copyi (D := g.1) (f := (vU.2.1 4)) (g := (vT_4.2.1 4)) (ty := .int) hx hb (hml.trans hl.1.symm) hown k_2_234 k_2_229 k_2_228 k_1_19 hK hP hD hS 9 4 0 0 rfl rfl rfl rfl rfl (by decide) (by decide) (by decide) (by decide) (by decide) (fun _ _ => rfl) (Nat.le_of_ble_eq_true rfl) (Nat.le_of_ble_eq_true rfl) dX6_copyFrom_65 (fun H locs hP hD hS => ?_)
    obtain ⟨vT_5, evT_5⟩ : ∃ z, z = sA vT_4 4 (va_cpy (vU.2.1 4) (vT_4.2.1 4) ((0 : Int32)).toNatClampNeg ((0 : Int32)).toNatClampNeg ((6 : Int32)).toNatClampNeg) := ⟨_, rfl⟩
    have hf := bn_at hf evT_5
    have hP : va_P g.1 vwCl (cT g bT vT_5 ++ (cT g bU vU)) H := by rw [evT_5]; exact hP
    have hD : va_D A (cT g bT vT_5 ++ (cT g bU vU)) := by rw [evT_5]; exact hD
    have e6 := Option.some.inj hf
    rw [e6] at hP hD
    exact k_vret hx hb hr hlocks hK hP hD hS dX6_copyFrom_68
  rw [hH, hlo] at hW
  exact hW
def f_X6_isFull (vT : Vs) : Option (Int32) :=
  jn (fun (t1 : Int32) => gd (isB t1) (some (t1))) (fun k2 => if (vT.1 0) < (16 : Int32) then k2 (0 : Int32) else k2 (1 : Int32))
abbrev wsX6_isFull : List Cond := .code yX6_isFull cX6_isFull 1 (some .boolean) :: UW
abbrev rmX6_isFull : Room := { frames := 0, cells := 0, slots := 0, locals := 0 }
set_option maxHeartbeats 4000000 in
set_option maxRecDepth 100000 in
theorem c_X6_isFull (l : Launch) (g : Gx) (bT : Nat → Nat) (vT : Vs) (r : Int32) (hf : f_X6_isFull vT = some r) : CtI l yX6_isFull wsX6_isFull rmX6_isFull g [.ref (bT 0)] (cT g bT vT) (cT g bT vT) r 0 0 := by
  unfold CtI
  intro sz
  refine Met.ofW (cc := cX6_isFull) (maxL := 1) (ret := (some .boolean)) (by decide) rfl ?_
  intro p e s m args below meth c s₁ B hml hv
  obtain ⟨rfl, hsz, hP, hK, hD0, hG⟩ := hv
  have hx := B.exec
  have hb := B.bytes
  have hr := B.returns
  have hts := atoms_spec (ws := wsX6_isFull) B.pre
  have hown : s.vm.findClass RX6 = some m.cls := findClass_of_methodNamed B.named
  have hlocks := B.notSynchronized
  subst hsz
  have hD := hD0.self (sz := s.heap.size)
  generalize hAe : va_A (cT g bT vT) s.heap.size = A at hD hG ⊢
  have hA : ∀ q : Nat, s.heap.size ≤ q → A q := fun q h => by rw [← hAe]; exact Or.inr h
  clear hAe hD0
  have hS : va_S A s.heap s.heap [] := va_S.rf
  have hl := lv_entry ([.ref (bT 0)]) (n := 1) (Nat.le_of_ble_eq_true rfl)
  rw [lg_entry_eq]
  generalize (lg_sl ([.ref (bT 0)]) ++ List.replicate (1 - (lg_sl ([.ref (bT 0)])).length) Slot.unset).toArray = ls at hl ⊢
  have hl : lv_has ls 1 [(0, .ref (bT 0))] := hl
  have htu : ∀ w ∈ UW, w.before _ s = true := fun w h => hts w (List.mem_cons_of_mem _ h)
  have k_1_127 := htu _ mw_1_127
  unfold f_X6_isFull at hf
  obtain ⟨H, hH⟩ : ∃ z, z = s.heap := ⟨_, rfl⟩
  obtain ⟨locs, hlo⟩ : ∃ z : List Loc, z = [] := ⟨_, rfl⟩
  have hS : va_S A s.heap H locs := by rw [hH, hlo]; exact hS
  rw [← hH] at hP
  have hW : W p l e (headSpec wsX6_isFull rmX6_isFull).room s m ([.ref (bT 0)] : List Value).toArray below meth c H locs 0 0 (MQ below (qI g A (cT g bT vT) r) ([.ref (bT 0)] : List Value).toArray s 0 0 A) (F0 m 0 ls []) := by
    refine lv_aload_n hx hb dX6_isFull_0 rfl (lv_at hl 0 rfl) ?_
    refine va_get (D := g.1) (ci := 6) (fs := fcT bT vT) (v := .int (vT.1 0)) (C := RX6) (T := TX6) (N := 5) hx hb htu hinX6 hown hK hP 0 rfl rfl 0 (by decide) k_1_127 (fun _ h9 => h9) rfl dX6_isFull_1 ?_
    refine lv_bipush (v := (16 : Int32)) hx hb dX6_isFull_4 (by decide) ?_
    obtain ⟨k2, hk6, hf⟩ := jn_at hf
    have hJ3 : ∀ (t1 : Int32), k2 t1 = some r → ∀ (H : Heap) (locs : List Loc), va_P g.1 vwCl (cT g bT vT) H → va_D A (cT g bT vT) → va_S A s.heap H locs → ∀ ls : Array Slot, lv_has ls 1 [] → W p l e (headSpec wsX6_isFull rmX6_isFull).room s m ([.ref (bT 0)] : List Value).toArray below meth c H locs 0 0 (MQ below (qI g A (cT g bT vT) r) ([.ref (bT 0)] : List Value).toArray s 0 0 A) (F0 m 14 ls [.int t1]) := by
      intro t1 hf H locs hP hD hS ls hl
      rw [hk6] at hf
      dsimp only at hf
      clear hk6
      obtain ⟨h4, hf⟩ := gd_isB hf
      have e5 := Option.some.inj hf
      exact k_zret hx hb hr hlocks hK hP hD hS e5 h4 dX6_isFull_14
    refine lv_icmp_lt (tgt := 13) hx hb dX6_isFull_6 (by decide) (fun c7 => ?_) (fun c7 => ?_)
    · have hf := it_t hf c7
      refine lv_iconst (v := (0 : Int32)) hx hb dX6_isFull_13 (by decide) ?_
      exact hJ3 (0 : Int32) hf H locs hP hD hS _ (lv_sub hl [] rfl)
    · have hf := it_f hf c7
      refine lv_iconst (v := (1 : Int32)) hx hb dX6_isFull_9 (by decide) ?_
      refine lv_goto (tgt := 14) hx hb dX6_isFull_10 (by decide) ?_
      exact hJ3 (1 : Int32) hf H locs hP hD hS _ (lv_sub hl [] rfl)
  rw [hH, hlo] at hW
  exact hW
def f_X6_put (vT : Vs) (x1 : Int32) (x2 : Int32) : Option (Vs) :=
  gd (inb (vT.1 0) 16) (bn (sI vT 1 ((vT.1 0)).toNatClampNeg x1) (fun (vT_2 : Vs) => gd (inb (vT_2.1 0) 16) (bn (sI vT_2 2 ((vT_2.1 0)).toNatClampNeg x2) (fun (vT_4 : Vs) => bn (sF vT_4 0 ((vT_4.1 0) + (1 : Int32))) (fun (vT_5 : Vs) => some (vT_5))))))
abbrev wsX6_put : List Cond := .code yX6_put cX6_put 3 none :: UW
abbrev rmX6_put : Room := { frames := 0, cells := 0, slots := 0, locals := 0 }
set_option maxHeartbeats 4000000 in
set_option maxRecDepth 100000 in
theorem c_X6_put (l : Launch) (g : Gx) (bT : Nat → Nat) (vT : Vs) (x1 : Int32) (x2 : Int32) (vT1 : Vs) (hf : f_X6_put vT x1 x2 = some vT1) : CtV l yX6_put wsX6_put rmX6_put g [.ref (bT 0), .int x1, .int x2] (cT g bT vT) (cT g bT vT1) 0 0 := by
  unfold CtV
  intro sz
  refine Met.ofW (cc := cX6_put) (maxL := 3) (ret := none) (by decide) rfl ?_
  intro p e s m args below meth c s₁ B hml hv
  obtain ⟨rfl, hsz, hP, hK, hD0, hG⟩ := hv
  have hx := B.exec
  have hb := B.bytes
  have hr := B.returns
  have hts := atoms_spec (ws := wsX6_put) B.pre
  have hown : s.vm.findClass RX6 = some m.cls := findClass_of_methodNamed B.named
  have hlocks := B.notSynchronized
  subst hsz
  have hD := hD0.self (sz := s.heap.size)
  generalize hAe : va_A (cT g bT vT) s.heap.size = A at hD hG ⊢
  have hA : ∀ q : Nat, s.heap.size ≤ q → A q := fun q h => by rw [← hAe]; exact Or.inr h
  clear hAe hD0
  have hS : va_S A s.heap s.heap [] := va_S.rf
  have hl := lv_entry ([.ref (bT 0), .int x1, .int x2]) (n := 3) (Nat.le_of_ble_eq_true rfl)
  rw [lg_entry_eq]
  generalize (lg_sl ([.ref (bT 0), .int x1, .int x2]) ++ List.replicate (3 - (lg_sl ([.ref (bT 0), .int x1, .int x2])).length) Slot.unset).toArray = ls at hl ⊢
  have hl : lv_has ls 3 [(0, .ref (bT 0)), (1, .int x1), (2, .int x2)] := hl
  have htu : ∀ w ∈ UW, w.before _ s = true := fun w h => hts w (List.mem_cons_of_mem _ h)
  have k_1_130 := htu _ mw_1_130
  have k_1_127 := htu _ mw_1_127
  have k_1_132 := htu _ mw_1_132
  unfold f_X6_put at hf
  obtain ⟨H, hH⟩ : ∃ z, z = s.heap := ⟨_, rfl⟩
  obtain ⟨locs, hlo⟩ : ∃ z : List Loc, z = [] := ⟨_, rfl⟩
  have hS : va_S A s.heap H locs := by rw [hH, hlo]; exact hS
  rw [← hH] at hP
  have hW : W p l e (headSpec wsX6_put rmX6_put).room s m ([.ref (bT 0), .int x1, .int x2] : List Value).toArray below meth c H locs 0 0 (MQ below (qV g A (cT g bT vT1)) ([.ref (bT 0), .int x1, .int x2] : List Value).toArray s 0 0 A) (F0 m 0 ls []) := by
    refine lv_aload_n hx hb dX6_put_0 rfl (lv_at hl 0 rfl) ?_
    refine va_get (D := g.1) (ci := 6) (fs := fcT bT vT) (v := .ref (bT 2)) (C := RX6) (T := TX6) (N := 5) hx hb htu hinX6 hown hK hP 0 rfl rfl 1 (by decide) k_1_130 (fun _ h9 => h9) rfl dX6_put_1 ?_
    refine lv_aload_n hx hb dX6_put_4 rfl (lv_at hl 0 rfl) ?_
    refine va_get (D := g.1) (ci := 6) (fs := fcT bT vT) (v := .int (vT.1 0)) (C := RX6) (T := TX6) (N := 5) hx hb htu hinX6 hown hK hP 0 rfl rfl 0 (by decide) k_1_127 (fun _ h9 => h9) rfl dX6_put_5 ?_
    refine lv_iload_n hx hb dX6_put_8 rfl (lv_at hl 1 rfl) ?_
    obtain ⟨h1, hf⟩ := gd_in hf
    refine va_iast (D := g.1) (f := (vT.2.1 1)) hx hb hK hP hD hS 1 0 rfl rfl h1 dX6_put_9 (fun H locs hP hD hS => ?_)
    obtain ⟨vT_2, evT_2⟩ : ∃ z, z = sI vT 1 ((vT.1 0)).toNatClampNeg x1 := ⟨_, rfl⟩
    have hf := bn_at hf evT_2
    have hP : va_P g.1 vwCl (cT g bT vT_2) H := by rw [evT_2]; exact hP
    have hD : va_D A (cT g bT vT_2) := by rw [evT_2]; exact hD
    refine lv_aload_n hx hb dX6_put_10 rfl (lv_at hl 0 rfl) ?_
    refine va_get (D := g.1) (ci := 6) (fs := fcT bT vT_2) (v := .ref (bT 3)) (C := RX6) (T := TX6) (N := 5) hx hb htu hinX6 hown hK hP 0 rfl rfl 2 (by decide) k_1_132 (fun _ h9 => h9) rfl dX6_put_11 ?_
    refine lv_aload_n hx hb dX6_put_14 rfl (lv_at hl 0 rfl) ?_
    refine va_get (D := g.1) (ci := 6) (fs := fcT bT vT_2) (v := .int (vT_2.1 0)) (C := RX6) (T := TX6) (N := 5) hx hb htu hinX6 hown hK hP 0 rfl rfl 0 (by decide) k_1_127 (fun _ h9 => h9) rfl dX6_put_15 ?_
    refine lv_iload_n hx hb dX6_put_18 rfl (lv_at hl 2 rfl) ?_
    obtain ⟨h3, hf⟩ := gd_in hf
    refine va_iast (D := g.1) (f := (vT_2.2.1 2)) hx hb hK hP hD hS 2 0 rfl rfl h3 dX6_put_19 (fun H locs hP hD hS => ?_)
    obtain ⟨vT_4, evT_4⟩ : ∃ z, z = sI vT_2 2 ((vT_2.1 0)).toNatClampNeg x2 := ⟨_, rfl⟩
    have hf := bn_at hf evT_4
    have hP : va_P g.1 vwCl (cT g bT vT_4) H := by rw [evT_4]; exact hP
    have hD : va_D A (cT g bT vT_4) := by rw [evT_4]; exact hD
    refine lv_aload_n hx hb dX6_put_20 rfl (lv_at hl 0 rfl) ?_
    refine lv_dup hx hb dX6_put_21 rfl ?_
    refine va_get (D := g.1) (ci := 6) (fs := fcT bT vT_4) (v := .int (vT_4.1 0)) (C := RX6) (T := TX6) (N := 5) hx hb htu hinX6 hown hK hP 0 rfl rfl 0 (by decide) k_1_127 (fun _ h9 => h9) rfl dX6_put_22 ?_
    refine lv_iconst (v := (1 : Int32)) hx hb dX6_put_25 (by decide) ?_
    refine lv_iadd hx hb dX6_put_26 ?_
    refine va_put (D := g.1) (ci := 6) (fs := fcT bT vT_4) (v := .int ((vT_4.1 0) + (1 : Int32))) (ty := .int) (C := RX6) (T := TX6) (N := 5) hx hb htu hinX6 tyX6 tyX6_ok nmX6 hown hK hP hD hS 0 rfl rfl 0 (by decide) k_1_127 (fun _ h9 => h9) rfl (by decide +kernel) rfl rfl (Nat.le_of_ble_eq_true rfl) dX6_put_27 (fun H locs hP hD hS => ?_)
    obtain ⟨vT_5, evT_5⟩ : ∃ z, z = sF vT_4 0 ((vT_4.1 0) + (1 : Int32)) := ⟨_, rfl⟩
    have hf := bn_at hf evT_5
    have hP : va_P g.1 vwCl (cT g bT vT_5) H := by rw [evT_5]; exact hP
    have hD : va_D A (cT g bT vT_5) := by rw [evT_5]; exact hD
    have e6 := Option.some.inj hf
    rw [e6] at hP hD
    exact k_vret hx hb hr hlocks hK hP hD hS dX6_put_30
  rw [hH, hlo] at hW
  exact hW
def f_X6_drop_L48 (x1 : Int32) (self9 : Int32 → Vs → Option (Vs)) (x2_7 : Int32) (vT_8 : Vs) : Option (Vs) :=
  if (6 : Int32) ≤ x2_7 then bn (sF vT_8 0 ((vT_8.1 0) - (1 : Int32))) (fun (vT_13 : Vs) => some (vT_13)) else gd (inb x2_7 6) (o1 (f_X6_withoutBit (vT_8.2.1 3 (x2_7).toNatClampNeg) x1) (fun (r16 : Int32) => gd (inb x2_7 6) (bn (sI vT_8 3 (x2_7).toNatClampNeg r16) (fun (vT_19 : Vs) => gd (inb x2_7 6) (o1 (f_X6_withoutBit (vT_19.2.1 4 (x2_7).toNatClampNeg) x1) (fun (r21 : Int32) => gd (inb x2_7 6) (bn (sI vT_19 4 (x2_7).toNatClampNeg r21) (fun (vT_24 : Vs) => self9 (x2_7 + (1 : Int32)) vT_24))))))))
def f_X6_drop_L4 (x1 : Int32) (self3 : Int32 → Vs → Option (Vs)) (x2_1 : Int32) (vT_2 : Vs) : Option (Vs) :=
  if (vT_2.1 0) ≤ x2_1 then lp (f_X6_drop_L48 x1) (fun _ _ => none) FU (0 : Int32) vT_2 else gd (inb x2_1 16) (gd (inb (x2_1 - (1 : Int32)) 16) (bn (sI vT_2 1 ((x2_1 - (1 : Int32))).toNatClampNeg (vT_2.2.1 1 (x2_1).toNatClampNeg)) (fun (vT_27 : Vs) => gd (inb x2_1 16) (gd (inb (x2_1 - (1 : Int32)) 16) (bn (sI vT_27 2 ((x2_1 - (1 : Int32))).toNatClampNeg (vT_27.2.1 2 (x2_1).toNatClampNeg)) (fun (vT_30 : Vs) => self3 (x2_1 + (1 : Int32)) vT_30))))))
def f_X6_drop (vT : Vs) (x1 : Int32) : Option (Vs) :=
  lp (f_X6_drop_L4 x1) (fun _ _ => none) FU (x1 + (1 : Int32)) vT
abbrev wsX6_drop : List Cond := .code yX6_drop cX6_drop 3 none :: UW
abbrev rmX6_drop : Room := { frames := 1, cells := 0, slots := 0, locals := 22 }
set_option maxHeartbeats 4000000 in
set_option maxRecDepth 100000 in
theorem c_X6_drop (l : Launch) (g : Gx) (bT : Nat → Nat) (vT : Vs) (x1 : Int32) (vT1 : Vs) (hf : f_X6_drop vT x1 = some vT1) : CtV l yX6_drop wsX6_drop rmX6_drop g [.ref (bT 0), .int x1] (cT g bT vT) (cT g bT vT1) 0 0 := by
  unfold CtV
  intro sz
  refine Met.ofW (cc := cX6_drop) (maxL := 3) (ret := none) (by decide) rfl ?_
  intro p e s m args below meth c s₁ B hml hv
  obtain ⟨rfl, hsz, hP, hK, hD0, hG⟩ := hv
  have hx := B.exec
  have hb := B.bytes
  have hr := B.returns
  have hts := atoms_spec (ws := wsX6_drop) B.pre
  have hown : s.vm.findClass RX6 = some m.cls := findClass_of_methodNamed B.named
  have hlocks := B.notSynchronized
  subst hsz
  have hD := hD0.self (sz := s.heap.size)
  generalize hAe : va_A (cT g bT vT) s.heap.size = A at hD hG ⊢
  have hA : ∀ q : Nat, s.heap.size ≤ q → A q := fun q h => by rw [← hAe]; exact Or.inr h
  clear hAe hD0
  have hS : va_S A s.heap s.heap [] := va_S.rf
  have hl := lv_entry ([.ref (bT 0), .int x1]) (n := 3) (Nat.le_of_ble_eq_true rfl)
  rw [lg_entry_eq]
  generalize (lg_sl ([.ref (bT 0), .int x1]) ++ List.replicate (3 - (lg_sl ([.ref (bT 0), .int x1])).length) Slot.unset).toArray = ls at hl ⊢
  have hl : lv_has ls 3 [(0, .ref (bT 0)), (1, .int x1)] := hl
  have htu : ∀ w ∈ UW, w.before _ s = true := fun w h => hts w (List.mem_cons_of_mem _ h)
  have k_1_127 := htu _ mw_1_127
  have k_1_134 := htu _ mw_1_134
  have k_1_136 := htu _ mw_1_136
  have k_1_130 := htu _ mw_1_130
  have k_1_132 := htu _ mw_1_132
  unfold f_X6_drop at hf
  obtain ⟨H, hH⟩ : ∃ z, z = s.heap := ⟨_, rfl⟩
  obtain ⟨locs, hlo⟩ : ∃ z : List Loc, z = [] := ⟨_, rfl⟩
  have hS : va_S A s.heap H locs := by rw [hH, hlo]; exact hS
  rw [← hH] at hP
  have hW : W p l e (headSpec wsX6_drop rmX6_drop).room s m ([.ref (bT 0), .int x1] : List Value).toArray below meth c H locs 0 0 (MQ below (qV g A (cT g bT vT1)) ([.ref (bT 0), .int x1] : List Value).toArray s 0 0 A) (F0 m 0 ls []) := by
    refine lv_iload_n hx hb dX6_drop_0 rfl (lv_at hl 1 rfl) ?_
    refine lv_iconst (v := (1 : Int32)) hx hb dX6_drop_1 (by decide) ?_
    refine lv_iadd hx hb dX6_drop_2 ?_
    refine lv_istore_n (lv' := [(2, .int (x1 + (1 : Int32))), (0, .ref (bT 0)), (1, .int x1)]) hx hb dX6_drop_3 rfl hl (by decide) rfl (fun ls hl => ?_)
    have hL4 : ∀ (x2_1 : Int32) (vT_2 : Vs), lp (f_X6_drop_L4 x1) (fun _ _ => none) FU x2_1 vT_2 = some vT1 → ∀ (H : Heap) (locs : List Loc), va_P g.1 vwCl (cT g bT vT_2) H → va_D A (cT g bT vT_2) → va_S A s.heap H locs → ∀ ls : Array Slot, lv_has ls 3 [(0, .ref (bT 0)), (1, .int x1), (2, .int x2_1)] → W p l e (headSpec wsX6_drop rmX6_drop).room s m ([.ref (bT 0), .int x1] : List Value).toArray below meth c H locs 0 0 (MQ below (qV g A (cT g bT vT1)) ([.ref (bT 0), .int x1] : List Value).toArray s 0 0 A) (F0 m 4 ls []) := by
      refine lp_ind (T := Int32 → Vs → Option (Vs)) (fun self3 => ∀ (x2_1 : Int32) (vT_2 : Vs), self3 x2_1 vT_2 = some vT1 → ∀ (H : Heap) (locs : List Loc), va_P g.1 vwCl (cT g bT vT_2) H → va_D A (cT g bT vT_2) → va_S A s.heap H locs → ∀ ls : Array Slot, lv_has ls 3 [(0, .ref (bT 0)), (1, .int x1), (2, .int x2_1)] → W p l e (headSpec wsX6_drop rmX6_drop).room s m ([.ref (bT 0), .int x1] : List Value).toArray below meth c H locs 0 0 (MQ below (qV g A (cT g bT vT1)) ([.ref (bT 0), .int x1] : List Value).toArray s 0 0 A) (F0 m 4 ls [])) ?_ ?_ FU
      · intro x2_1 vT_2 hf; cases hf
      · intro self3 ih5 x2_1 vT_2 hf H locs hP hD hS ls hl
        unfold f_X6_drop_L4 at hf
        refine lv_iload_n hx hb dX6_drop_4 rfl (lv_at hl 2 rfl) ?_
        refine lv_aload_n hx hb dX6_drop_5 rfl (lv_at hl 0 rfl) ?_
        refine va_get (D := g.1) (ci := 6) (fs := fcT bT vT_2) (v := .int (vT_2.1 0)) (C := RX6) (T := TX6) (N := 5) hx hb htu hinX6 hown hK hP 0 rfl rfl 0 (by decide) k_1_127 (fun _ h9 => h9) rfl dX6_drop_6 ?_
        refine lv_icmp_ge (tgt := 46) hx hb dX6_drop_9 (by decide) (fun c6 => ?_) (fun c6 => ?_)
        · have hf := it_t hf c6
          refine lv_iconst (v := (0 : Int32)) hx hb dX6_drop_46 (by decide) ?_
          refine lv_istore_n (lv' := [(2, .int (0 : Int32)), (0, .ref (bT 0)), (1, .int x1)]) hx hb dX6_drop_47 rfl hl (by decide) rfl (fun ls hl => ?_)
          have hL10 : ∀ (x2_7 : Int32) (vT_8 : Vs), lp (f_X6_drop_L48 x1) (fun _ _ => none) FU x2_7 vT_8 = some vT1 → ∀ (H : Heap) (locs : List Loc), va_P g.1 vwCl (cT g bT vT_8) H → va_D A (cT g bT vT_8) → va_S A s.heap H locs → ∀ ls : Array Slot, lv_has ls 3 [(0, .ref (bT 0)), (1, .int x1), (2, .int x2_7)] → W p l e (headSpec wsX6_drop rmX6_drop).room s m ([.ref (bT 0), .int x1] : List Value).toArray below meth c H locs 0 0 (MQ below (qV g A (cT g bT vT1)) ([.ref (bT 0), .int x1] : List Value).toArray s 0 0 A) (F0 m 48 ls []) := by
            refine lp_ind (T := Int32 → Vs → Option (Vs)) (fun self9 => ∀ (x2_7 : Int32) (vT_8 : Vs), self9 x2_7 vT_8 = some vT1 → ∀ (H : Heap) (locs : List Loc), va_P g.1 vwCl (cT g bT vT_8) H → va_D A (cT g bT vT_8) → va_S A s.heap H locs → ∀ ls : Array Slot, lv_has ls 3 [(0, .ref (bT 0)), (1, .int x1), (2, .int x2_7)] → W p l e (headSpec wsX6_drop rmX6_drop).room s m ([.ref (bT 0), .int x1] : List Value).toArray below meth c H locs 0 0 (MQ below (qV g A (cT g bT vT1)) ([.ref (bT 0), .int x1] : List Value).toArray s 0 0 A) (F0 m 48 ls [])) ?_ ?_ FU
            · intro x2_7 vT_8 hf; cases hf
            · intro self9 ih11 x2_7 vT_8 hf H locs hP hD hS ls hl
              unfold f_X6_drop_L48 at hf
              refine lv_iload_n hx hb dX6_drop_48 rfl (lv_at hl 2 rfl) ?_
              refine lv_bipush (v := (6 : Int32)) hx hb dX6_drop_49 (by decide) ?_
              refine lv_icmp_ge (tgt := 92) hx hb dX6_drop_51 (by decide) (fun c12 => ?_) (fun c12 => ?_)
              · have hf := it_t hf c12
                refine lv_aload_n hx hb dX6_drop_92 rfl (lv_at hl 0 rfl) ?_
                refine lv_dup hx hb dX6_drop_93 rfl ?_
                refine va_get (D := g.1) (ci := 6) (fs := fcT bT vT_8) (v := .int (vT_8.1 0)) (C := RX6) (T := TX6) (N := 5) hx hb htu hinX6 hown hK hP 0 rfl rfl 0 (by decide) k_1_127 (fun _ h9 => h9) rfl dX6_drop_94 ?_
                refine lv_iconst (v := (1 : Int32)) hx hb dX6_drop_97 (by decide) ?_
                refine lv_isub hx hb dX6_drop_98 ?_
                refine va_put (D := g.1) (ci := 6) (fs := fcT bT vT_8) (v := .int ((vT_8.1 0) - (1 : Int32))) (ty := .int) (C := RX6) (T := TX6) (N := 5) hx hb htu hinX6 tyX6 tyX6_ok nmX6 hown hK hP hD hS 0 rfl rfl 0 (by decide) k_1_127 (fun _ h9 => h9) rfl (by decide +kernel) rfl rfl (Nat.le_of_ble_eq_true rfl) dX6_drop_99 (fun H locs hP hD hS => ?_)
                obtain ⟨vT_13, evT_13⟩ : ∃ z, z = sF vT_8 0 ((vT_8.1 0) - (1 : Int32)) := ⟨_, rfl⟩
                have hf := bn_at hf evT_13
                have hP : va_P g.1 vwCl (cT g bT vT_13) H := by rw [evT_13]; exact hP
                have hD : va_D A (cT g bT vT_13) := by rw [evT_13]; exact hD
                have e14 := Option.some.inj hf
                rw [e14] at hP hD
                exact k_vret hx hb hr hlocks hK hP hD hS dX6_drop_102
              · have hf := it_f hf c12
                refine lv_aload_n hx hb dX6_drop_54 rfl (lv_at hl 0 rfl) ?_
                refine va_get (D := g.1) (ci := 6) (fs := fcT bT vT_8) (v := .ref (bT 4)) (C := RX6) (T := TX6) (N := 5) hx hb htu hinX6 hown hK hP 0 rfl rfl 3 (by decide) k_1_134 (fun _ h9 => h9) rfl dX6_drop_55 ?_
                refine lv_iload_n hx hb dX6_drop_58 rfl (lv_at hl 2 rfl) ?_
                refine lv_aload_n hx hb dX6_drop_59 rfl (lv_at hl 0 rfl) ?_
                refine va_get (D := g.1) (ci := 6) (fs := fcT bT vT_8) (v := .ref (bT 4)) (C := RX6) (T := TX6) (N := 5) hx hb htu hinX6 hown hK hP 0 rfl rfl 3 (by decide) k_1_134 (fun _ h9 => h9) rfl dX6_drop_60 ?_
                refine lv_iload_n hx hb dX6_drop_63 rfl (lv_at hl 2 rfl) ?_
                obtain ⟨h15, hf⟩ := gd_in hf
                refine va_iald (D := g.1) (f := (vT_8.2.1 3)) hx hb hK hP 3 0 rfl rfl h15 dX6_drop_64 ?_
                refine lv_iload_n hx hb dX6_drop_65 rfl (lv_at hl 1 rfl) ?_
                obtain ⟨r16, hg17, hf⟩ := o1_at hf
                refine k_si0 ⟨hx, hb, hml, hown, htu⟩ hK hP hD hS hA hG (c_X6_withoutBit l g (vT_8.2.1 3 (x2_7).toNatClampNeg) x1 r16 hg17) (va_cwS 2 htu (gU_S mw_5_31 hcX6_withoutBit) rfl rfl rfl hdX6_withoutBit ⟨Nat.le_of_ble_eq_true rfl, Nat.le_of_ble_eq_true rfl⟩) (As := [.int (vT_8.2.1 3 (x2_7).toNatClampNeg), .int x1]) (rest := [.int x2_7, .ref (bT 4)]) rfl rfl hl.1 (Nat.le_of_ble_eq_true rfl) dX6_drop_66 (k1 := 0) (n1 := 0) rfl rfl ⟨Nat.zero_le _, Nat.zero_le _⟩ (fun H locs hP hD hS => ?_)
                obtain ⟨h18, hf⟩ := gd_in hf
                refine va_iast (D := g.1) (f := (vT_8.2.1 3)) hx hb hK hP hD hS 3 0 rfl rfl h18 dX6_drop_69 (fun H locs hP hD hS => ?_)
                obtain ⟨vT_19, evT_19⟩ : ∃ z, z = sI vT_8 3 (x2_7).toNatClampNeg r16 := ⟨_, rfl⟩
                have hf := bn_at hf evT_19
                have hP : va_P g.1 vwCl (cT g bT vT_19) H := by rw [evT_19]; exact hP
                have hD : va_D A (cT g bT vT_19) := by rw [evT_19]; exact hD
                refine lv_aload_n hx hb dX6_drop_70 rfl (lv_at hl 0 rfl) ?_
                refine va_get (D := g.1) (ci := 6) (fs := fcT bT vT_19) (v := .ref (bT 5)) (C := RX6) (T := TX6) (N := 5) hx hb htu hinX6 hown hK hP 0 rfl rfl 4 (by decide) k_1_136 (fun _ h9 => h9) rfl dX6_drop_71 ?_
                refine lv_iload_n hx hb dX6_drop_74 rfl (lv_at hl 2 rfl) ?_
                refine lv_aload_n hx hb dX6_drop_75 rfl (lv_at hl 0 rfl) ?_
                refine va_get (D := g.1) (ci := 6) (fs := fcT bT vT_19) (v := .ref (bT 5)) (C := RX6) (T := TX6) (N := 5) hx hb htu hinX6 hown hK hP 0 rfl rfl 4 (by decide) k_1_136 (fun _ h9 => h9) rfl dX6_drop_76 ?_
                refine lv_iload_n hx hb dX6_drop_79 rfl (lv_at hl 2 rfl) ?_
                obtain ⟨h20, hf⟩ := gd_in hf
                refine va_iald (D := g.1) (f := (vT_19.2.1 4)) hx hb hK hP 4 0 rfl rfl h20 dX6_drop_80 ?_
                refine lv_iload_n hx hb dX6_drop_81 rfl (lv_at hl 1 rfl) ?_
                obtain ⟨r21, hg22, hf⟩ := o1_at hf
                refine k_si0 ⟨hx, hb, hml, hown, htu⟩ hK hP hD hS hA hG (c_X6_withoutBit l g (vT_19.2.1 4 (x2_7).toNatClampNeg) x1 r21 hg22) (va_cwS 2 htu (gU_S mw_5_31 hcX6_withoutBit) rfl rfl rfl hdX6_withoutBit ⟨Nat.le_of_ble_eq_true rfl, Nat.le_of_ble_eq_true rfl⟩) (As := [.int (vT_19.2.1 4 (x2_7).toNatClampNeg), .int x1]) (rest := [.int x2_7, .ref (bT 5)]) rfl rfl hl.1 (Nat.le_of_ble_eq_true rfl) dX6_drop_82 (k1 := 0) (n1 := 0) rfl rfl ⟨Nat.zero_le _, Nat.zero_le _⟩ (fun H locs hP hD hS => ?_)
                obtain ⟨h23, hf⟩ := gd_in hf
                refine va_iast (D := g.1) (f := (vT_19.2.1 4)) hx hb hK hP hD hS 4 0 rfl rfl h23 dX6_drop_85 (fun H locs hP hD hS => ?_)
                obtain ⟨vT_24, evT_24⟩ : ∃ z, z = sI vT_19 4 (x2_7).toNatClampNeg r21 := ⟨_, rfl⟩
                have hf := bn_at hf evT_24
                have hP : va_P g.1 vwCl (cT g bT vT_24) H := by rw [evT_24]; exact hP
                have hD : va_D A (cT g bT vT_24) := by rw [evT_24]; exact hD
                refine lv_iinc (v := (x2_7 + (1 : Int32))) (lv' := [(2, .int (x2_7 + (1 : Int32))), (0, .ref (bT 0)), (1, .int x1)]) hx hb dX6_drop_86 hl (k := 2) rfl rfl (by decide) rfl (fun ls hl => ?_)
                refine lv_goto (tgt := 48) hx hb dX6_drop_89 (by decide) ?_
                exact ih11 (x2_7 + (1 : Int32)) vT_24 hf H locs hP hD hS _ (lv_sub hl [1, 2, 0] rfl)
          exact hL10 (0 : Int32) vT_2 hf H locs hP hD hS _ (lv_sub hl [1, 2, 0] rfl)
        · have hf := it_f hf c6
          refine lv_aload_n hx hb dX6_drop_12 rfl (lv_at hl 0 rfl) ?_
          refine va_get (D := g.1) (ci := 6) (fs := fcT bT vT_2) (v := .ref (bT 2)) (C := RX6) (T := TX6) (N := 5) hx hb htu hinX6 hown hK hP 0 rfl rfl 1 (by decide) k_1_130 (fun _ h9 => h9) rfl dX6_drop_13 ?_
          refine lv_iload_n hx hb dX6_drop_16 rfl (lv_at hl 2 rfl) ?_
          refine lv_iconst (v := (1 : Int32)) hx hb dX6_drop_17 (by decide) ?_
          refine lv_isub hx hb dX6_drop_18 ?_
          refine lv_aload_n hx hb dX6_drop_19 rfl (lv_at hl 0 rfl) ?_
          refine va_get (D := g.1) (ci := 6) (fs := fcT bT vT_2) (v := .ref (bT 2)) (C := RX6) (T := TX6) (N := 5) hx hb htu hinX6 hown hK hP 0 rfl rfl 1 (by decide) k_1_130 (fun _ h9 => h9) rfl dX6_drop_20 ?_
          refine lv_iload_n hx hb dX6_drop_23 rfl (lv_at hl 2 rfl) ?_
          obtain ⟨h25, hf⟩ := gd_in hf
          refine va_iald (D := g.1) (f := (vT_2.2.1 1)) hx hb hK hP 1 0 rfl rfl h25 dX6_drop_24 ?_
          obtain ⟨h26, hf⟩ := gd_in hf
          refine va_iast (D := g.1) (f := (vT_2.2.1 1)) hx hb hK hP hD hS 1 0 rfl rfl h26 dX6_drop_25 (fun H locs hP hD hS => ?_)
          obtain ⟨vT_27, evT_27⟩ : ∃ z, z = sI vT_2 1 ((x2_1 - (1 : Int32))).toNatClampNeg (vT_2.2.1 1 (x2_1).toNatClampNeg) := ⟨_, rfl⟩
          have hf := bn_at hf evT_27
          have hP : va_P g.1 vwCl (cT g bT vT_27) H := by rw [evT_27]; exact hP
          have hD : va_D A (cT g bT vT_27) := by rw [evT_27]; exact hD
          refine lv_aload_n hx hb dX6_drop_26 rfl (lv_at hl 0 rfl) ?_
          refine va_get (D := g.1) (ci := 6) (fs := fcT bT vT_27) (v := .ref (bT 3)) (C := RX6) (T := TX6) (N := 5) hx hb htu hinX6 hown hK hP 0 rfl rfl 2 (by decide) k_1_132 (fun _ h9 => h9) rfl dX6_drop_27 ?_
          refine lv_iload_n hx hb dX6_drop_30 rfl (lv_at hl 2 rfl) ?_
          refine lv_iconst (v := (1 : Int32)) hx hb dX6_drop_31 (by decide) ?_
          refine lv_isub hx hb dX6_drop_32 ?_
          refine lv_aload_n hx hb dX6_drop_33 rfl (lv_at hl 0 rfl) ?_
          refine va_get (D := g.1) (ci := 6) (fs := fcT bT vT_27) (v := .ref (bT 3)) (C := RX6) (T := TX6) (N := 5) hx hb htu hinX6 hown hK hP 0 rfl rfl 2 (by decide) k_1_132 (fun _ h9 => h9) rfl dX6_drop_34 ?_
          refine lv_iload_n hx hb dX6_drop_37 rfl (lv_at hl 2 rfl) ?_
          obtain ⟨h28, hf⟩ := gd_in hf
          refine va_iald (D := g.1) (f := (vT_27.2.1 2)) hx hb hK hP 2 0 rfl rfl h28 dX6_drop_38 ?_
          obtain ⟨h29, hf⟩ := gd_in hf
          refine va_iast (D := g.1) (f := (vT_27.2.1 2)) hx hb hK hP hD hS 2 0 rfl rfl h29 dX6_drop_39 (fun H locs hP hD hS => ?_)
          obtain ⟨vT_30, evT_30⟩ : ∃ z, z = sI vT_27 2 ((x2_1 - (1 : Int32))).toNatClampNeg (vT_27.2.1 2 (x2_1).toNatClampNeg) := ⟨_, rfl⟩
          have hf := bn_at hf evT_30
          have hP : va_P g.1 vwCl (cT g bT vT_30) H := by rw [evT_30]; exact hP
          have hD : va_D A (cT g bT vT_30) := by rw [evT_30]; exact hD
          refine lv_iinc (v := (x2_1 + (1 : Int32))) (lv' := [(2, .int (x2_1 + (1 : Int32))), (0, .ref (bT 0)), (1, .int x1)]) hx hb dX6_drop_40 hl (k := 2) rfl rfl (by decide) rfl (fun ls hl => ?_)
          refine lv_goto (tgt := 4) hx hb dX6_drop_43 (by decide) ?_
          exact ih5 (x2_1 + (1 : Int32)) vT_30 hf H locs hP hD hS _ (lv_sub hl [1, 2, 0] rfl)
    exact hL4 (x1 + (1 : Int32)) vT hf H locs hP hD hS _ (lv_sub hl [1, 2, 0] rfl)
  rw [hH, hlo] at hW
  exact hW
def f_X6_note (vT : Vs) (x1 : Int32) (x2 : Int32) (x3 : Int32) : Option (Vs) :=
  gd (inb x2 6) (gd (inb x2 6) (bn (sI vT 3 (x2).toNatClampNeg ((vT.2.1 3 (x2).toNatClampNeg) &&& (((1 : Int32) <<< (x1 &&& 31)) ^^^ (-1 : Int32)))) (fun (vT_3 : Vs) => gd (inb x2 6) (gd (inb x2 6) (bn (sI vT_3 4 (x2).toNatClampNeg ((vT_3.2.1 4 (x2).toNatClampNeg) &&& (((1 : Int32) <<< (x1 &&& 31)) ^^^ (-1 : Int32)))) (fun (vT_6 : Vs) => jn (fun (vT_7 : Vs) => some (vT_7)) (fun k8 => if x3 = 0 then gd (inb x2 6) (gd (inb x2 6) (bn (sI vT_6 3 (x2).toNatClampNeg ((vT_6.2.1 3 (x2).toNatClampNeg) ||| ((1 : Int32) <<< (x1 &&& 31)))) (fun (vT_19 : Vs) => k8 vT_19))) else if x3 = (1 : Int32) then gd (inb x2 6) (gd (inb x2 6) (bn (sI vT_6 4 (x2).toNatClampNeg ((vT_6.2.1 4 (x2).toNatClampNeg) ||| ((1 : Int32) <<< (x1 &&& 31)))) (fun (vT_16 : Vs) => k8 vT_16))) else k8 vT_6)))))))
abbrev wsX6_note : List Cond := .code yX6_note cX6_note 5 none :: UW
abbrev rmX6_note : Room := { frames := 0, cells := 0, slots := 0, locals := 0 }
set_option maxHeartbeats 4000000 in
set_option maxRecDepth 100000 in
theorem c_X6_note (l : Launch) (g : Gx) (bT : Nat → Nat) (vT : Vs) (x1 : Int32) (x2 : Int32) (x3 : Int32) (vT1 : Vs) (hf : f_X6_note vT x1 x2 x3 = some vT1) : CtV l yX6_note wsX6_note rmX6_note g [.ref (bT 0), .int x1, .int x2, .int x3] (cT g bT vT) (cT g bT vT1) 0 0 := by
  unfold CtV
  intro sz
  refine Met.ofW (cc := cX6_note) (maxL := 5) (ret := none) (by decide) rfl ?_
  intro p e s m args below meth c s₁ B hml hv
  obtain ⟨rfl, hsz, hP, hK, hD0, hG⟩ := hv
  have hx := B.exec
  have hb := B.bytes
  have hr := B.returns
  have hts := atoms_spec (ws := wsX6_note) B.pre
  have hown : s.vm.findClass RX6 = some m.cls := findClass_of_methodNamed B.named
  have hlocks := B.notSynchronized
  subst hsz
  have hD := hD0.self (sz := s.heap.size)
  generalize hAe : va_A (cT g bT vT) s.heap.size = A at hD hG ⊢
  have hA : ∀ q : Nat, s.heap.size ≤ q → A q := fun q h => by rw [← hAe]; exact Or.inr h
  clear hAe hD0
  have hS : va_S A s.heap s.heap [] := va_S.rf
  have hl := lv_entry ([.ref (bT 0), .int x1, .int x2, .int x3]) (n := 5) (Nat.le_of_ble_eq_true rfl)
  rw [lg_entry_eq]
  generalize (lg_sl ([.ref (bT 0), .int x1, .int x2, .int x3]) ++ List.replicate (5 - (lg_sl ([.ref (bT 0), .int x1, .int x2, .int x3])).length) Slot.unset).toArray = ls at hl ⊢
  have hl : lv_has ls 5 [(0, .ref (bT 0)), (1, .int x1), (2, .int x2), (3, .int x3)] := hl
  have htu : ∀ w ∈ UW, w.before _ s = true := fun w h => hts w (List.mem_cons_of_mem _ h)
  have k_1_134 := htu _ mw_1_134
  have k_1_136 := htu _ mw_1_136
  unfold f_X6_note at hf
  obtain ⟨H, hH⟩ : ∃ z, z = s.heap := ⟨_, rfl⟩
  obtain ⟨locs, hlo⟩ : ∃ z : List Loc, z = [] := ⟨_, rfl⟩
  have hS : va_S A s.heap H locs := by rw [hH, hlo]; exact hS
  rw [← hH] at hP
  have hW : W p l e (headSpec wsX6_note rmX6_note).room s m ([.ref (bT 0), .int x1, .int x2, .int x3] : List Value).toArray below meth c H locs 0 0 (MQ below (qV g A (cT g bT vT1)) ([.ref (bT 0), .int x1, .int x2, .int x3] : List Value).toArray s 0 0 A) (F0 m 0 ls []) := by
    refine lv_iconst (v := (1 : Int32)) hx hb dX6_note_0 (by decide) ?_
    refine lv_iload_n hx hb dX6_note_1 rfl (lv_at hl 1 rfl) ?_
    refine lv_ishl hx hb dX6_note_2 ?_
    refine lv_istore (lv' := [(4, .int ((1 : Int32) <<< (x1 &&& 31))), (0, .ref (bT 0)), (1, .int x1), (2, .int x2), (3, .int x3)]) hx hb dX6_note_3 hl (by decide) rfl (fun ls hl => ?_)
    refine lv_aload_n hx hb dX6_note_5 rfl (lv_at hl 1 rfl) ?_
    refine va_get (D := g.1) (ci := 6) (fs := fcT bT vT) (v := .ref (bT 4)) (C := RX6) (T := TX6) (N := 5) hx hb htu hinX6 hown hK hP 0 rfl rfl 3 (by decide) k_1_134 (fun _ h9 => h9) rfl dX6_note_6 ?_
    refine lv_iload_n hx hb dX6_note_9 rfl (lv_at hl 3 rfl) ?_
    refine lv_dup2_11 hx hb dX6_note_10 rfl rfl ?_
    obtain ⟨h1, hf⟩ := gd_in hf
    refine va_iald (D := g.1) (f := (vT.2.1 3)) hx hb hK hP 3 0 rfl rfl h1 dX6_note_11 ?_
    refine lv_iload hx hb dX6_note_12 (lv_at hl 0 rfl) ?_
    refine lv_iconst (v := (-1 : Int32)) hx hb dX6_note_14 (by decide) ?_
    refine lv_ixor hx hb dX6_note_15 ?_
    refine lv_iand hx hb dX6_note_16 ?_
    obtain ⟨h2, hf⟩ := gd_in hf
    refine va_iast (D := g.1) (f := (vT.2.1 3)) hx hb hK hP hD hS 3 0 rfl rfl h2 dX6_note_17 (fun H locs hP hD hS => ?_)
    obtain ⟨vT_3, evT_3⟩ : ∃ z, z = sI vT 3 (x2).toNatClampNeg ((vT.2.1 3 (x2).toNatClampNeg) &&& (((1 : Int32) <<< (x1 &&& 31)) ^^^ (-1 : Int32))) := ⟨_, rfl⟩
    have hf := bn_at hf evT_3
    have hP : va_P g.1 vwCl (cT g bT vT_3) H := by rw [evT_3]; exact hP
    have hD : va_D A (cT g bT vT_3) := by rw [evT_3]; exact hD
    refine lv_aload_n hx hb dX6_note_18 rfl (lv_at hl 1 rfl) ?_
    refine va_get (D := g.1) (ci := 6) (fs := fcT bT vT_3) (v := .ref (bT 5)) (C := RX6) (T := TX6) (N := 5) hx hb htu hinX6 hown hK hP 0 rfl rfl 4 (by decide) k_1_136 (fun _ h9 => h9) rfl dX6_note_19 ?_
    refine lv_iload_n hx hb dX6_note_22 rfl (lv_at hl 3 rfl) ?_
    refine lv_dup2_11 hx hb dX6_note_23 rfl rfl ?_
    obtain ⟨h4, hf⟩ := gd_in hf
    refine va_iald (D := g.1) (f := (vT_3.2.1 4)) hx hb hK hP 4 0 rfl rfl h4 dX6_note_24 ?_
    refine lv_iload hx hb dX6_note_25 (lv_at hl 0 rfl) ?_
    refine lv_iconst (v := (-1 : Int32)) hx hb dX6_note_27 (by decide) ?_
    refine lv_ixor hx hb dX6_note_28 ?_
    refine lv_iand hx hb dX6_note_29 ?_
    obtain ⟨h5, hf⟩ := gd_in hf
    refine va_iast (D := g.1) (f := (vT_3.2.1 4)) hx hb hK hP hD hS 4 0 rfl rfl h5 dX6_note_30 (fun H locs hP hD hS => ?_)
    obtain ⟨vT_6, evT_6⟩ : ∃ z, z = sI vT_3 4 (x2).toNatClampNeg ((vT_3.2.1 4 (x2).toNatClampNeg) &&& (((1 : Int32) <<< (x1 &&& 31)) ^^^ (-1 : Int32))) := ⟨_, rfl⟩
    have hf := bn_at hf evT_6
    have hP : va_P g.1 vwCl (cT g bT vT_6) H := by rw [evT_6]; exact hP
    have hD : va_D A (cT g bT vT_6) := by rw [evT_6]; exact hD
    refine lv_iload_n hx hb dX6_note_31 rfl (lv_at hl 4 rfl) ?_
    obtain ⟨k8, hk11, hf⟩ := jn_at hf
    have hJ9 : ∀ (vT_7 : Vs), k8 vT_7 = some vT1 → ∀ (H : Heap) (locs : List Loc), va_P g.1 vwCl (cT g bT vT_7) H → va_D A (cT g bT vT_7) → va_S A s.heap H locs → ∀ ls : Array Slot, lv_has ls 5 [] → W p l e (headSpec wsX6_note rmX6_note).room s m ([.ref (bT 0), .int x1, .int x2, .int x3] : List Value).toArray below meth c H locs 0 0 (MQ below (qV g A (cT g bT vT1)) ([.ref (bT 0), .int x1, .int x2, .int x3] : List Value).toArray s 0 0 A) (F0 m 65 ls []) := by
      intro vT_7 hf H locs hP hD hS ls hl
      rw [hk11] at hf
      dsimp only at hf
      clear hk11
      have e10 := Option.some.inj hf
      rw [e10] at hP hD
      exact k_vret hx hb hr hlocks hK hP hD hS dX6_note_65
    refine lv_if_ne (tgt := 49) hx hb dX6_note_32 (by decide) (fun c12 => ?_) (fun c12 => ?_)
    · have hf := it_f hf c12
      refine lv_iload_n hx hb dX6_note_49 rfl (lv_at hl 4 rfl) ?_
      refine lv_iconst (v := (1 : Int32)) hx hb dX6_note_50 (by decide) ?_
      refine lv_icmp_ne (tgt := 65) hx hb dX6_note_51 (by decide) (fun c13 => ?_) (fun c13 => ?_)
      · have hf := it_f hf c13
        exact hJ9 vT_6 hf H locs hP hD hS _ (lv_sub hl [] rfl)
      · have hf := it_t hf c13
        refine lv_aload_n hx hb dX6_note_54 rfl (lv_at hl 1 rfl) ?_
        refine va_get (D := g.1) (ci := 6) (fs := fcT bT vT_6) (v := .ref (bT 5)) (C := RX6) (T := TX6) (N := 5) hx hb htu hinX6 hown hK hP 0 rfl rfl 4 (by decide) k_1_136 (fun _ h9 => h9) rfl dX6_note_55 ?_
        refine lv_iload_n hx hb dX6_note_58 rfl (lv_at hl 3 rfl) ?_
        refine lv_dup2_11 hx hb dX6_note_59 rfl rfl ?_
        obtain ⟨h14, hf⟩ := gd_in hf
        refine va_iald (D := g.1) (f := (vT_6.2.1 4)) hx hb hK hP 4 0 rfl rfl h14 dX6_note_60 ?_
        refine lv_iload hx hb dX6_note_61 (lv_at hl 0 rfl) ?_
        refine lv_ior hx hb dX6_note_63 ?_
        obtain ⟨h15, hf⟩ := gd_in hf
        refine va_iast (D := g.1) (f := (vT_6.2.1 4)) hx hb hK hP hD hS 4 0 rfl rfl h15 dX6_note_64 (fun H locs hP hD hS => ?_)
        obtain ⟨vT_16, evT_16⟩ : ∃ z, z = sI vT_6 4 (x2).toNatClampNeg ((vT_6.2.1 4 (x2).toNatClampNeg) ||| ((1 : Int32) <<< (x1 &&& 31))) := ⟨_, rfl⟩
        have hf := bn_at hf evT_16
        have hP : va_P g.1 vwCl (cT g bT vT_16) H := by rw [evT_16]; exact hP
        have hD : va_D A (cT g bT vT_16) := by rw [evT_16]; exact hD
        exact hJ9 vT_16 hf H locs hP hD hS _ (lv_sub hl [] rfl)
    · have hf := it_t hf c12
      refine lv_aload_n hx hb dX6_note_35 rfl (lv_at hl 1 rfl) ?_
      refine va_get (D := g.1) (ci := 6) (fs := fcT bT vT_6) (v := .ref (bT 4)) (C := RX6) (T := TX6) (N := 5) hx hb htu hinX6 hown hK hP 0 rfl rfl 3 (by decide) k_1_134 (fun _ h9 => h9) rfl dX6_note_36 ?_
      refine lv_iload_n hx hb dX6_note_39 rfl (lv_at hl 3 rfl) ?_
      refine lv_dup2_11 hx hb dX6_note_40 rfl rfl ?_
      obtain ⟨h17, hf⟩ := gd_in hf
      refine va_iald (D := g.1) (f := (vT_6.2.1 3)) hx hb hK hP 3 0 rfl rfl h17 dX6_note_41 ?_
      refine lv_iload hx hb dX6_note_42 (lv_at hl 0 rfl) ?_
      refine lv_ior hx hb dX6_note_44 ?_
      obtain ⟨h18, hf⟩ := gd_in hf
      refine va_iast (D := g.1) (f := (vT_6.2.1 3)) hx hb hK hP hD hS 3 0 rfl rfl h18 dX6_note_45 (fun H locs hP hD hS => ?_)
      obtain ⟨vT_19, evT_19⟩ : ∃ z, z = sI vT_6 3 (x2).toNatClampNeg ((vT_6.2.1 3 (x2).toNatClampNeg) ||| ((1 : Int32) <<< (x1 &&& 31))) := ⟨_, rfl⟩
      have hf := bn_at hf evT_19
      have hP : va_P g.1 vwCl (cT g bT vT_19) H := by rw [evT_19]; exact hP
      have hD : va_D A (cT g bT vT_19) := by rw [evT_19]; exact hD
      refine lv_goto (tgt := 65) hx hb dX6_note_46 (by decide) ?_
      exact hJ9 vT_19 hf H locs hP hD hS _ (lv_sub hl [] rfl)
  rw [hH, hlo] at hW
  exact hW
def f_X6_noted (vT : Vs) (x1 : Int32) (x2 : Int32) : Option (Int32) :=
  gd (inb x2 6) (o1 (f_X0_hasBit (vT.2.1 3 (x2).toNatClampNeg) x1) (fun (r2 : Int32) => if r2 = 0 then gd (inb x2 6) (o1 (f_X0_hasBit (vT.2.1 4 (x2).toNatClampNeg) x1) (fun (r6 : Int32) => jn (fun (t8 : Int32) => some (t8)) (fun k9 => if r6 = 0 then k9 (2 : Int32) else k9 (1 : Int32)))) else some ((0 : Int32))))
abbrev wsX6_noted : List Cond := .code yX6_noted cX6_noted 3 (some .int) :: UW
abbrev rmX6_noted : Room := { frames := 1, cells := 0, slots := 0, locals := 21 }
set_option maxHeartbeats 4000000 in
set_option maxRecDepth 100000 in
theorem c_X6_noted (l : Launch) (g : Gx) (bT : Nat → Nat) (vT : Vs) (x1 : Int32) (x2 : Int32) (r : Int32) (hf : f_X6_noted vT x1 x2 = some r) : CtI l yX6_noted wsX6_noted rmX6_noted g [.ref (bT 0), .int x1, .int x2] (cT g bT vT) (cT g bT vT) r 0 0 := by
  unfold CtI
  intro sz
  refine Met.ofW (cc := cX6_noted) (maxL := 3) (ret := (some .int)) (by decide) rfl ?_
  intro p e s m args below meth c s₁ B hml hv
  obtain ⟨rfl, hsz, hP, hK, hD0, hG⟩ := hv
  have hx := B.exec
  have hb := B.bytes
  have hr := B.returns
  have hts := atoms_spec (ws := wsX6_noted) B.pre
  have hown : s.vm.findClass RX6 = some m.cls := findClass_of_methodNamed B.named
  have hlocks := B.notSynchronized
  subst hsz
  have hD := hD0.self (sz := s.heap.size)
  generalize hAe : va_A (cT g bT vT) s.heap.size = A at hD hG ⊢
  have hA : ∀ q : Nat, s.heap.size ≤ q → A q := fun q h => by rw [← hAe]; exact Or.inr h
  clear hAe hD0
  have hS : va_S A s.heap s.heap [] := va_S.rf
  have hl := lv_entry ([.ref (bT 0), .int x1, .int x2]) (n := 3) (Nat.le_of_ble_eq_true rfl)
  rw [lg_entry_eq]
  generalize (lg_sl ([.ref (bT 0), .int x1, .int x2]) ++ List.replicate (3 - (lg_sl ([.ref (bT 0), .int x1, .int x2])).length) Slot.unset).toArray = ls at hl ⊢
  have hl : lv_has ls 3 [(0, .ref (bT 0)), (1, .int x1), (2, .int x2)] := hl
  have htu : ∀ w ∈ UW, w.before _ s = true := fun w h => hts w (List.mem_cons_of_mem _ h)
  have k_1_134 := htu _ mw_1_134
  have k_1_136 := htu _ mw_1_136
  unfold f_X6_noted at hf
  obtain ⟨H, hH⟩ : ∃ z, z = s.heap := ⟨_, rfl⟩
  obtain ⟨locs, hlo⟩ : ∃ z : List Loc, z = [] := ⟨_, rfl⟩
  have hS : va_S A s.heap H locs := by rw [hH, hlo]; exact hS
  rw [← hH] at hP
  have hW : W p l e (headSpec wsX6_noted rmX6_noted).room s m ([.ref (bT 0), .int x1, .int x2] : List Value).toArray below meth c H locs 0 0 (MQ below (qI g A (cT g bT vT) r) ([.ref (bT 0), .int x1, .int x2] : List Value).toArray s 0 0 A) (F0 m 0 ls []) := by
    refine lv_aload_n hx hb dX6_noted_0 rfl (lv_at hl 0 rfl) ?_
    refine va_get (D := g.1) (ci := 6) (fs := fcT bT vT) (v := .ref (bT 4)) (C := RX6) (T := TX6) (N := 5) hx hb htu hinX6 hown hK hP 0 rfl rfl 3 (by decide) k_1_134 (fun _ h9 => h9) rfl dX6_noted_1 ?_
    refine lv_iload_n hx hb dX6_noted_4 rfl (lv_at hl 2 rfl) ?_
    obtain ⟨h1, hf⟩ := gd_in hf
    refine va_iald (D := g.1) (f := (vT.2.1 3)) hx hb hK hP 3 0 rfl rfl h1 dX6_noted_5 ?_
    refine lv_iload_n hx hb dX6_noted_6 rfl (lv_at hl 1 rfl) ?_
    obtain ⟨r2, hg3, hf⟩ := o1_at hf
    refine k_si0 ⟨hx, hb, hml, hown, htu⟩ hK hP hD hS hA hG (c_X0_hasBit l g (vT.2.1 3 (x2).toNatClampNeg) x1 r2 hg3) (va_cwS 2 htu (gU_S mw_3_166 hcX0_hasBit) rfl rfl rfl hdX0_hasBit ⟨Nat.le_of_ble_eq_true rfl, Nat.le_of_ble_eq_true rfl⟩) (As := [.int (vT.2.1 3 (x2).toNatClampNeg), .int x1]) (rest := []) rfl rfl hl.1 (Nat.le_of_ble_eq_true rfl) dX6_noted_7 (k1 := 0) (n1 := 0) rfl rfl ⟨Nat.zero_le _, Nat.zero_le _⟩ (fun H locs hP hD hS => ?_)
    refine lv_if_eq (tgt := 15) hx hb dX6_noted_10 (by decide) (fun c4 => ?_) (fun c4 => ?_)
    · have hf := it_t hf c4
      refine lv_aload_n hx hb dX6_noted_15 rfl (lv_at hl 0 rfl) ?_
      refine va_get (D := g.1) (ci := 6) (fs := fcT bT vT) (v := .ref (bT 5)) (C := RX6) (T := TX6) (N := 5) hx hb htu hinX6 hown hK hP 0 rfl rfl 4 (by decide) k_1_136 (fun _ h9 => h9) rfl dX6_noted_16 ?_
      refine lv_iload_n hx hb dX6_noted_19 rfl (lv_at hl 2 rfl) ?_
      obtain ⟨h5, hf⟩ := gd_in hf
      refine va_iald (D := g.1) (f := (vT.2.1 4)) hx hb hK hP 4 0 rfl rfl h5 dX6_noted_20 ?_
      refine lv_iload_n hx hb dX6_noted_21 rfl (lv_at hl 1 rfl) ?_
      obtain ⟨r6, hg7, hf⟩ := o1_at hf
      refine k_si0 ⟨hx, hb, hml, hown, htu⟩ hK hP hD hS hA hG (c_X0_hasBit l g (vT.2.1 4 (x2).toNatClampNeg) x1 r6 hg7) (va_cwS 2 htu (gU_S mw_3_166 hcX0_hasBit) rfl rfl rfl hdX0_hasBit ⟨Nat.le_of_ble_eq_true rfl, Nat.le_of_ble_eq_true rfl⟩) (As := [.int (vT.2.1 4 (x2).toNatClampNeg), .int x1]) (rest := []) rfl rfl hl.1 (Nat.le_of_ble_eq_true rfl) dX6_noted_22 (k1 := 0) (n1 := 0) rfl rfl ⟨Nat.zero_le _, Nat.zero_le _⟩ (fun H locs hP hD hS => ?_)
      obtain ⟨k9, hk12, hf⟩ := jn_at hf
      have hJ10 : ∀ (t8 : Int32), k9 t8 = some r → ∀ (H : Heap) (locs : List Loc), va_P g.1 vwCl (cT g bT vT) H → va_D A (cT g bT vT) → va_S A s.heap H locs → ∀ ls : Array Slot, lv_has ls 3 [] → W p l e (headSpec wsX6_noted rmX6_noted).room s m ([.ref (bT 0), .int x1, .int x2] : List Value).toArray below meth c H locs 0 0 (MQ below (qI g A (cT g bT vT) r) ([.ref (bT 0), .int x1, .int x2] : List Value).toArray s 0 0 A) (F0 m 33 ls [.int t8]) := by
        intro t8 hf H locs hP hD hS ls hl
        rw [hk12] at hf
        dsimp only at hf
        clear hk12
        have e11 := Option.some.inj hf
        exact k_iret hx hb hr hlocks hK hP hD hS e11 dX6_noted_33
      refine lv_if_eq (tgt := 32) hx hb dX6_noted_25 (by decide) (fun c13 => ?_) (fun c13 => ?_)
      · have hf := it_t hf c13
        refine lv_iconst (v := (2 : Int32)) hx hb dX6_noted_32 (by decide) ?_
        exact hJ10 (2 : Int32) hf H locs hP hD hS _ (lv_sub hl [] rfl)
      · have hf := it_f hf c13
        refine lv_iconst (v := (1 : Int32)) hx hb dX6_noted_28 (by decide) ?_
        refine lv_goto (tgt := 33) hx hb dX6_noted_29 (by decide) ?_
        exact hJ10 (1 : Int32) hf H locs hP hD hS _ (lv_sub hl [] rfl)
    · have hf := it_f hf c4
      refine lv_iconst (v := (0 : Int32)) hx hb dX6_noted_13 (by decide) ?_
      have e14 := Option.some.inj hf
      exact k_iret hx hb hr hlocks hK hP hD hS e14 dX6_noted_14
  rw [hH, hlo] at hW
  exact hW
def f_X6_countSeen_L4 (vT : Vs) (self3 : Int32 → Int32 → Option (Int32)) (x1_1 : Int32) (x2_2 : Int32) : Option (Int32) :=
  if (6 : Int32) ≤ x2_2 then some (x1_1) else gd (inb x2_2 6) (o1 (f_J6_bitCount_0f7a4 (vT.2.1 3 (x2_2).toNatClampNeg)) (fun (r9 : Int32) => gd (inb x2_2 6) (o1 (f_J6_bitCount_0f7a4 (vT.2.1 4 (x2_2).toNatClampNeg)) (fun (r12 : Int32) => self3 (x1_1 + (r9 + r12)) (x2_2 + (1 : Int32))))))
def f_X6_countSeen (vT : Vs) : Option (Int32) :=
  lp (f_X6_countSeen_L4 vT) (fun _ _ => none) FU (0 : Int32) (0 : Int32)
abbrev wsX6_countSeen : List Cond := .code yX6_countSeen cX6_countSeen 3 (some .int) :: UW
abbrev rmX6_countSeen : Room := { frames := 1, cells := 0, slots := 0, locals := 20 }
set_option maxHeartbeats 4000000 in
set_option maxRecDepth 100000 in
theorem c_X6_countSeen (l : Launch) (g : Gx) (bT : Nat → Nat) (vT : Vs) (r : Int32) (hf : f_X6_countSeen vT = some r) : CtI l yX6_countSeen wsX6_countSeen rmX6_countSeen g [.ref (bT 0)] (cT g bT vT) (cT g bT vT) r 0 0 := by
  unfold CtI
  intro sz
  refine Met.ofW (cc := cX6_countSeen) (maxL := 3) (ret := (some .int)) (by decide) rfl ?_
  intro p e s m args below meth c s₁ B hml hv
  obtain ⟨rfl, hsz, hP, hK, hD0, hG⟩ := hv
  have hx := B.exec
  have hb := B.bytes
  have hr := B.returns
  have hts := atoms_spec (ws := wsX6_countSeen) B.pre
  have hown : s.vm.findClass RX6 = some m.cls := findClass_of_methodNamed B.named
  have hlocks := B.notSynchronized
  subst hsz
  have hD := hD0.self (sz := s.heap.size)
  generalize hAe : va_A (cT g bT vT) s.heap.size = A at hD hG ⊢
  have hA : ∀ q : Nat, s.heap.size ≤ q → A q := fun q h => by rw [← hAe]; exact Or.inr h
  clear hAe hD0
  have hS : va_S A s.heap s.heap [] := va_S.rf
  have hl := lv_entry ([.ref (bT 0)]) (n := 3) (Nat.le_of_ble_eq_true rfl)
  rw [lg_entry_eq]
  generalize (lg_sl ([.ref (bT 0)]) ++ List.replicate (3 - (lg_sl ([.ref (bT 0)])).length) Slot.unset).toArray = ls at hl ⊢
  have hl : lv_has ls 3 [(0, .ref (bT 0))] := hl
  have htu : ∀ w ∈ UW, w.before _ s = true := fun w h => hts w (List.mem_cons_of_mem _ h)
  have k_1_134 := htu _ mw_1_134
  have k_1_136 := htu _ mw_1_136
  unfold f_X6_countSeen at hf
  obtain ⟨H, hH⟩ : ∃ z, z = s.heap := ⟨_, rfl⟩
  obtain ⟨locs, hlo⟩ : ∃ z : List Loc, z = [] := ⟨_, rfl⟩
  have hS : va_S A s.heap H locs := by rw [hH, hlo]; exact hS
  rw [← hH] at hP
  have hW : W p l e (headSpec wsX6_countSeen rmX6_countSeen).room s m ([.ref (bT 0)] : List Value).toArray below meth c H locs 0 0 (MQ below (qI g A (cT g bT vT) r) ([.ref (bT 0)] : List Value).toArray s 0 0 A) (F0 m 0 ls []) := by
    refine lv_iconst (v := (0 : Int32)) hx hb dX6_countSeen_0 (by decide) ?_
    refine lv_istore_n (lv' := [(1, .int (0 : Int32)), (0, .ref (bT 0))]) hx hb dX6_countSeen_1 rfl hl (by decide) rfl (fun ls hl => ?_)
    refine lv_iconst (v := (0 : Int32)) hx hb dX6_countSeen_2 (by decide) ?_
    refine lv_istore_n (lv' := [(2, .int (0 : Int32)), (1, .int (0 : Int32)), (0, .ref (bT 0))]) hx hb dX6_countSeen_3 rfl hl (by decide) rfl (fun ls hl => ?_)
    have hL4 : ∀ (x1_1 : Int32) (x2_2 : Int32), lp (f_X6_countSeen_L4 vT) (fun _ _ => none) FU x1_1 x2_2 = some r → ∀ (H : Heap) (locs : List Loc), va_P g.1 vwCl (cT g bT vT) H → va_D A (cT g bT vT) → va_S A s.heap H locs → ∀ ls : Array Slot, lv_has ls 3 [(0, .ref (bT 0)), (1, .int x1_1), (2, .int x2_2)] → W p l e (headSpec wsX6_countSeen rmX6_countSeen).room s m ([.ref (bT 0)] : List Value).toArray below meth c H locs 0 0 (MQ below (qI g A (cT g bT vT) r) ([.ref (bT 0)] : List Value).toArray s 0 0 A) (F0 m 4 ls []) := by
      refine lp_ind (T := Int32 → Int32 → Option (Int32)) (fun self3 => ∀ (x1_1 : Int32) (x2_2 : Int32), self3 x1_1 x2_2 = some r → ∀ (H : Heap) (locs : List Loc), va_P g.1 vwCl (cT g bT vT) H → va_D A (cT g bT vT) → va_S A s.heap H locs → ∀ ls : Array Slot, lv_has ls 3 [(0, .ref (bT 0)), (1, .int x1_1), (2, .int x2_2)] → W p l e (headSpec wsX6_countSeen rmX6_countSeen).room s m ([.ref (bT 0)] : List Value).toArray below meth c H locs 0 0 (MQ below (qI g A (cT g bT vT) r) ([.ref (bT 0)] : List Value).toArray s 0 0 A) (F0 m 4 ls [])) ?_ ?_ FU
      · intro x1_1 x2_2 hf; cases hf
      · intro self3 ih5 x1_1 x2_2 hf H locs hP hD hS ls hl
        unfold f_X6_countSeen_L4 at hf
        refine lv_iload_n hx hb dX6_countSeen_4 rfl (lv_at hl 2 rfl) ?_
        refine lv_bipush (v := (6 : Int32)) hx hb dX6_countSeen_5 (by decide) ?_
        refine lv_icmp_ge (tgt := 38) hx hb dX6_countSeen_7 (by decide) (fun c6 => ?_) (fun c6 => ?_)
        · have hf := it_t hf c6
          refine lv_iload_n hx hb dX6_countSeen_38 rfl (lv_at hl 1 rfl) ?_
          have e7 := Option.some.inj hf
          exact k_iret hx hb hr hlocks hK hP hD hS e7 dX6_countSeen_39
        · have hf := it_f hf c6
          refine lv_iload_n hx hb dX6_countSeen_10 rfl (lv_at hl 1 rfl) ?_
          refine lv_aload_n hx hb dX6_countSeen_11 rfl (lv_at hl 0 rfl) ?_
          refine va_get (D := g.1) (ci := 6) (fs := fcT bT vT) (v := .ref (bT 4)) (C := RX6) (T := TX6) (N := 5) hx hb htu hinX6 hown hK hP 0 rfl rfl 3 (by decide) k_1_134 (fun _ h9 => h9) rfl dX6_countSeen_12 ?_
          refine lv_iload_n hx hb dX6_countSeen_15 rfl (lv_at hl 2 rfl) ?_
          obtain ⟨h8, hf⟩ := gd_in hf
          refine va_iald (D := g.1) (f := (vT.2.1 3)) hx hb hK hP 3 0 rfl rfl h8 dX6_countSeen_16 ?_
          obtain ⟨r9, hg10, hf⟩ := o1_at hf
          refine k_si0 ⟨hx, hb, hml, hown, htu⟩ hK hP hD hS hA hG (c_J6_bitCount_0f7a4 l g (vT.2.1 3 (x2_2).toNatClampNeg) r9 hg10) (va_cwS 1 htu (gU_S mw_3_0 hcJ6_bitCount_0f7a4) rfl rfl rfl hdJ6_bitCount_0f7a4 ⟨Nat.le_of_ble_eq_true rfl, Nat.le_of_ble_eq_true rfl⟩) (As := [.int (vT.2.1 3 (x2_2).toNatClampNeg)]) (rest := [.int x1_1]) rfl rfl hl.1 (Nat.le_of_ble_eq_true rfl) dX6_countSeen_17 (k1 := 0) (n1 := 0) rfl rfl ⟨Nat.zero_le _, Nat.zero_le _⟩ (fun H locs hP hD hS => ?_)
          refine lv_aload_n hx hb dX6_countSeen_20 rfl (lv_at hl 0 rfl) ?_
          refine va_get (D := g.1) (ci := 6) (fs := fcT bT vT) (v := .ref (bT 5)) (C := RX6) (T := TX6) (N := 5) hx hb htu hinX6 hown hK hP 0 rfl rfl 4 (by decide) k_1_136 (fun _ h9 => h9) rfl dX6_countSeen_21 ?_
          refine lv_iload_n hx hb dX6_countSeen_24 rfl (lv_at hl 2 rfl) ?_
          obtain ⟨h11, hf⟩ := gd_in hf
          refine va_iald (D := g.1) (f := (vT.2.1 4)) hx hb hK hP 4 0 rfl rfl h11 dX6_countSeen_25 ?_
          obtain ⟨r12, hg13, hf⟩ := o1_at hf
          refine k_si0 ⟨hx, hb, hml, hown, htu⟩ hK hP hD hS hA hG (c_J6_bitCount_0f7a4 l g (vT.2.1 4 (x2_2).toNatClampNeg) r12 hg13) (va_cwS 1 htu (gU_S mw_3_0 hcJ6_bitCount_0f7a4) rfl rfl rfl hdJ6_bitCount_0f7a4 ⟨Nat.le_of_ble_eq_true rfl, Nat.le_of_ble_eq_true rfl⟩) (As := [.int (vT.2.1 4 (x2_2).toNatClampNeg)]) (rest := [.int r9, .int x1_1]) rfl rfl hl.1 (Nat.le_of_ble_eq_true rfl) dX6_countSeen_26 (k1 := 0) (n1 := 0) rfl rfl ⟨Nat.zero_le _, Nat.zero_le _⟩ (fun H locs hP hD hS => ?_)
          refine lv_iadd hx hb dX6_countSeen_29 ?_
          refine lv_iadd hx hb dX6_countSeen_30 ?_
          refine lv_istore_n (lv' := [(1, .int (x1_1 + (r9 + r12))), (0, .ref (bT 0)), (2, .int x2_2)]) hx hb dX6_countSeen_31 rfl hl (by decide) rfl (fun ls hl => ?_)
          refine lv_iinc (v := (x2_2 + (1 : Int32))) (lv' := [(2, .int (x2_2 + (1 : Int32))), (1, .int (x1_1 + (r9 + r12))), (0, .ref (bT 0))]) hx hb dX6_countSeen_32 hl (k := 2) rfl rfl (by decide) rfl (fun ls hl => ?_)
          refine lv_goto (tgt := 4) hx hb dX6_countSeen_35 (by decide) ?_
          exact ih5 (x1_1 + (r9 + r12)) (x2_2 + (1 : Int32)) hf H locs hP hD hS _ (lv_sub hl [2, 1, 0] rfl)
    exact hL4 (0 : Int32) (0 : Int32) hf H locs hP hD hS _ (lv_sub hl [2, 1, 0] rfl)
  rw [hH, hlo] at hW
  exact hW
def f_X4_clear (vC : Vs) (vT : Vs) (x1 : Int32) : Option (Vs × Vs) :=
  o1 (f_X0_clear vC x1) (fun (vC_1 : Vs) => o1 (f_X6_clear vT) (fun (vT_3 : Vs) => some (vC_1, vT_3)))
abbrev wsX4_clear : List Cond := .code yX4_clear cX4_clear 2 none :: UW
abbrev rmX4_clear : Room := { frames := 2, cells := 0, slots := 0, locals := 41 }
set_option maxHeartbeats 4000000 in
set_option maxRecDepth 100000 in
theorem c_X4_clear (l : Launch) (g : Gx) (bS : Nat → Nat) (bC : Nat → Nat) (vC : Vs) (bT : Nat → Nat) (vT : Vs) (x1 : Int32) (vC1 : Vs) (vT1 : Vs) (hf : f_X4_clear vC vT x1 = some (vC1, vT1)) : CtV l yX4_clear wsX4_clear rmX4_clear g [.ref (bS 0), .int x1] (cS g bS (bC 0) (bT 0) ++ (cC g bC vC ++ (cT g bT vT))) (cS g bS (bC 0) (bT 0) ++ (cC g bC vC1 ++ (cT g bT vT1))) 0 0 := by
  unfold CtV
  intro sz
  refine Met.ofW (cc := cX4_clear) (maxL := 2) (ret := none) (by decide) rfl ?_
  intro p e s m args below meth c s₁ B hml hv
  obtain ⟨rfl, hsz, hP, hK, hD0, hG⟩ := hv
  have hx := B.exec
  have hb := B.bytes
  have hr := B.returns
  have hts := atoms_spec (ws := wsX4_clear) B.pre
  have hown : s.vm.findClass RX4 = some m.cls := findClass_of_methodNamed B.named
  have hlocks := B.notSynchronized
  subst hsz
  have hD := hD0.self (sz := s.heap.size)
  generalize hAe : va_A (cS g bS (bC 0) (bT 0) ++ (cC g bC vC ++ (cT g bT vT))) s.heap.size = A at hD hG ⊢
  have hA : ∀ q : Nat, s.heap.size ≤ q → A q := fun q h => by rw [← hAe]; exact Or.inr h
  clear hAe hD0
  have hS : va_S A s.heap s.heap [] := va_S.rf
  have hl := lv_entry ([.ref (bS 0), .int x1]) (n := 2) (Nat.le_of_ble_eq_true rfl)
  rw [lg_entry_eq]
  generalize (lg_sl ([.ref (bS 0), .int x1]) ++ List.replicate (2 - (lg_sl ([.ref (bS 0), .int x1])).length) Slot.unset).toArray = ls at hl ⊢
  have hl : lv_has ls 2 [(0, .ref (bS 0)), (1, .int x1)] := hl
  have htu : ∀ w ∈ UW, w.before _ s = true := fun w h => hts w (List.mem_cons_of_mem _ h)
  have k_1_149 := htu _ mw_1_149
  have k_1_152 := htu _ mw_1_152
  unfold f_X4_clear at hf
  obtain ⟨H, hH⟩ : ∃ z, z = s.heap := ⟨_, rfl⟩
  obtain ⟨locs, hlo⟩ : ∃ z : List Loc, z = [] := ⟨_, rfl⟩
  have hS : va_S A s.heap H locs := by rw [hH, hlo]; exact hS
  rw [← hH] at hP
  have hW : W p l e (headSpec wsX4_clear rmX4_clear).room s m ([.ref (bS 0), .int x1] : List Value).toArray below meth c H locs 0 0 (MQ below (qV g A (cS g bS (bC 0) (bT 0) ++ (cC g bC vC1 ++ (cT g bT vT1)))) ([.ref (bS 0), .int x1] : List Value).toArray s 0 0 A) (F0 m 0 ls []) := by
    refine lv_aload_n hx hb dX4_clear_0 rfl (lv_at hl 0 rfl) ?_
    refine va_get (D := g.1) (ci := 4) (fs := fcS bS (bC 0) (bT 0)) (v := .ref (bC 0)) (C := RX4) (T := TX4) (N := 2) hx hb htu hinX4 hown hK hP 0 rfl rfl 0 (by decide) k_1_149 (fun _ h9 => h9) rfl dX4_clear_1 ?_
    refine lv_iload_n hx hb dX4_clear_4 rfl (lv_at hl 1 rfl) ?_
    obtain ⟨vC_1, hg2, hf⟩ := o1_at hf
    refine k_vvP ⟨hx, hb, hml, hown, htu⟩ hK hP hD hS hA hG (c_X0_clear l g bC vC x1 vC_1 hg2) (cwV 1 htu (gU_V mw_3_185 hcX0_clear) rfl rfl rfl hdX0_clear ⟨Nat.le_of_ble_eq_true rfl, Nat.le_of_ble_eq_true rfl⟩) (q0 := 1) (ci := 0) (fs := fcC bC vC) (q := (RX0, TX0, 14)) rfl rfl rfl (wr := (cS g bS (bC 0) (bT 0) ++ (cT g bT vT))) (w2 := cS g bS (bC 0) (bT 0) ++ (cC g bC vC_1 ++ (cT g bT vT))) [1, 2, 3, 4, 5, 6, 7, 8, 9, 10, 11] [0, 12, 13, 14, 15, 16] [0, 6, 7, 8, 9, 10, 11, 12, 13, 14, 15, 16, 1, 2, 3, 4, 5] rfl rfl (by decide) (by decide) (by decide) rfl rfl (by decide) (As := [.int x1]) (rest := []) rfl rfl hl.1 (Nat.le_of_ble_eq_true rfl) dX4_clear_5 (k1 := 0) (n1 := 0) rfl rfl ⟨Nat.zero_le _, Nat.zero_le _⟩ (fun H locs hP hD hS => ?_)
    refine lv_aload_n hx hb dX4_clear_8 rfl (lv_at hl 0 rfl) ?_
    refine va_get (D := g.1) (ci := 4) (fs := fcS bS (bC 0) (bT 0)) (v := .ref (bT 0)) (C := RX4) (T := TX4) (N := 2) hx hb htu hinX4 hown hK hP 0 rfl rfl 1 (by decide) k_1_152 (fun _ h9 => h9) rfl dX4_clear_9 ?_
    obtain ⟨vT_3, hg4, hf⟩ := o1_at hf
    refine k_vvP ⟨hx, hb, hml, hown, htu⟩ hK hP hD hS hA hG (c_X6_clear l g bT vT vT_3 hg4) (cwV 0 htu (gU_V mw_3_186 hcX6_clear) rfl rfl rfl hdX6_clear ⟨Nat.le_of_ble_eq_true rfl, Nat.le_of_ble_eq_true rfl⟩) (q0 := 12) (ci := 6) (fs := fcT bT vT) (q := (RX6, TX6, 5)) rfl rfl rfl (wr := (cS g bS (bC 0) (bT 0) ++ (cC g bC vC_1))) (w2 := cS g bS (bC 0) (bT 0) ++ (cC g bC vC_1 ++ (cT g bT vT_3))) [12, 13, 14, 15, 16] [0, 1, 2, 3, 4, 5, 6, 7, 8, 9, 10, 11] [0, 1, 2, 3, 4, 5, 6, 7, 8, 9, 10, 11, 12, 13, 14, 15, 16] rfl rfl (by decide) (by decide) (by decide) rfl rfl (by decide) (As := []) (rest := []) rfl rfl hl.1 (Nat.le_of_ble_eq_true rfl) dX4_clear_12 (k1 := 0) (n1 := 0) rfl rfl ⟨Nat.zero_le _, Nat.zero_le _⟩ (fun H locs hP hD hS => ?_)
    obtain ⟨e5, e6⟩ := kp_2 hf
    rw [e5] at hP hD
    rw [e6] at hP hD
    exact k_vret hx hb hr hlocks hK hP hD hS dX4_clear_15
  rw [hH, hlo] at hW
  exact hW
def f_X4_copyFrom (vC : Vs) (vT : Vs) (vE : Vs) (vU : Vs) : Option (Vs × Vs) :=
  o1 (f_X0_copyFrom vC vE) (fun (vC_1 : Vs) => o1 (f_X6_copyFrom vT vU) (fun (vT_3 : Vs) => some (vC_1, vT_3)))
abbrev wsX4_copyFrom : List Cond := .code yX4_copyFrom cX4_copyFrom 2 none :: UW
abbrev rmX4_copyFrom : Room := { frames := 2, cells := 0, slots := 0, locals := 81 }
set_option maxHeartbeats 4000000 in
set_option maxRecDepth 100000 in
theorem c_X4_copyFrom (l : Launch) (g : Gx) (bS : Nat → Nat) (bC : Nat → Nat) (vC : Vs) (bT : Nat → Nat) (vT : Vs) (bS2 : Nat → Nat) (bE : Nat → Nat) (vE : Vs) (bU : Nat → Nat) (vU : Vs) (vC1 : Vs) (vT1 : Vs) (hf : f_X4_copyFrom vC vT vE vU = some (vC1, vT1)) : CtV l yX4_copyFrom wsX4_copyFrom rmX4_copyFrom g [.ref (bS 0), .ref (bS2 0)] (cS g bS (bC 0) (bT 0) ++ (cC g bC vC ++ (cT g bT vT ++ (cS g bS2 (bE 0) (bU 0) ++ (cC g bE vE ++ (cT g bU vU)))))) (cS g bS (bC 0) (bT 0) ++ (cC g bC vC1 ++ (cT g bT vT1 ++ (cS g bS2 (bE 0) (bU 0) ++ (cC g bE vE ++ (cT g bU vU)))))) 0 0 := by
  unfold CtV
  intro sz
  refine Met.ofW (cc := cX4_copyFrom) (maxL := 2) (ret := none) (by decide) rfl ?_
  intro p e s m args below meth c s₁ B hml hv
  obtain ⟨rfl, hsz, hP, hK, hD0, hG⟩ := hv
  have hx := B.exec
  have hb := B.bytes
  have hr := B.returns
  have hts := atoms_spec (ws := wsX4_copyFrom) B.pre
  have hown : s.vm.findClass RX4 = some m.cls := findClass_of_methodNamed B.named
  have hlocks := B.notSynchronized
  subst hsz
  have hD := hD0.self (sz := s.heap.size)
  generalize hAe : va_A (cS g bS (bC 0) (bT 0) ++ (cC g bC vC ++ (cT g bT vT ++ (cS g bS2 (bE 0) (bU 0) ++ (cC g bE vE ++ (cT g bU vU)))))) s.heap.size = A at hD hG ⊢
  have hA : ∀ q : Nat, s.heap.size ≤ q → A q := fun q h => by rw [← hAe]; exact Or.inr h
  clear hAe hD0
  have hS : va_S A s.heap s.heap [] := va_S.rf
  have hl := lv_entry ([.ref (bS 0), .ref (bS2 0)]) (n := 2) (Nat.le_of_ble_eq_true rfl)
  rw [lg_entry_eq]
  generalize (lg_sl ([.ref (bS 0), .ref (bS2 0)]) ++ List.replicate (2 - (lg_sl ([.ref (bS 0), .ref (bS2 0)])).length) Slot.unset).toArray = ls at hl ⊢
  have hl : lv_has ls 2 [(0, .ref (bS 0)), (1, .ref (bS2 0))] := hl
  have htu : ∀ w ∈ UW, w.before _ s = true := fun w h => hts w (List.mem_cons_of_mem _ h)
  have k_1_149 := htu _ mw_1_149
  have k_1_152 := htu _ mw_1_152
  unfold f_X4_copyFrom at hf
  obtain ⟨H, hH⟩ : ∃ z, z = s.heap := ⟨_, rfl⟩
  obtain ⟨locs, hlo⟩ : ∃ z : List Loc, z = [] := ⟨_, rfl⟩
  have hS : va_S A s.heap H locs := by rw [hH, hlo]; exact hS
  rw [← hH] at hP
  have hW : W p l e (headSpec wsX4_copyFrom rmX4_copyFrom).room s m ([.ref (bS 0), .ref (bS2 0)] : List Value).toArray below meth c H locs 0 0 (MQ below (qV g A (cS g bS (bC 0) (bT 0) ++ (cC g bC vC1 ++ (cT g bT vT1 ++ (cS g bS2 (bE 0) (bU 0) ++ (cC g bE vE ++ (cT g bU vU))))))) ([.ref (bS 0), .ref (bS2 0)] : List Value).toArray s 0 0 A) (F0 m 0 ls []) := by
    refine lv_aload_n hx hb dX4_copyFrom_0 rfl (lv_at hl 0 rfl) ?_
    refine va_get (D := g.1) (ci := 4) (fs := fcS bS (bC 0) (bT 0)) (v := .ref (bC 0)) (C := RX4) (T := TX4) (N := 2) hx hb htu hinX4 hown hK hP 0 rfl rfl 0 (by decide) k_1_149 (fun _ h9 => h9) rfl dX4_copyFrom_1 ?_
    refine lv_aload_n hx hb dX4_copyFrom_4 rfl (lv_at hl 1 rfl) ?_
    refine va_get (D := g.1) (ci := 4) (fs := fcS bS2 (bE 0) (bU 0)) (v := .ref (bE 0)) (C := RX4) (T := TX4) (N := 2) hx hb htu hinX4 hown hK hP 17 rfl rfl 0 (by decide) k_1_149 (fun _ h9 => h9) rfl dX4_copyFrom_5 ?_
    obtain ⟨vC_1, hg2, hf⟩ := o1_at hf
    refine k_vvP ⟨hx, hb, hml, hown, htu⟩ hK hP hD hS hA hG (c_X0_copyFrom l g bC vC bE vE vC_1 hg2) (cwV 1 htu (gU_V mw_2_223 hcX0_copyFrom) rfl rfl rfl hdX0_copyFrom ⟨Nat.le_of_ble_eq_true rfl, Nat.le_of_ble_eq_true rfl⟩) (q0 := 1) (ci := 0) (fs := fcC bC vC) (q := (RX0, TX0, 14)) rfl rfl rfl (wr := (cS g bS (bC 0) (bT 0) ++ (cT g bT vT ++ (cS g bS2 (bE 0) (bU 0) ++ (cT g bU vU))))) (w2 := cS g bS (bC 0) (bT 0) ++ (cC g bC vC_1 ++ (cT g bT vT ++ (cS g bS2 (bE 0) (bU 0) ++ (cC g bE vE ++ (cT g bU vU)))))) [1, 2, 3, 4, 5, 6, 7, 8, 9, 10, 11, 18, 19, 20, 21, 22, 23, 24, 25, 26, 27, 28] [0, 12, 13, 14, 15, 16, 17, 29, 30, 31, 32, 33] [0, 12, 13, 14, 15, 16, 17, 18, 19, 20, 21, 22, 1, 2, 3, 4, 5, 6, 23, 24, 25, 26, 27, 28, 29, 30, 31, 32, 33, 7, 8, 9, 10, 11] rfl rfl (by decide) (by decide) (by decide) rfl rfl (by decide) (As := [.ref (bE 0)]) (rest := []) rfl rfl hl.1 (Nat.le_of_ble_eq_true rfl) dX4_copyFrom_8 (k1 := 0) (n1 := 0) rfl rfl ⟨Nat.zero_le _, Nat.zero_le _⟩ (fun H locs hP hD hS => ?_)
    refine lv_aload_n hx hb dX4_copyFrom_11 rfl (lv_at hl 0 rfl) ?_
    refine va_get (D := g.1) (ci := 4) (fs := fcS bS (bC 0) (bT 0)) (v := .ref (bT 0)) (C := RX4) (T := TX4) (N := 2) hx hb htu hinX4 hown hK hP 0 rfl rfl 1 (by decide) k_1_152 (fun _ h9 => h9) rfl dX4_copyFrom_12 ?_
    refine lv_aload_n hx hb dX4_copyFrom_15 rfl (lv_at hl 1 rfl) ?_
    refine va_get (D := g.1) (ci := 4) (fs := fcS bS2 (bE 0) (bU 0)) (v := .ref (bU 0)) (C := RX4) (T := TX4) (N := 2) hx hb htu hinX4 hown hK hP 17 rfl rfl 1 (by decide) k_1_152 (fun _ h9 => h9) rfl dX4_copyFrom_16 ?_
    obtain ⟨vT_3, hg4, hf⟩ := o1_at hf
    refine k_vvP ⟨hx, hb, hml, hown, htu⟩ hK hP hD hS hA hG (c_X6_copyFrom l g bT vT bU vU vT_3 hg4) (cwV 1 htu (gU_V mw_2_230 hcX6_copyFrom) rfl rfl rfl hdX6_copyFrom ⟨Nat.le_of_ble_eq_true rfl, Nat.le_of_ble_eq_true rfl⟩) (q0 := 12) (ci := 6) (fs := fcT bT vT) (q := (RX6, TX6, 5)) rfl rfl rfl (wr := (cS g bS (bC 0) (bT 0) ++ (cC g bC vC_1 ++ (cS g bS2 (bE 0) (bU 0) ++ (cC g bE vE))))) (w2 := cS g bS (bC 0) (bT 0) ++ (cC g bC vC_1 ++ (cT g bT vT_3 ++ (cS g bS2 (bE 0) (bU 0) ++ (cC g bE vE ++ (cT g bU vU)))))) [12, 13, 14, 15, 16, 29, 30, 31, 32, 33] [0, 1, 2, 3, 4, 5, 6, 7, 8, 9, 10, 11, 17, 18, 19, 20, 21, 22, 23, 24, 25, 26, 27, 28] [0, 1, 2, 3, 4, 5, 6, 7, 8, 9, 10, 11, 24, 25, 26, 27, 28, 12, 13, 14, 15, 16, 17, 18, 19, 20, 21, 22, 23, 29, 30, 31, 32, 33] rfl rfl (by decide) (by decide) (by decide) rfl rfl (by decide) (As := [.ref (bU 0)]) (rest := []) rfl rfl hl.1 (Nat.le_of_ble_eq_true rfl) dX4_copyFrom_19 (k1 := 0) (n1 := 0) rfl rfl ⟨Nat.zero_le _, Nat.zero_le _⟩ (fun H locs hP hD hS => ?_)
    obtain ⟨e5, e6⟩ := kp_2 hf
    rw [e5] at hP hD
    rw [e6] at hP hD
    exact k_vret hx hb hr hlocks hK hP hD hS dX4_copyFrom_22
  rw [hH, hlo] at hW
  exact hW
