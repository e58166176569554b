def f_X6_clearSeen_L2 (self3 : Int32 → Vs → Option (Vs)) (x1_1 : Int32) (vT_2 : Vs) : Option (Vs) :=
  if (6 : Int32) ≤ x1_1 then some (vT_2) else gd (inb x1_1 6) (bn (sI vT_2 3 (x1_1).toNatClampNeg (0 : Int32)) (fun (vT_9 : Vs) => gd (inb x1_1 6) (bn (sI vT_9 4 (x1_1).toNatClampNeg (0 : Int32)) (fun (vT_11 : Vs) => self3 (x1_1 + (1 : Int32)) vT_11))))
def f_X6_clearSeen (vT : Vs) : Option (Vs) :=
  lp f_X6_clearSeen_L2 (fun _ _ => none) FU (0 : Int32) vT
abbrev wsX6_clearSeen : List Cond := .code yX6_clearSeen cX6_clearSeen 2 none :: UW
abbrev rmX6_clearSeen : Room := { frames := 0, cells := 0, slots := 0, locals := 0 }
set_option maxHeartbeats 4000000 in
set_option maxRecDepth 100000 in
theorem c_X6_clearSeen (l : Launch) (g : Gx) (bT : Nat → Nat) (vT : Vs) (vT1 : Vs) (hf : f_X6_clearSeen vT = some vT1) : CtV l yX6_clearSeen wsX6_clearSeen rmX6_clearSeen g [.ref (bT 0)] (cT g bT vT) (cT g bT vT1) 0 0 := by
  unfold CtV
  intro sz
  refine Met.ofW (cc := cX6_clearSeen) (maxL := 2) (ret := none) (by decide) rfl ?_
  intro p e s m args below meth c s₁ B hml hv
  obtain ⟨rfl, hsz, hP, hK, hD0, hG⟩ := hv
  have hx := B.exec
  have hb := B.bytes
  have hr := B.returns
  have hts := atoms_spec (ws := wsX6_clearSeen) B.pre
  have hown : s.vm.findClass RX6 = some m.cls := findClass_of_methodNamed B.named
  have hlocks := B.notSynchronized
  subst hsz
  have hD := hD0.self (sz := s.heap.size)
  generalize hAe : va_A (cT g bT vT) s.heap.size = A at hD hG ⊢
  have hA : ∀ q : Nat, s.heap.size ≤ q → A q := fun q h => by rw [← hAe]; exact Or.inr h
  clear hAe hD0
  have hS : va_S A s.heap s.heap [] := va_S.rf
  have hl := lv_entry ([.ref (bT 0)]) (n := 2) (Nat.le_of_ble_eq_true rfl)
  rw [lg_entry_eq]
  generalize (lg_sl ([.ref (bT 0)]) ++ List.replicate (2 - (lg_sl ([.ref (bT 0)])).length) Slot.unset).toArray = ls at hl ⊢
  have hl : lv_has ls 2 [(0, .ref (bT 0))] := hl
  have htu : ∀ w ∈ UW, w.before _ s = true := fun w h => hts w (List.mem_cons_of_mem _ h)
  have k_1_133 := htu _ mw_1_133
  have k_1_134 := htu _ mw_1_134
  unfold f_X6_clearSeen at hf
  obtain ⟨H, hH⟩ : ∃ z, z = s.heap := ⟨_, rfl⟩
  obtain ⟨locs, hlo⟩ : ∃ z : List Loc, z = [] := ⟨_, rfl⟩
  have hS : va_S A s.heap H locs := by rw [hH, hlo]; exact hS
  rw [← hH] at hP
  have hW : W p l e (headSpec wsX6_clearSeen rmX6_clearSeen).room s m ([.ref (bT 0)] : List Value).toArray below meth c H locs 0 0 (MQ below (qV g A (cT g bT vT1)) ([.ref (bT 0)] : List Value).toArray s 0 0 A) (F0 m 0 ls []) := by
    refine lv_iconst (v := (0 : Int32)) hx hb dX6_clearSeen_0 (by decide) ?_
    refine lv_istore_n (lv' := [(1, .int (0 : Int32)), (0, .ref (bT 0))]) hx hb dX6_clearSeen_1 rfl hl (by decide) rfl (fun ls hl => ?_)
    have hL4 : ∀ (x1_1 : Int32) (vT_2 : Vs), lp f_X6_clearSeen_L2 (fun _ _ => none) FU x1_1 vT_2 = some vT1 → ∀ (H : Heap) (locs : List Loc), va_P g.1 vwCl (cT g bT vT_2) H → va_D A (cT g bT vT_2) → va_S A s.heap H locs → ∀ ls : Array Slot, lv_has ls 2 [(0, .ref (bT 0)), (1, .int x1_1)] → W p l e (headSpec wsX6_clearSeen rmX6_clearSeen).room s m ([.ref (bT 0)] : List Value).toArray below meth c H locs 0 0 (MQ below (qV g A (cT g bT vT1)) ([.ref (bT 0)] : List Value).toArray s 0 0 A) (F0 m 2 ls []) := by
      refine lp_ind (T := Int32 → Vs → Option (Vs)) (fun self3 => ∀ (x1_1 : Int32) (vT_2 : Vs), self3 x1_1 vT_2 = some vT1 → ∀ (H : Heap) (locs : List Loc), va_P g.1 vwCl (cT g bT vT_2) H → va_D A (cT g bT vT_2) → va_S A s.heap H locs → ∀ ls : Array Slot, lv_has ls 2 [(0, .ref (bT 0)), (1, .int x1_1)] → W p l e (headSpec wsX6_clearSeen rmX6_clearSeen).room s m ([.ref (bT 0)] : List Value).toArray below meth c H locs 0 0 (MQ below (qV g A (cT g bT vT1)) ([.ref (bT 0)] : List Value).toArray s 0 0 A) (F0 m 2 ls [])) ?_ ?_ FU
      · intro x1_1 vT_2 hf; cases hf
      · intro self3 ih5 x1_1 vT_2 hf H locs hP hD hS ls hl
        unfold f_X6_clearSeen_L2 at hf
        refine lv_iload_n hx hb dX6_clearSeen_2 rfl (lv_at hl 1 rfl) ?_
        refine lv_bipush (v := (6 : Int32)) hx hb dX6_clearSeen_3 (by decide) ?_
        refine lv_icmp_ge (tgt := 28) hx hb dX6_clearSeen_5 (by decide) (fun c6 => ?_) (fun c6 => ?_)
        · have hf := it_t hf c6
          have e7 := Option.some.inj hf
          rw [e7] at hP hD
          exact k_vret hx hb hr hlocks hK hP hD hS dX6_clearSeen_28
        · have hf := it_f hf c6
          refine lv_aload_n hx hb dX6_clearSeen_8 rfl (lv_at hl 0 rfl) ?_
          refine va_get (D := g.1) (ci := 6) (fs := fcT bT vT_2) (v := .ref (bT 4)) (C := RX6) (T := TX6) (N := 5) hx hb htu hinX6 hown hK hP 0 rfl rfl 3 (by decide) k_1_133 (fun _ h9 => h9) rfl dX6_clearSeen_9 ?_
          refine lv_iload_n hx hb dX6_clearSeen_12 rfl (lv_at hl 1 rfl) ?_
          refine lv_iconst (v := (0 : Int32)) hx hb dX6_clearSeen_13 (by decide) ?_
          obtain ⟨h8, hf⟩ := gd_in hf
          refine va_iast (D := g.1) (f := (vT_2.2.1 3)) hx hb hK hP hD hS 3 0 rfl rfl h8 dX6_clearSeen_14 (fun H locs hP hD hS => ?_)
          obtain ⟨vT_9, evT_9⟩ : ∃ z, z = sI vT_2 3 (x1_1).toNatClampNeg (0 : Int32) := ⟨_, rfl⟩
          have hf := bn_at hf evT_9
          have hP : va_P g.1 vwCl (cT g bT vT_9) H := by rw [evT_9]; exact hP
          have hD : va_D A (cT g bT vT_9) := by rw [evT_9]; exact hD
          refine lv_aload_n hx hb dX6_clearSeen_15 rfl (lv_at hl 0 rfl) ?_
          refine va_get (D := g.1) (ci := 6) (fs := fcT bT vT_9) (v := .ref (bT 5)) (C := RX6) (T := TX6) (N := 5) hx hb htu hinX6 hown hK hP 0 rfl rfl 4 (by decide) k_1_134 (fun _ h9 => h9) rfl dX6_clearSeen_16 ?_
          refine lv_iload_n hx hb dX6_clearSeen_19 rfl (lv_at hl 1 rfl) ?_
          refine lv_iconst (v := (0 : Int32)) hx hb dX6_clearSeen_20 (by decide) ?_
          obtain ⟨h10, hf⟩ := gd_in hf
          refine va_iast (D := g.1) (f := (vT_9.2.1 4)) hx hb hK hP hD hS 4 0 rfl rfl h10 dX6_clearSeen_21 (fun H locs hP hD hS => ?_)
          obtain ⟨vT_11, evT_11⟩ : ∃ z, z = sI vT_9 4 (x1_1).toNatClampNeg (0 : Int32) := ⟨_, rfl⟩
          have hf := bn_at hf evT_11
          have hP : va_P g.1 vwCl (cT g bT vT_11) H := by rw [evT_11]; exact hP
          have hD : va_D A (cT g bT vT_11) := by rw [evT_11]; exact hD
          refine lv_iinc (v := (x1_1 + (1 : Int32))) (lv' := [(1, .int (x1_1 + (1 : Int32))), (0, .ref (bT 0))]) hx hb dX6_clearSeen_22 hl (k := 1) rfl rfl (by decide) rfl (fun ls hl => ?_)
          refine lv_goto (tgt := 2) hx hb dX6_clearSeen_25 (by decide) ?_
          exact ih5 (x1_1 + (1 : Int32)) vT_11 hf H locs hP hD hS _ (lv_sub hl [1, 0] rfl)
    exact hL4 (0 : Int32) vT hf H locs hP hD hS _ (lv_sub hl [1, 0] rfl)
  rw [hH, hlo] at hW
  exact hW
def f_X6_clear (vT : Vs) : Option (Vs) :=
  bn (sF vT 0 (0 : Int32)) (fun (vT_1 : Vs) => o1 (f_X6_clearSeen vT_1) (fun (vT_2 : Vs) => some (vT_2)))
abbrev wsX6_clear : List Cond := .code yX6_clear cX6_clear 1 none :: UW
abbrev rmX6_clear : Room := { frames := 1, cells := 0, slots := 0, locals := 21 }
set_option maxHeartbeats 4000000 in
set_option maxRecDepth 100000 in
theorem c_X6_clear (l : Launch) (g : Gx) (bT : Nat → Nat) (vT : Vs) (vT1 : Vs) (hf : f_X6_clear vT = some vT1) : CtV l yX6_clear wsX6_clear rmX6_clear g [.ref (bT 0)] (cT g bT vT) (cT g bT vT1) 0 0 := by
  unfold CtV
  intro sz
  refine Met.ofW (cc := cX6_clear) (maxL := 1) (ret := none) (by decide) rfl ?_
  intro p e s m args below meth c s₁ B hml hv
  obtain ⟨rfl, hsz, hP, hK, hD0, hG⟩ := hv
  have hx := B.exec
  have hb := B.bytes
  have hr := B.returns
  have hts := atoms_spec (ws := wsX6_clear) B.pre
  have hown : s.vm.findClass RX6 = some m.cls := findClass_of_methodNamed B.named
  have hlocks := B.notSynchronized
  subst hsz
  have hD := hD0.self (sz := s.heap.size)
  generalize hAe : va_A (cT g bT vT) s.heap.size = A at hD hG ⊢
  have hA : ∀ q : Nat, s.heap.size ≤ q → A q := fun q h => by rw [← hAe]; exact Or.inr h
  clear hAe hD0
  have hS : va_S A s.heap s.heap [] := va_S.rf
  have hl := lv_entry ([.ref (bT 0)]) (n := 1) (Nat.le_of_ble_eq_true rfl)
  rw [lg_entry_eq]
  generalize (lg_sl ([.ref (bT 0)]) ++ List.replicate (1 - (lg_sl ([.ref (bT 0)])).length) Slot.unset).toArray = ls at hl ⊢
  have hl : lv_has ls 1 [(0, .ref (bT 0))] := hl
  have htu : ∀ w ∈ UW, w.before _ s = true := fun w h => hts w (List.mem_cons_of_mem _ h)
  have k_1_126 := htu _ mw_1_126
  unfold f_X6_clear at hf
  obtain ⟨H, hH⟩ : ∃ z, z = s.heap := ⟨_, rfl⟩
  obtain ⟨locs, hlo⟩ : ∃ z : List Loc, z = [] := ⟨_, rfl⟩
  have hS : va_S A s.heap H locs := by rw [hH, hlo]; exact hS
  rw [← hH] at hP
  have hW : W p l e (headSpec wsX6_clear rmX6_clear).room s m ([.ref (bT 0)] : List Value).toArray below meth c H locs 0 0 (MQ below (qV g A (cT g bT vT1)) ([.ref (bT 0)] : List Value).toArray s 0 0 A) (F0 m 0 ls []) := by
    refine lv_aload_n hx hb dX6_clear_0 rfl (lv_at hl 0 rfl) ?_
    refine lv_iconst (v := (0 : Int32)) hx hb dX6_clear_1 (by decide) ?_
    refine va_put (D := g.1) (ci := 6) (fs := fcT bT vT) (v := .int (0 : Int32)) (ty := .int) (C := RX6) (T := TX6) (N := 5) hx hb htu hinX6 tyX6 tyX6_ok nmX6 hown hK hP hD hS 0 rfl rfl 0 (by decide) k_1_126 (fun _ h9 => h9) rfl (by decide +kernel) rfl rfl (Nat.le_of_ble_eq_true rfl) dX6_clear_2 (fun H locs hP hD hS => ?_)
    obtain ⟨vT_1, evT_1⟩ : ∃ z, z = sF vT 0 (0 : Int32) := ⟨_, rfl⟩
    have hf := bn_at hf evT_1
    have hP : va_P g.1 vwCl (cT g bT vT_1) H := by rw [evT_1]; exact hP
    have hD : va_D A (cT g bT vT_1) := by rw [evT_1]; exact hD
    refine lv_aload_n hx hb dX6_clear_5 rfl (lv_at hl 0 rfl) ?_
    obtain ⟨vT_2, hg3, hf⟩ := o1_at hf
    refine k_vvW ⟨hx, hb, hml, hown, htu⟩ hK hP hD hS hA hG (c_X6_clearSeen l g bT vT_1 vT_2 hg3) (cwV 0 htu (gU_V mw_3_228 hcX6_clearSeen) rfl rfl rfl hdX6_clearSeen ⟨Nat.le_of_ble_eq_true rfl, Nat.le_of_ble_eq_true rfl⟩) (q0 := 0) (ci := 6) (fs := fcT bT vT_1) (q := (RX6, TX6, 5)) rfl rfl rfl (As := []) (rest := []) rfl rfl hl.1 (Nat.le_of_ble_eq_true rfl) dX6_clear_6 (k1 := 0) (n1 := 0) rfl rfl ⟨Nat.zero_le _, Nat.zero_le _⟩ (fun H locs hP hD hS => ?_)
    have e4 := Option.some.inj hf
    rw [e4] at hP hD
    exact k_vret hx hb hr hlocks hK hP hD hS dX6_clear_9
  rw [hH, hlo] at hW
  exact hW
def f_X6_copyFrom (vT : Vs) (vU : Vs) : Option (Vs) :=
  bn (sF vT 0 (vU.1 0)) (fun (vT_1 : Vs) => bn (sA vT_1 1 (va_cpy (vU.2.1 1) (vT_1.2.1 1) ((0 : Int32)).toNatClampNeg ((0 : Int32)).toNatClampNeg ((16 : Int32)).toNatClampNeg)) (fun (vT_2 : Vs) => bn (sA vT_2 2 (va_cpy (vU.2.1 2) (vT_2.2.1 2) ((0 : Int32)).toNatClampNeg ((0 : Int32)).toNatClampNeg ((16 : Int32)).toNatClampNeg)) (fun (vT_3 : Vs) => bn (sA vT_3 3 (va_cpy (vU.2.1 3) (vT_3.2.1 3) ((0 : Int32)).toNatClampNeg ((0 : Int32)).toNatClampNeg ((6 : Int32)).toNatClampNeg)) (fun (vT_4 : Vs) => bn (sA vT_4 4 (va_cpy (vU.2.1 4) (vT_4.2.1 4) ((0 : Int32)).toNatClampNeg ((0 : Int32)).toNatClampNeg ((6 : Int32)).toNatClampNeg)) (fun (vT_5 : Vs) => some (vT_5))))))
abbrev wsX6_copyFrom : List Cond := .code yX6_copyFrom cX6_copyFrom 2 none :: UW
abbrev rmX6_copyFrom : Room := { frames := 1, cells := 0, slots := 0, locals := 60 }
set_option maxHeartbeats 4000000 in
set_option maxRecDepth 100000 in
theorem c_X6_copyFrom (l : Launch) (g : Gx) (bT : Nat → Nat) (vT : Vs) (bU : Nat → Nat) (vU : Vs) (vT1 : Vs) (hf : f_X6_copyFrom vT vU = some vT1) : CtV l yX6_copyFrom wsX6_copyFrom rmX6_copyFrom g [.ref (bT 0), .ref (bU 0)] (cT g bT vT ++ (cT g bU vU)) (cT g bT vT1 ++ (cT g bU vU)) 0 0 := by
  unfold CtV
  intro sz
  refine Met.ofW (cc := cX6_copyFrom) (maxL := 2) (ret := none) (by decide) rfl ?_
  intro p e s m args below meth c s₁ B hml hv
  obtain ⟨rfl, hsz, hP, hK, hD0, hG⟩ := hv
  have hx := B.exec
  have hb := B.bytes
  have hr := B.returns
  have hts := atoms_spec (ws := wsX6_copyFrom) B.pre
  have hown : s.vm.findClass RX6 = some m.cls := findClass_of_methodNamed B.named
  have hlocks := B.notSynchronized
  subst hsz
  have hD := hD0.self (sz := s.heap.size)
  generalize hAe : va_A (cT g bT vT ++ (cT g bU vU)) s.heap.size = A at hD hG ⊢
  have hA : ∀ q : Nat, s.heap.size ≤ q → A q := fun q h => by rw [← hAe]; exact Or.inr h
  clear hAe hD0
  have hS : va_S A s.heap s.heap [] := va_S.rf
  have hl := lv_entry ([.ref (bT 0), .ref (bU 0)]) (n := 2) (Nat.le_of_ble_eq_true rfl)
  rw [lg_entry_eq]
  generalize (lg_sl ([.ref (bT 0), .ref (bU 0)]) ++ List.replicate (2 - (lg_sl ([.ref (bT 0), .ref (bU 0)])).length) Slot.unset).toArray = ls at hl ⊢
  have hl : lv_has ls 2 [(0, .ref (bT 0)), (1, .ref (bU 0))] := hl
  have htu : ∀ w ∈ UW, w.before _ s = true := fun w h => hts w (List.mem_cons_of_mem _ h)
  have k_1_126 := htu _ mw_1_126
  have k_1_129 := htu _ mw_1_129
  have k_3_69 := htu _ mw_3_69
  have k_3_64 := htu _ mw_3_64
  have k_3_63 := htu _ mw_3_63
  have k_1_9 := htu _ mw_1_9
  have k_1_131 := htu _ mw_1_131
  have k_1_133 := htu _ mw_1_133
  have k_1_134 := htu _ mw_1_134
  unfold f_X6_copyFrom at hf
  obtain ⟨H, hH⟩ : ∃ z, z = s.heap := ⟨_, rfl⟩
  obtain ⟨locs, hlo⟩ : ∃ z : List Loc, z = [] := ⟨_, rfl⟩
  have hS : va_S A s.heap H locs := by rw [hH, hlo]; exact hS
  rw [← hH] at hP
  have hW : W p l e (headSpec wsX6_copyFrom rmX6_copyFrom).room s m ([.ref (bT 0), .ref (bU 0)] : List Value).toArray below meth c H locs 0 0 (MQ below (qV g A (cT g bT vT1 ++ (cT g bU vU))) ([.ref (bT 0), .ref (bU 0)] : List Value).toArray s 0 0 A) (F0 m 0 ls []) := by
    refine lv_aload_n hx hb dX6_copyFrom_0 rfl (lv_at hl 0 rfl) ?_
    refine lv_aload_n hx hb dX6_copyFrom_1 rfl (lv_at hl 1 rfl) ?_
    refine va_get (D := g.1) (ci := 6) (fs := fcT bU vU) (v := .int (vU.1 0)) (C := RX6) (T := TX6) (N := 5) hx hb htu hinX6 hown hK hP 5 rfl rfl 0 (by decide) k_1_126 (fun _ h9 => h9) rfl dX6_copyFrom_2 ?_
    refine va_put (D := g.1) (ci := 6) (fs := fcT bT vT) (v := .int (vU.1 0)) (ty := .int) (C := RX6) (T := TX6) (N := 5) hx hb htu hinX6 tyX6 tyX6_ok nmX6 hown hK hP hD hS 0 rfl rfl 0 (by decide) k_1_126 (fun _ h9 => h9) rfl (by decide +kernel) rfl rfl (Nat.le_of_ble_eq_true rfl) dX6_copyFrom_5 (fun H locs hP hD hS => ?_)
    obtain ⟨vT_1, evT_1⟩ : ∃ z, z = sF vT 0 (vU.1 0) := ⟨_, rfl⟩
    have hf := bn_at hf evT_1
    have hP : va_P g.1 vwCl (cT g bT vT_1 ++ (cT g bU vU)) H := by rw [evT_1]; exact hP
    have hD : va_D A (cT g bT vT_1 ++ (cT g bU vU)) := by rw [evT_1]; exact hD
    refine lv_aload_n hx hb dX6_copyFrom_8 rfl (lv_at hl 1 rfl) ?_
    refine va_get (D := g.1) (ci := 6) (fs := fcT bU vU) (v := .ref (bU 2)) (C := RX6) (T := TX6) (N := 5) hx hb htu hinX6 hown hK hP 5 rfl rfl 1 (by decide) k_1_129 (fun _ h9 => h9) rfl dX6_copyFrom_9 ?_
    refine lv_iconst (v := (0 : Int32)) hx hb dX6_copyFrom_12 (by decide) ?_
    refine lv_aload_n hx hb dX6_copyFrom_13 rfl (lv_at hl 0 rfl) ?_
    refine va_get (D := g.1) (ci := 6) (fs := fcT bT vT_1) (v := .ref (bT 2)) (C := RX6) (T := TX6) (N := 5) hx hb htu hinX6 hown hK hP 0 rfl rfl 1 (by decide) k_1_129 (fun _ h9 => h9) rfl dX6_copyFrom_14 ?_
    refine lv_iconst (v := (0 : Int32)) hx hb dX6_copyFrom_17 (by decide) ?_
    refine lv_bipush (v := (16 : Int32)) hx hb dX6_copyFrom_18 (by decide) ?_
    refine va_copyi (D := g.1) (f := (vU.2.1 1)) (g := (vT_1.2.1 1)) (ty := .int) hx hb (hml.trans hl.1.symm) hown k_3_69 k_3_64 k_3_63 k_1_9 hK hP hD hS 6 1 0 0 rfl rfl rfl rfl rfl (by decide) (by decide) (by decide) (by decide) (by decide) (fun _ _ => rfl) (Nat.le_of_ble_eq_true rfl) (Nat.le_of_ble_eq_true rfl) dX6_copyFrom_20 (fun H locs hP hD hS => ?_)
    obtain ⟨vT_2, evT_2⟩ : ∃ z, z = sA vT_1 1 (va_cpy (vU.2.1 1) (vT_1.2.1 1) ((0 : Int32)).toNatClampNeg ((0 : Int32)).toNatClampNeg ((16 : Int32)).toNatClampNeg) := ⟨_, rfl⟩
    have hf := bn_at hf evT_2
    have hP : va_P g.1 vwCl (cT g bT vT_2 ++ (cT g bU vU)) H := by rw [evT_2]; exact hP
    have hD : va_D A (cT g bT vT_2 ++ (cT g bU vU)) := by rw [evT_2]; exact hD
    refine lv_aload_n hx hb dX6_copyFrom_23 rfl (lv_at hl 1 rfl) ?_
    refine va_get (D := g.1) (ci := 6) (fs := fcT bU vU) (v := .ref (bU 3)) (C := RX6) (T := TX6) (N := 5) hx hb htu hinX6 hown hK hP 5 rfl rfl 2 (by decide) k_1_131 (fun _ h9 => h9) rfl dX6_copyFrom_24 ?_
    refine lv_iconst (v := (0 : Int32)) hx hb dX6_copyFrom_27 (by decide) ?_
    refine lv_aload_n hx hb dX6_copyFrom_28 rfl (lv_at hl 0 rfl) ?_
    refine va_get (D := g.1) (ci := 6) (fs := fcT bT vT_2) (v := .ref (bT 3)) (C := RX6) (T := TX6) (N := 5) hx hb htu hinX6 hown hK hP 0 rfl rfl 2 (by decide) k_1_131 (fun _ h9 => h9) rfl dX6_copyFrom_29 ?_
    refine lv_iconst (v := (0 : Int32)) hx hb dX6_copyFrom_32 (by decide) ?_
    refine lv_bipush (v := (16 : Int32)) hx hb dX6_copyFrom_33 (by decide) ?_
    refine va_copyi (D := g.1) (f := (vU.2.1 2)) (g := (vT_2.2.1 2)) (ty := .int) hx hb (hml.trans hl.1.symm) hown k_3_69 k_3_64 k_3_63 k_1_9 hK hP hD hS 7 2 0 0 rfl rfl rfl rfl rfl (by decide) (by decide) (by decide) (by decide) (by decide) (fun _ _ => rfl) (Nat.le_of_ble_eq_true rfl) (Nat.le_of_ble_eq_true rfl) dX6_copyFrom_35 (fun H locs hP hD hS => ?_)
    obtain ⟨vT_3, evT_3⟩ : ∃ z, z = sA vT_2 2 (va_cpy (vU.2.1 2) (vT_2.2.1 2) ((0 : Int32)).toNatClampNeg ((0 : Int32)).toNatClampNeg ((16 : Int32)).toNatClampNeg) := ⟨_, rfl⟩
    have hf := bn_at hf evT_3
    have hP : va_P g.1 vwCl (cT g bT vT_3 ++ (cT g bU vU)) H := by rw [evT_3]; exact hP
    have hD : va_D A (cT g bT vT_3 ++ (cT g bU vU)) := by rw [evT_3]; exact hD
    refine lv_aload_n hx hb dX6_copyFrom_38 rfl (lv_at hl 1 rfl) ?_
    refine va_get (D := g.1) (ci := 6) (fs := fcT bU vU) (v := .ref (bU 4)) (C := RX6) (T := TX6) (N := 5) hx hb htu hinX6 hown hK hP 5 rfl rfl 3 (by decide) k_1_133 (fun _ h9 => h9) rfl dX6_copyFrom_39 ?_
    refine lv_iconst (v := (0 : Int32)) hx hb dX6_copyFrom_42 (by decide) ?_
    refine lv_aload_n hx hb dX6_copyFrom_43 rfl (lv_at hl 0 rfl) ?_
    refine va_get (D := g.1) (ci := 6) (fs := fcT bT vT_3) (v := .ref (bT 4)) (C := RX6) (T := TX6) (N := 5) hx hb htu hinX6 hown hK hP 0 rfl rfl 3 (by decide) k_1_133 (fun _ h9 => h9) rfl dX6_copyFrom_44 ?_
    refine lv_iconst (v := (0 : Int32)) hx hb dX6_copyFrom_47 (by decide) ?_
    refine lv_bipush (v := (6 : Int32)) hx hb dX6_copyFrom_48 (by decide) ?_
    refine va_copyi (D := g.1) (f := (vU.2.1 3)) (g := (vT_3.2.1 3)) (ty := .int) hx hb (hml.trans hl.1.symm) hown k_3_69 k_3_64 k_3_63 k_1_9 hK hP hD hS 8 3 0 0 rfl rfl rfl rfl rfl (by decide) (by decide) (by decide) (by decide) (by decide) (fun _ _ => rfl) (Nat.le_of_ble_eq_true rfl) (Nat.le_of_ble_eq_true rfl) dX6_copyFrom_50 (fun H locs hP hD hS => ?_)
    obtain ⟨vT_4, evT_4⟩ : ∃ z, z = sA vT_3 3 (va_cpy (vU.2.1 3) (vT_3.2.1 3) ((0 : Int32)).toNatClampNeg ((0 : Int32)).toNatClampNeg ((6 : Int32)).toNatClampNeg) := ⟨_, rfl⟩
    have hf := bn_at hf evT_4
    have hP : va_P g.1 vwCl (cT g bT vT_4 ++ (cT g bU vU)) H := by rw [evT_4]; exact hP
    have hD : va_D A (cT g bT vT_4 ++ (cT g bU vU)) := by rw [evT_4]; exact hD
    refine lv_aload_n hx hb dX6_copyFrom_53 rfl (lv_at hl 1 rfl) ?_
    refine va_get (D := g.1) (ci := 6) (fs := fcT bU vU) (v := .ref (bU 5)) (C := RX6) (T := TX6) (N := 5) hx hb htu hinX6 hown hK hP 5 rfl rfl 4 (by decide) k_1_134 (fun _ h9 => h9) rfl dX6_copyFrom_54 ?_
    refine lv_iconst (v := (0 : Int32)) hx hb dX6_copyFrom_57 (by decide) ?_
    refine lv_aload_n hx hb dX6_copyFrom_58 rfl (lv_at hl 0 rfl) ?_
    refine va_get (D := g.1) (ci := 6) (fs := fcT bT vT_4) (v := .ref (bT 5)) (C := RX6) (T := TX6) (N := 5) hx hb htu hinX6 hown hK hP 0 rfl rfl 4 (by decide) k_1_134 (fun _ h9 => h9) rfl dX6_copyFrom_59 ?_
    refine lv_iconst (v := (0 : Int32)) hx hb dX6_copyFrom_62 (by decide) ?_
    refine lv_bipush (v := (6 : Int32)) hx hb dX6_copyFrom_63 (by decide) ?_
    refine va_copyi (D := g.1) (f := (vU.2.1 4)) (g := (vT_4.2.1 4)) (ty := .int) hx hb (hml.trans hl.1.symm) hown k_3_69 k_3_64 k_3_63 k_1_9 hK hP hD hS 9 4 0 0 rfl rfl rfl rfl rfl (by decide) (by decide) (by decide) (by decide) (by decide) (fun _ _ => rfl) (Nat.le_of_ble_eq_true rfl) (Nat.le_of_ble_eq_true rfl) dX6_copyFrom_65 (fun H locs hP hD hS => ?_)
    obtain ⟨vT_5, evT_5⟩ : ∃ z, z = sA vT_4 4 (va_cpy (vU.2.1 4) (vT_4.2.1 4) ((0 : Int32)).toNatClampNeg ((0 : Int32)).toNatClampNeg ((6 : Int32)).toNatClampNeg) := ⟨_, rfl⟩
    have hf := bn_at hf evT_5
    have hP : va_P g.1 vwCl (cT g bT vT_5 ++ (cT g bU vU)) H := by rw [evT_5]; exact hP
    have hD : va_D A (cT g bT vT_5 ++ (cT g bU vU)) := by rw [evT_5]; exact hD
    have e6 := Option.some.inj hf
    rw [e6] at hP hD
    exact k_vret hx hb hr hlocks hK hP hD hS dX6_copyFrom_68
  rw [hH, hlo] at hW
  exact hW
def f_X6_isFull (vT : Vs) : Option (Int32) :=
  jn (fun (t1 : Int32) => gd (isB t1) (some (t1))) (fun k2 => if (vT.1 0) < (16 : Int32) then k2 (0 : Int32) else k2 (1 : Int32))
abbrev wsX6_isFull : List Cond := .code yX6_isFull cX6_isFull 1 (some .boolean) :: UW
abbrev rmX6_isFull : Room := { frames := 0, cells := 0, slots := 0, locals := 0 }
set_option maxHeartbeats 4000000 in
set_option maxRecDepth 100000 in
theorem c_X6_isFull (l : Launch) (g : Gx) (bT : Nat → Nat) (vT : Vs) (r : Int32) (hf : f_X6_isFull vT = some r) : CtI l yX6_isFull wsX6_isFull rmX6_isFull g [.ref (bT 0)] (cT g bT vT) (cT g bT vT) r 0 0 := by
  unfold CtI
  intro sz
  refine Met.ofW (cc := cX6_isFull) (maxL := 1) (ret := (some .boolean)) (by decide) rfl ?_
  intro p e s m args below meth c s₁ B hml hv
  obtain ⟨rfl, hsz, hP, hK, hD0, hG⟩ := hv
  have hx := B.exec
  have hb := B.bytes
  have hr := B.returns
  have hts := atoms_spec (ws := wsX6_isFull) B.pre
  have hown : s.vm.findClass RX6 = some m.cls := findClass_of_methodNamed B.named
  have hlocks := B.notSynchronized
  subst hsz
  have hD := hD0.self (sz := s.heap.size)
  generalize hAe : va_A (cT g bT vT) s.heap.size = A at hD hG ⊢
  have hA : ∀ q : Nat, s.heap.size ≤ q → A q := fun q h => by rw [← hAe]; exact Or.inr h
  clear hAe hD0
  have hS : va_S A s.heap s.heap [] := va_S.rf
  have hl := lv_entry ([.ref (bT 0)]) (n := 1) (Nat.le_of_ble_eq_true rfl)
  rw [lg_entry_eq]
  generalize (lg_sl ([.ref (bT 0)]) ++ List.replicate (1 - (lg_sl ([.ref (bT 0)])).length) Slot.unset).toArray = ls at hl ⊢
  have hl : lv_has ls 1 [(0, .ref (bT 0))] := hl
  have htu : ∀ w ∈ UW, w.before _ s = true := fun w h => hts w (List.mem_cons_of_mem _ h)
  have k_1_126 := htu _ mw_1_126
  unfold f_X6_isFull at hf
  obtain ⟨H, hH⟩ : ∃ z, z = s.heap := ⟨_, rfl⟩
  obtain ⟨locs, hlo⟩ : ∃ z : List Loc, z = [] := ⟨_, rfl⟩
  have hS : va_S A s.heap H locs := by rw [hH, hlo]; exact hS
  rw [← hH] at hP
  have hW : W p l e (headSpec wsX6_isFull rmX6_isFull).room s m ([.ref (bT 0)] : List Value).toArray below meth c H locs 0 0 (MQ below (qI g A (cT g bT vT) r) ([.ref (bT 0)] : List Value).toArray s 0 0 A) (F0 m 0 ls []) := by
    refine lv_aload_n hx hb dX6_isFull_0 rfl (lv_at hl 0 rfl) ?_
    refine va_get (D := g.1) (ci := 6) (fs := fcT bT vT) (v := .int (vT.1 0)) (C := RX6) (T := TX6) (N := 5) hx hb htu hinX6 hown hK hP 0 rfl rfl 0 (by decide) k_1_126 (fun _ h9 => h9) rfl dX6_isFull_1 ?_
    refine lv_bipush (v := (16 : Int32)) hx hb dX6_isFull_4 (by decide) ?_
    obtain ⟨k2, hk6, hf⟩ := jn_at hf
    have hJ3 : ∀ (t1 : Int32), k2 t1 = some r → ∀ (H : Heap) (locs : List Loc), va_P g.1 vwCl (cT g bT vT) H → va_D A (cT g bT vT) → va_S A s.heap H locs → ∀ ls : Array Slot, lv_has ls 1 [] → W p l e (headSpec wsX6_isFull rmX6_isFull).room s m ([.ref (bT 0)] : List Value).toArray below meth c H locs 0 0 (MQ below (qI g A (cT g bT vT) r) ([.ref (bT 0)] : List Value).toArray s 0 0 A) (F0 m 14 ls [.int t1]) := by
      intro t1 hf H locs hP hD hS ls hl
      rw [hk6] at hf
      dsimp only at hf
      clear hk6
      obtain ⟨h4, hf⟩ := gd_isB hf
      have e5 := Option.some.inj hf
      exact k_zret hx hb hr hlocks hK hP hD hS e5 h4 dX6_isFull_14
    refine lv_icmp_lt (tgt := 13) hx hb dX6_isFull_6 (by decide) (fun c7 => ?_) (fun c7 => ?_)
    · have hf := it_t hf c7
      refine lv_iconst (v := (0 : Int32)) hx hb dX6_isFull_13 (by decide) ?_
      exact hJ3 (0 : Int32) hf H locs hP hD hS _ (lv_sub hl [] rfl)
    · have hf := it_f hf c7
      refine lv_iconst (v := (1 : Int32)) hx hb dX6_isFull_9 (by decide) ?_
      refine lv_goto (tgt := 14) hx hb dX6_isFull_10 (by decide) ?_
      exact hJ3 (1 : Int32) hf H locs hP hD hS _ (lv_sub hl [] rfl)
  rw [hH, hlo] at hW
  exact hW
def f_X6_put (vT : Vs) (x1 : Int32) (x2 : Int32) : Option (Vs) :=
  gd (inb (vT.1 0) 16) (bn (sI vT 1 ((vT.1 0)).toNatClampNeg x1) (fun (vT_2 : Vs) => gd (inb (vT_2.1 0) 16) (bn (sI vT_2 2 ((vT_2.1 0)).toNatClampNeg x2) (fun (vT_4 : Vs) => bn (sF vT_4 0 ((vT_4.1 0) + (1 : Int32))) (fun (vT_5 : Vs) => some (vT_5))))))
abbrev wsX6_put : List Cond := .code yX6_put cX6_put 3 none :: UW
abbrev rmX6_put : Room := { frames := 0, cells := 0, slots := 0, locals := 0 }
set_option maxHeartbeats 4000000 in
set_option maxRecDepth 100000 in
theorem c_X6_put (l : Launch) (g : Gx) (bT : Nat → Nat) (vT : Vs) (x1 : Int32) (x2 : Int32) (vT1 : Vs) (hf : f_X6_put vT x1 x2 = some vT1) : CtV l yX6_put wsX6_put rmX6_put g [.ref (bT 0), .int x1, .int x2] (cT g bT vT) (cT g bT vT1) 0 0 := by
  unfold CtV
  intro sz
  refine Met.ofW (cc := cX6_put) (maxL := 3) (ret := none) (by decide) rfl ?_
  intro p e s m args below meth c s₁ B hml hv
  obtain ⟨rfl, hsz, hP, hK, hD0, hG⟩ := hv
  have hx := B.exec
  have hb := B.bytes
  have hr := B.returns
  have hts := atoms_spec (ws := wsX6_put) B.pre
  have hown : s.vm.findClass RX6 = some m.cls := findClass_of_methodNamed B.named
  have hlocks := B.notSynchronized
  subst hsz
  have hD := hD0.self (sz := s.heap.size)
  generalize hAe : va_A (cT g bT vT) s.heap.size = A at hD hG ⊢
  have hA : ∀ q : Nat, s.heap.size ≤ q → A q := fun q h => by rw [← hAe]; exact Or.inr h
  clear hAe hD0
  have hS : va_S A s.heap s.heap [] := va_S.rf
  have hl := lv_entry ([.ref (bT 0), .int x1, .int x2]) (n := 3) (Nat.le_of_ble_eq_true rfl)
  rw [lg_entry_eq]
  generalize (lg_sl ([.ref (bT 0), .int x1, .int x2]) ++ List.replicate (3 - (lg_sl ([.ref (bT 0), .int x1, .int x2])).length) Slot.unset).toArray = ls at hl ⊢
  have hl : lv_has ls 3 [(0, .ref (bT 0)), (1, .int x1), (2, .int x2)] := hl
  have htu : ∀ w ∈ UW, w.before _ s = true := fun w h => hts w (List.mem_cons_of_mem _ h)
  have k_1_129 := htu _ mw_1_129
  have k_1_126 := htu _ mw_1_126
  have k_1_131 := htu _ mw_1_131
  unfold f_X6_put at hf
  obtain ⟨H, hH⟩ : ∃ z, z = s.heap := ⟨_, rfl⟩
  obtain ⟨locs, hlo⟩ : ∃ z : List Loc, z = [] := ⟨_, rfl⟩
  have hS : va_S A s.heap H locs := by rw [hH, hlo]; exact hS
  rw [← hH] at hP
  have hW : W p l e (headSpec wsX6_put rmX6_put).room s m ([.ref (bT 0), .int x1, .int x2] : List Value).toArray below meth c H locs 0 0 (MQ below (qV g A (cT g bT vT1)) ([.ref (bT 0), .int x1, .int x2] : List Value).toArray s 0 0 A) (F0 m 0 ls []) := by
    refine lv_aload_n hx hb dX6_put_0 rfl (lv_at hl 0 rfl) ?_
    refine va_get (D := g.1) (ci := 6) (fs := fcT bT vT) (v := .ref (bT 2)) (C := RX6) (T := TX6) (N := 5) hx hb htu hinX6 hown hK hP 0 rfl rfl 1 (by decide) k_1_129 (fun _ h9 => h9) rfl dX6_put_1 ?_
    refine lv_aload_n hx hb dX6_put_4 rfl (lv_at hl 0 rfl) ?_
    refine va_get (D := g.1) (ci := 6) (fs := fcT bT vT) (v := .int (vT.1 0)) (C := RX6) (T := TX6) (N := 5) hx hb htu hinX6 hown hK hP 0 rfl rfl 0 (by decide) k_1_126 (fun _ h9 => h9) rfl dX6_put_5 ?_
    refine lv_iload_n hx hb dX6_put_8 rfl (lv_at hl 1 rfl) ?_
    obtain ⟨h1, hf⟩ := gd_in hf
    refine va_iast (D := g.1) (f := (vT.2.1 1)) hx hb hK hP hD hS 1 0 rfl rfl h1 dX6_put_9 (fun H locs hP hD hS => ?_)
    obtain ⟨vT_2, evT_2⟩ : ∃ z, z = sI vT 1 ((vT.1 0)).toNatClampNeg x1 := ⟨_, rfl⟩
    have hf := bn_at hf evT_2
    have hP : va_P g.1 vwCl (cT g bT vT_2) H := by rw [evT_2]; exact hP
    have hD : va_D A (cT g bT vT_2) := by rw [evT_2]; exact hD
    refine lv_aload_n hx hb dX6_put_10 rfl (lv_at hl 0 rfl) ?_
    refine va_get (D := g.1) (ci := 6) (fs := fcT bT vT_2) (v := .ref (bT 3)) (C := RX6) (T := TX6) (N := 5) hx hb htu hinX6 hown hK hP 0 rfl rfl 2 (by decide) k_1_131 (fun _ h9 => h9) rfl dX6_put_11 ?_
    refine lv_aload_n hx hb dX6_put_14 rfl (lv_at hl 0 rfl) ?_
    refine va_get (D := g.1) (ci := 6) (fs := fcT bT vT_2) (v := .int (vT_2.1 0)) (C := RX6) (T := TX6) (N := 5) hx hb htu hinX6 hown hK hP 0 rfl rfl 0 (by decide) k_1_126 (fun _ h9 => h9) rfl dX6_put_15 ?_
    refine lv_iload_n hx hb dX6_put_18 rfl (lv_at hl 2 rfl) ?_
    obtain ⟨h3, hf⟩ := gd_in hf
    refine va_iast (D := g.1) (f := (vT_2.2.1 2)) hx hb hK hP hD hS 2 0 rfl rfl h3 dX6_put_19 (fun H locs hP hD hS => ?_)
    obtain ⟨vT_4, evT_4⟩ : ∃ z, z = sI vT_2 2 ((vT_2.1 0)).toNatClampNeg x2 := ⟨_, rfl⟩
    have hf := bn_at hf evT_4
    have hP : va_P g.1 vwCl (cT g bT vT_4) H := by rw [evT_4]; exact hP
    have hD : va_D A (cT g bT vT_4) := by rw [evT_4]; exact hD
    refine lv_aload_n hx hb dX6_put_20 rfl (lv_at hl 0 rfl) ?_
    refine lv_dup hx hb dX6_put_21 rfl ?_
    refine va_get (D := g.1) (ci := 6) (fs := fcT bT vT_4) (v := .int (vT_4.1 0)) (C := RX6) (T := TX6) (N := 5) hx hb htu hinX6 hown hK hP 0 rfl rfl 0 (by decide) k_1_126 (fun _ h9 => h9) rfl dX6_put_22 ?_
    refine lv_iconst (v := (1 : Int32)) hx hb dX6_put_25 (by decide) ?_
    refine lv_iadd hx hb dX6_put_26 ?_
    refine va_put (D := g.1) (ci := 6) (fs := fcT bT vT_4) (v := .int ((vT_4.1 0) + (1 : Int32))) (ty := .int) (C := RX6) (T := TX6) (N := 5) hx hb htu hinX6 tyX6 tyX6_ok nmX6 hown hK hP hD hS 0 rfl rfl 0 (by decide) k_1_126 (fun _ h9 => h9) rfl (by decide +kernel) rfl rfl (Nat.le_of_ble_eq_true rfl) dX6_put_27 (fun H locs hP hD hS => ?_)
    obtain ⟨vT_5, evT_5⟩ : ∃ z, z = sF vT_4 0 ((vT_4.1 0) + (1 : Int32)) := ⟨_, rfl⟩
    have hf := bn_at hf evT_5
    have hP : va_P g.1 vwCl (cT g bT vT_5) H := by rw [evT_5]; exact hP
    have hD : va_D A (cT g bT vT_5) := by rw [evT_5]; exact hD
    have e6 := Option.some.inj hf
    rw [e6] at hP hD
    exact k_vret hx hb hr hlocks hK hP hD hS dX6_put_30
  rw [hH, hlo] at hW
  exact hW
def f_X6_countSeen_L4 (vT : Vs) (self3 : Int32 → Int32 → Option (Int32)) (x1_1 : Int32) (x2_2 : Int32) : Option (Int32) :=
  if (6 : Int32) ≤ x2_2 then some (x1_1) else gd (inb x2_2 6) (o1 (f_J6_bitCount_0f7a4 (vT.2.1 3 (x2_2).toNatClampNeg)) (fun (r9 : Int32) => gd (inb x2_2 6) (o1 (f_J6_bitCount_0f7a4 (vT.2.1 4 (x2_2).toNatClampNeg)) (fun (r12 : Int32) => self3 (x1_1 + (r9 + r12)) (x2_2 + (1 : Int32))))))
def f_X6_countSeen (vT : Vs) : Option (Int32) :=
  lp (f_X6_countSeen_L4 vT) (fun _ _ => none) FU (0 : Int32) (0 : Int32)
abbrev wsX6_countSeen : List Cond := .code yX6_countSeen cX6_countSeen 3 (some .int) :: UW
abbrev rmX6_countSeen : Room := { frames := 1, cells := 0, slots := 0, locals := 20 }
set_option maxHeartbeats 4000000 in
set_option maxRecDepth 100000 in
theorem c_X6_countSeen (l : Launch) (g : Gx) (bT : Nat → Nat) (vT : Vs) (r : Int32) (hf : f_X6_countSeen vT = some r) : CtI l yX6_countSeen wsX6_countSeen rmX6_countSeen g [.ref (bT 0)] (cT g bT vT) (cT g bT vT) r 0 0 := by
  unfold CtI
  intro sz
  refine Met.ofW (cc := cX6_countSeen) (maxL := 3) (ret := (some .int)) (by decide) rfl ?_
  intro p e s m args below meth c s₁ B hml hv
  obtain ⟨rfl, hsz, hP, hK, hD0, hG⟩ := hv
  have hx := B.exec
  have hb := B.bytes
  have hr := B.returns
  have hts := atoms_spec (ws := wsX6_countSeen) B.pre
  have hown : s.vm.findClass RX6 = some m.cls := findClass_of_methodNamed B.named
  have hlocks := B.notSynchronized
  subst hsz
  have hD := hD0.self (sz := s.heap.size)
  generalize hAe : va_A (cT g bT vT) s.heap.size = A at hD hG ⊢
  have hA : ∀ q : Nat, s.heap.size ≤ q → A q := fun q h => by rw [← hAe]; exact Or.inr h
  clear hAe hD0
  have hS : va_S A s.heap s.heap [] := va_S.rf
  have hl := lv_entry ([.ref (bT 0)]) (n := 3) (Nat.le_of_ble_eq_true rfl)
  rw [lg_entry_eq]
  generalize (lg_sl ([.ref (bT 0)]) ++ List.replicate (3 - (lg_sl ([.ref (bT 0)])).length) Slot.unset).toArray = ls at hl ⊢
  have hl : lv_has ls 3 [(0, .ref (bT 0))] := hl
  have htu : ∀ w ∈ UW, w.before _ s = true := fun w h => hts w (List.mem_cons_of_mem _ h)
  have k_1_133 := htu _ mw_1_133
  have k_1_134 := htu _ mw_1_134
  unfold f_X6_countSeen at hf
  obtain ⟨H, hH⟩ : ∃ z, z = s.heap := ⟨_, rfl⟩
  obtain ⟨locs, hlo⟩ : ∃ z : List Loc, z = [] := ⟨_, rfl⟩
  have hS : va_S A s.heap H locs := by rw [hH, hlo]; exact hS
  rw [← hH] at hP
  have hW : W p l e (headSpec wsX6_countSeen rmX6_countSeen).room s m ([.ref (bT 0)] : List Value).toArray below meth c H locs 0 0 (MQ below (qI g A (cT g bT vT) r) ([.ref (bT 0)] : List Value).toArray s 0 0 A) (F0 m 0 ls []) := by
    refine lv_iconst (v := (0 : Int32)) hx hb dX6_countSeen_0 (by decide) ?_
    refine lv_istore_n (lv' := [(1, .int (0 : Int32)), (0, .ref (bT 0))]) hx hb dX6_countSeen_1 rfl hl (by decide) rfl (fun ls hl => ?_)
    refine lv_iconst (v := (0 : Int32)) hx hb dX6_countSeen_2 (by decide) ?_
    refine lv_istore_n (lv' := [(2, .int (0 : Int32)), (1, .int (0 : Int32)), (0, .ref (bT 0))]) hx hb dX6_countSeen_3 rfl hl (by decide) rfl (fun ls hl => ?_)
    have hL4 : ∀ (x1_1 : Int32) (x2_2 : Int32), lp (f_X6_countSeen_L4 vT) (fun _ _ => none) FU x1_1 x2_2 = some r → ∀ (H : Heap) (locs : List Loc), va_P g.1 vwCl (cT g bT vT) H → va_D A (cT g bT vT) → va_S A s.heap H locs → ∀ ls : Array Slot, lv_has ls 3 [(0, .ref (bT 0)), (1, .int x1_1), (2, .int x2_2)] → W p l e (headSpec wsX6_countSeen rmX6_countSeen).room s m ([.ref (bT 0)] : List Value).toArray below meth c H locs 0 0 (MQ below (qI g A (cT g bT vT) r) ([.ref (bT 0)] : List Value).toArray s 0 0 A) (F0 m 4 ls []) := by
      refine lp_ind (T := Int32 → Int32 → Option (Int32)) (fun self3 => ∀ (x1_1 : Int32) (x2_2 : Int32), self3 x1_1 x2_2 = some r → ∀ (H : Heap) (locs : List Loc), va_P g.1 vwCl (cT g bT vT) H → va_D A (cT g bT vT) → va_S A s.heap H locs → ∀ ls : Array Slot, lv_has ls 3 [(0, .ref (bT 0)), (1, .int x1_1), (2, .int x2_2)] → W p l e (headSpec wsX6_countSeen rmX6_countSeen).room s m ([.ref (bT 0)] : List Value).toArray below meth c H locs 0 0 (MQ below (qI g A (cT g bT vT) r) ([.ref (bT 0)] : List Value).toArray s 0 0 A) (F0 m 4 ls [])) ?_ ?_ FU
      · intro x1_1 x2_2 hf; cases hf
      · intro self3 ih5 x1_1 x2_2 hf H locs hP hD hS ls hl
        unfold f_X6_countSeen_L4 at hf
        refine lv_iload_n hx hb dX6_countSeen_4 rfl (lv_at hl 2 rfl) ?_
        refine lv_bipush (v := (6 : Int32)) hx hb dX6_countSeen_5 (by decide) ?_
        refine lv_icmp_ge (tgt := 38) hx hb dX6_countSeen_7 (by decide) (fun c6 => ?_) (fun c6 => ?_)
        · have hf := it_t hf c6
          refine lv_iload_n hx hb dX6_countSeen_38 rfl (lv_at hl 1 rfl) ?_
          have e7 := Option.some.inj hf
          exact k_iret hx hb hr hlocks hK hP hD hS e7 dX6_countSeen_39
        · have hf := it_f hf c6
          refine lv_iload_n hx hb dX6_countSeen_10 rfl (lv_at hl 1 rfl) ?_
          refine lv_aload_n hx hb dX6_countSeen_11 rfl (lv_at hl 0 rfl) ?_
          refine va_get (D := g.1) (ci := 6) (fs := fcT bT vT) (v := .ref (bT 4)) (C := RX6) (T := TX6) (N := 5) hx hb htu hinX6 hown hK hP 0 rfl rfl 3 (by decide) k_1_133 (fun _ h9 => h9) rfl dX6_countSeen_12 ?_
          refine lv_iload_n hx hb dX6_countSeen_15 rfl (lv_at hl 2 rfl) ?_
          obtain ⟨h8, hf⟩ := gd_in hf
          refine va_iald (D := g.1) (f := (vT.2.1 3)) hx hb hK hP 3 0 rfl rfl h8 dX6_countSeen_16 ?_
          obtain ⟨r9, hg10, hf⟩ := o1_at hf
          refine k_si0 ⟨hx, hb, hml, hown, htu⟩ hK hP hD hS hA hG (c_J6_bitCount_0f7a4 l g (vT.2.1 3 (x2_2).toNatClampNeg) r9 hg10) (va_cwS 1 htu (gU_S mw_2_60 hcJ6_bitCount_0f7a4) rfl rfl rfl hdJ6_bitCount_0f7a4 ⟨Nat.le_of_ble_eq_true rfl, Nat.le_of_ble_eq_true rfl⟩) (As := [.int (vT.2.1 3 (x2_2).toNatClampNeg)]) (rest := [.int x1_1]) rfl rfl hl.1 (Nat.le_of_ble_eq_true rfl) dX6_countSeen_17 (k1 := 0) (n1 := 0) rfl rfl ⟨Nat.zero_le _, Nat.zero_le _⟩ (fun H locs hP hD hS => ?_)
          refine lv_aload_n hx hb dX6_countSeen_20 rfl (lv_at hl 0 rfl) ?_
          refine va_get (D := g.1) (ci := 6) (fs := fcT bT vT) (v := .ref (bT 5)) (C := RX6) (T := TX6) (N := 5) hx hb htu hinX6 hown hK hP 0 rfl rfl 4 (by decide) k_1_134 (fun _ h9 => h9) rfl dX6_countSeen_21 ?_
          refine lv_iload_n hx hb dX6_countSeen_24 rfl (lv_at hl 2 rfl) ?_
          obtain ⟨h11, hf⟩ := gd_in hf
          refine va_iald (D := g.1) (f := (vT.2.1 4)) hx hb hK hP 4 0 rfl rfl h11 dX6_countSeen_25 ?_
          obtain ⟨r12, hg13, hf⟩ := o1_at hf
          refine k_si0 ⟨hx, hb, hml, hown, htu⟩ hK hP hD hS hA hG (c_J6_bitCount_0f7a4 l g (vT.2.1 4 (x2_2).toNatClampNeg) r12 hg13) (va_cwS 1 htu (gU_S mw_2_60 hcJ6_bitCount_0f7a4) rfl rfl rfl hdJ6_bitCount_0f7a4 ⟨Nat.le_of_ble_eq_true rfl, Nat.le_of_ble_eq_true rfl⟩) (As := [.int (vT.2.1 4 (x2_2).toNatClampNeg)]) (rest := [.int r9, .int x1_1]) rfl rfl hl.1 (Nat.le_of_ble_eq_true rfl) dX6_countSeen_26 (k1 := 0) (n1 := 0) rfl rfl ⟨Nat.zero_le _, Nat.zero_le _⟩ (fun H locs hP hD hS => ?_)
          refine lv_iadd hx hb dX6_countSeen_29 ?_
          refine lv_iadd hx hb dX6_countSeen_30 ?_
          refine lv_istore_n (lv' := [(1, .int (x1_1 + (r9 + r12))), (0, .ref (bT 0)), (2, .int x2_2)]) hx hb dX6_countSeen_31 rfl hl (by decide) rfl (fun ls hl => ?_)
          refine lv_iinc (v := (x2_2 + (1 : Int32))) (lv' := [(2, .int (x2_2 + (1 : Int32))), (1, .int (x1_1 + (r9 + r12))), (0, .ref (bT 0))]) hx hb dX6_countSeen_32 hl (k := 2) rfl rfl (by decide) rfl (fun ls hl => ?_)
          refine lv_goto (tgt := 4) hx hb dX6_countSeen_35 (by decide) ?_
          exact ih5 (x1_1 + (r9 + r12)) (x2_2 + (1 : Int32)) hf H locs hP hD hS _ (lv_sub hl [2, 1, 0] rfl)
    exact hL4 (0 : Int32) (0 : Int32) hf H locs hP hD hS _ (lv_sub hl [2, 1, 0] rfl)
  rw [hH, hlo] at hW
  exact hW
def f_X4_clear (vC : Vs) (vT : Vs) (x1 : Int32) : Option (Vs × Vs) :=
  o1 (f_X0_clear vC x1) (fun (vC_1 : Vs) => o1 (f_X6_clear vT) (fun (vT_3 : Vs) => some (vC_1, vT_3)))
abbrev wsX4_clear : List Cond := .code yX4_clear cX4_clear 2 none :: UW
abbrev rmX4_clear : Room := { frames := 2, cells := 0, slots := 0, locals := 41 }
set_option maxHeartbeats 4000000 in
set_option maxRecDepth 100000 in
theorem c_X4_clear (l : Launch) (g : Gx) (bS : Nat → Nat) (bC : Nat → Nat) (vC : Vs) (bT : Nat → Nat) (vT : Vs) (x1 : Int32) (vC1 : Vs) (vT1 : Vs) (hf : f_X4_clear vC vT x1 = some (vC1, vT1)) : CtV l yX4_clear wsX4_clear rmX4_clear g [.ref (bS 0), .int x1] (cS g bS (bC 0) (bT 0) ++ (cC g bC vC ++ (cT g bT vT))) (cS g bS (bC 0) (bT 0) ++ (cC g bC vC1 ++ (cT g bT vT1))) 0 0 := by
  unfold CtV
  intro sz
  refine Met.ofW (cc := cX4_clear) (maxL := 2) (ret := none) (by decide) rfl ?_
  intro p e s m args below meth c s₁ B hml hv
  obtain ⟨rfl, hsz, hP, hK, hD0, hG⟩ := hv
  have hx := B.exec
  have hb := B.bytes
  have hr := B.returns
  have hts := atoms_spec (ws := wsX4_clear) B.pre
  have hown : s.vm.findClass RX4 = some m.cls := findClass_of_methodNamed B.named
  have hlocks := B.notSynchronized
  subst hsz
  have hD := hD0.self (sz := s.heap.size)
  generalize hAe : va_A (cS g bS (bC 0) (bT 0) ++ (cC g bC vC ++ (cT g bT vT))) s.heap.size = A at hD hG ⊢
  have hA : ∀ q : Nat, s.heap.size ≤ q → A q := fun q h => by rw [← hAe]; exact Or.inr h
  clear hAe hD0
  have hS : va_S A s.heap s.heap [] := va_S.rf
  have hl := lv_entry ([.ref (bS 0), .int x1]) (n := 2) (Nat.le_of_ble_eq_true rfl)
  rw [lg_entry_eq]
  generalize (lg_sl ([.ref (bS 0), .int x1]) ++ List.replicate (2 - (lg_sl ([.ref (bS 0), .int x1])).length) Slot.unset).toArray = ls at hl ⊢
  have hl : lv_has ls 2 [(0, .ref (bS 0)), (1, .int x1)] := hl
  have htu : ∀ w ∈ UW, w.before _ s = true := fun w h => hts w (List.mem_cons_of_mem _ h)
  have k_1_146 := htu _ mw_1_146
  have k_1_149 := htu _ mw_1_149
  unfold f_X4_clear at hf
  obtain ⟨H, hH⟩ : ∃ z, z = s.heap := ⟨_, rfl⟩
  obtain ⟨locs, hlo⟩ : ∃ z : List Loc, z = [] := ⟨_, rfl⟩
  have hS : va_S A s.heap H locs := by rw [hH, hlo]; exact hS
  rw [← hH] at hP
  have hW : W p l e (headSpec wsX4_clear rmX4_clear).room s m ([.ref (bS 0), .int x1] : List Value).toArray below meth c H locs 0 0 (MQ below (qV g A (cS g bS (bC 0) (bT 0) ++ (cC g bC vC1 ++ (cT g bT vT1)))) ([.ref (bS 0), .int x1] : List Value).toArray s 0 0 A) (F0 m 0 ls []) := by
    refine lv_aload_n hx hb dX4_clear_0 rfl (lv_at hl 0 rfl) ?_
    refine va_get (D := g.1) (ci := 4) (fs := fcS bS (bC 0) (bT 0)) (v := .ref (bC 0)) (C := RX4) (T := TX4) (N := 2) hx hb htu hinX4 hown hK hP 0 rfl rfl 0 (by decide) k_1_146 (fun _ h9 => h9) rfl dX4_clear_1 ?_
    refine lv_iload_n hx hb dX4_clear_4 rfl (lv_at hl 1 rfl) ?_
    obtain ⟨vC_1, hg2, hf⟩ := o1_at hf
    refine k_vvP ⟨hx, hb, hml, hown, htu⟩ hK hP hD hS hA hG (c_X0_clear l g bC vC x1 vC_1 hg2) (cwV 1 htu (gU_V mw_3_223 hcX0_clear) rfl rfl rfl hdX0_clear ⟨Nat.le_of_ble_eq_true rfl, Nat.le_of_ble_eq_true rfl⟩) (q0 := 1) (ci := 0) (fs := fcC bC vC) (q := (RX0, TX0, 14)) rfl rfl rfl (wr := (cS g bS (bC 0) (bT 0) ++ (cT g bT vT))) (w2 := cS g bS (bC 0) (bT 0) ++ (cC g bC vC_1 ++ (cT g bT vT))) [1, 2, 3, 4, 5, 6, 7, 8, 9, 10, 11] [0, 12, 13, 14, 15, 16] [0, 6, 7, 8, 9, 10, 11, 12, 13, 14, 15, 16, 1, 2, 3, 4, 5] rfl rfl (by decide) (by decide) (by decide) rfl rfl (by decide) (As := [.int x1]) (rest := []) rfl rfl hl.1 (Nat.le_of_ble_eq_true rfl) dX4_clear_5 (k1 := 0) (n1 := 0) rfl rfl ⟨Nat.zero_le _, Nat.zero_le _⟩ (fun H locs hP hD hS => ?_)
    refine lv_aload_n hx hb dX4_clear_8 rfl (lv_at hl 0 rfl) ?_
    refine va_get (D := g.1) (ci := 4) (fs := fcS bS (bC 0) (bT 0)) (v := .ref (bT 0)) (C := RX4) (T := TX4) (N := 2) hx hb htu hinX4 hown hK hP 0 rfl rfl 1 (by decide) k_1_149 (fun _ h9 => h9) rfl dX4_clear_9 ?_
    obtain ⟨vT_3, hg4, hf⟩ := o1_at hf
    refine k_vvP ⟨hx, hb, hml, hown, htu⟩ hK hP hD hS hA hG (c_X6_clear l g bT vT vT_3 hg4) (cwV 0 htu (gU_V mw_3_224 hcX6_clear) rfl rfl rfl hdX6_clear ⟨Nat.le_of_ble_eq_true rfl, Nat.le_of_ble_eq_true rfl⟩) (q0 := 12) (ci := 6) (fs := fcT bT vT) (q := (RX6, TX6, 5)) rfl rfl rfl (wr := (cS g bS (bC 0) (bT 0) ++ (cC g bC vC_1))) (w2 := cS g bS (bC 0) (bT 0) ++ (cC g bC vC_1 ++ (cT g bT vT_3))) [12, 13, 14, 15, 16] [0, 1, 2, 3, 4, 5, 6, 7, 8, 9, 10, 11] [0, 1, 2, 3, 4, 5, 6, 7, 8, 9, 10, 11, 12, 13, 14, 15, 16] rfl rfl (by decide) (by decide) (by decide) rfl rfl (by decide) (As := []) (rest := []) rfl rfl hl.1 (Nat.le_of_ble_eq_true rfl) dX4_clear_12 (k1 := 0) (n1 := 0) rfl rfl ⟨Nat.zero_le _, Nat.zero_le _⟩ (fun H locs hP hD hS => ?_)
    obtain ⟨e5, e6⟩ := kp_2 hf
    rw [e5] at hP hD
    rw [e6] at hP hD
    exact k_vret hx hb hr hlocks hK hP hD hS dX4_clear_15
  rw [hH, hlo] at hW
  exact hW
def f_X4_copyFrom (vC : Vs) (vT : Vs) (vE : Vs) (vU : Vs) : Option (Vs × Vs) :=
  o1 (f_X0_copyFrom vC vE) (fun (vC_1 : Vs) => o1 (f_X6_copyFrom vT vU) (fun (vT_3 : Vs) => some (vC_1, vT_3)))
abbrev wsX4_copyFrom : List Cond := .code yX4_copyFrom cX4_copyFrom 2 none :: UW
abbrev rmX4_copyFrom : Room := { frames := 2, cells := 0, slots := 0, locals := 81 }
set_option maxHeartbeats 4000000 in
set_option maxRecDepth 100000 in
theorem c_X4_copyFrom (l : Launch) (g : Gx) (bS : Nat → Nat) (bC : Nat → Nat) (vC : Vs) (bT : Nat → Nat) (vT : Vs) (bS2 : Nat → Nat) (bE : Nat → Nat) (vE : Vs) (bU : Nat → Nat) (vU : Vs) (vC1 : Vs) (vT1 : Vs) (hf : f_X4_copyFrom vC vT vE vU = some (vC1, vT1)) : CtV l yX4_copyFrom wsX4_copyFrom rmX4_copyFrom g [.ref (bS 0), .ref (bS2 0)] (cS g bS (bC 0) (bT 0) ++ (cC g bC vC ++ (cT g bT vT ++ (cS g bS2 (bE 0) (bU 0) ++ (cC g bE vE ++ (cT g bU vU)))))) (cS g bS (bC 0) (bT 0) ++ (cC g bC vC1 ++ (cT g bT vT1 ++ (cS g bS2 (bE 0) (bU 0) ++ (cC g bE vE ++ (cT g bU vU)))))) 0 0 := by
  unfold CtV
  intro sz
  refine Met.ofW (cc := cX4_copyFrom) (maxL := 2) (ret := none) (by decide) rfl ?_
  intro p e s m args below meth c s₁ B hml hv
  obtain ⟨rfl, hsz, hP, hK, hD0, hG⟩ := hv
  have hx := B.exec
  have hb := B.bytes
  have hr := B.returns
  have hts := atoms_spec (ws := wsX4_copyFrom) B.pre
  have hown : s.vm.findClass RX4 = some m.cls := findClass_of_methodNamed B.named
  have hlocks := B.notSynchronized
  subst hsz
  have hD := hD0.self (sz := s.heap.size)
  generalize hAe : va_A (cS g bS (bC 0) (bT 0) ++ (cC g bC vC ++ (cT g bT vT ++ (cS g bS2 (bE 0) (bU 0) ++ (cC g bE vE ++ (cT g bU vU)))))) s.heap.size = A at hD hG ⊢
  have hA : ∀ q : Nat, s.heap.size ≤ q → A q := fun q h => by rw [← hAe]; exact Or.inr h
  clear hAe hD0
  have hS : va_S A s.heap s.heap [] := va_S.rf
  have hl := lv_entry ([.ref (bS 0), .ref (bS2 0)]) (n := 2) (Nat.le_of_ble_eq_true rfl)
  rw [lg_entry_eq]
  generalize (lg_sl ([.ref (bS 0), .ref (bS2 0)]) ++ List.replicate (2 - (lg_sl ([.ref (bS 0), .ref (bS2 0)])).length) Slot.unset).toArray = ls at hl ⊢
  have hl : lv_has ls 2 [(0, .ref (bS 0)), (1, .ref (bS2 0))] := hl
  have htu : ∀ w ∈ UW, w.before _ s = true := fun w h => hts w (List.mem_cons_of_mem _ h)
  have k_1_146 := htu _ mw_1_146
  have k_1_149 := htu _ mw_1_149
  unfold f_X4_copyFrom at hf
  obtain ⟨H, hH⟩ : ∃ z, z = s.heap := ⟨_, rfl⟩
  obtain ⟨locs, hlo⟩ : ∃ z : List Loc, z = [] := ⟨_, rfl⟩
  have hS : va_S A s.heap H locs := by rw [hH, hlo]; exact hS
  rw [← hH] at hP
  have hW : W p l e (headSpec wsX4_copyFrom rmX4_copyFrom).room s m ([.ref (bS 0), .ref (bS2 0)] : List Value).toArray below meth c H locs 0 0 (MQ below (qV g A (cS g bS (bC 0) (bT 0) ++ (cC g bC vC1 ++ (cT g bT vT1 ++ (cS g bS2 (bE 0) (bU 0) ++ (cC g bE vE ++ (cT g bU vU))))))) ([.ref (bS 0), .ref (bS2 0)] : List Value).toArray s 0 0 A) (F0 m 0 ls []) := by
    refine lv_aload_n hx hb dX4_copyFrom_0 rfl (lv_at hl 0 rfl) ?_
    refine va_get (D := g.1) (ci := 4) (fs := fcS bS (bC 0) (bT 0)) (v := .ref (bC 0)) (C := RX4) (T := TX4) (N := 2) hx hb htu hinX4 hown hK hP 0 rfl rfl 0 (by decide) k_1_146 (fun _ h9 => h9) rfl dX4_copyFrom_1 ?_
    refine lv_aload_n hx hb dX4_copyFrom_4 rfl (lv_at hl 1 rfl) ?_
    refine va_get (D := g.1) (ci := 4) (fs := fcS bS2 (bE 0) (bU 0)) (v := .ref (bE 0)) (C := RX4) (T := TX4) (N := 2) hx hb htu hinX4 hown hK hP 17 rfl rfl 0 (by decide) k_1_146 (fun _ h9 => h9) rfl dX4_copyFrom_5 ?_
    obtain ⟨vC_1, hg2, hf⟩ := o1_at hf
    refine k_vvP ⟨hx, hb, hml, hown, htu⟩ hK hP hD hS hA hG (c_X0_copyFrom l g bC vC bE vE vC_1 hg2) (cwV 1 htu (gU_V mw_3_58 hcX0_copyFrom) rfl rfl rfl hdX0_copyFrom ⟨Nat.le_of_ble_eq_true rfl, Nat.le_of_ble_eq_true rfl⟩) (q0 := 1) (ci := 0) (fs := fcC bC vC) (q := (RX0, TX0, 14)) rfl rfl rfl (wr := (cS g bS (bC 0) (bT 0) ++ (cT g bT vT ++ (cS g bS2 (bE 0) (bU 0) ++ (cT g bU vU))))) (w2 := cS g bS (bC 0) (bT 0) ++ (cC g bC vC_1 ++ (cT g bT vT ++ (cS g bS2 (bE 0) (bU 0) ++ (cC g bE vE ++ (cT g bU vU)))))) [1, 2, 3, 4, 5, 6, 7, 8, 9, 10, 11, 18, 19, 20, 21, 22, 23, 24, 25, 26, 27, 28] [0, 12, 13, 14, 15, 16, 17, 29, 30, 31, 32, 33] [0, 12, 13, 14, 15, 16, 17, 18, 19, 20, 21, 22, 1, 2, 3, 4, 5, 6, 23, 24, 25, 26, 27, 28, 29, 30, 31, 32, 33, 7, 8, 9, 10, 11] rfl rfl (by decide) (by decide) (by decide) rfl rfl (by decide) (As := [.ref (bE 0)]) (rest := []) rfl rfl hl.1 (Nat.le_of_ble_eq_true rfl) dX4_copyFrom_8 (k1 := 0) (n1 := 0) rfl rfl ⟨Nat.zero_le _, Nat.zero_le _⟩ (fun H locs hP hD hS => ?_)
    refine lv_aload_n hx hb dX4_copyFrom_11 rfl (lv_at hl 0 rfl) ?_
    refine va_get (D := g.1) (ci := 4) (fs := fcS bS (bC 0) (bT 0)) (v := .ref (bT 0)) (C := RX4) (T := TX4) (N := 2) hx hb htu hinX4 hown hK hP 0 rfl rfl 1 (by decide) k_1_149 (fun _ h9 => h9) rfl dX4_copyFrom_12 ?_
    refine lv_aload_n hx hb dX4_copyFrom_15 rfl (lv_at hl 1 rfl) ?_
    refine va_get (D := g.1) (ci := 4) (fs := fcS bS2 (bE 0) (bU 0)) (v := .ref (bU 0)) (C := RX4) (T := TX4) (N := 2) hx hb htu hinX4 hown hK hP 17 rfl rfl 1 (by decide) k_1_149 (fun _ h9 => h9) rfl dX4_copyFrom_16 ?_
    obtain ⟨vT_3, hg4, hf⟩ := o1_at hf
    refine k_vvP ⟨hx, hb, hml, hown, htu⟩ hK hP hD hS hA hG (c_X6_copyFrom l g bT vT bU vU vT_3 hg4) (cwV 1 htu (gU_V mw_3_65 hcX6_copyFrom) rfl rfl rfl hdX6_copyFrom ⟨Nat.le_of_ble_eq_true rfl, Nat.le_of_ble_eq_true rfl⟩) (q0 := 12) (ci := 6) (fs := fcT bT vT) (q := (RX6, TX6, 5)) rfl rfl rfl (wr := (cS g bS (bC 0) (bT 0) ++ (cC g bC vC_1 ++ (cS g bS2 (bE 0) (bU 0) ++ (cC g bE vE))))) (w2 := cS g bS (bC 0) (bT 0) ++ (cC g bC vC_1 ++ (cT g bT vT_3 ++ (cS g bS2 (bE 0) (bU 0) ++ (cC g bE vE ++ (cT g bU vU)))))) [12, 13, 14, 15, 16, 29, 30, 31, 32, 33] [0, 1, 2, 3, 4, 5, 6, 7, 8, 9, 10, 11, 17, 18, 19, 20, 21, 22, 23, 24, 25, 26, 27, 28] [0, 1, 2, 3, 4, 5, 6, 7, 8, 9, 10, 11, 24, 25, 26, 27, 28, 12, 13, 14, 15, 16, 17, 18, 19, 20, 21, 22, 23, 29, 30, 31, 32, 33] rfl rfl (by decide) (by decide) (by decide) rfl rfl (by decide) (As := [.ref (bU 0)]) (rest := []) rfl rfl hl.1 (Nat.le_of_ble_eq_true rfl) dX4_copyFrom_19 (k1 := 0) (n1 := 0) rfl rfl ⟨Nat.zero_le _, Nat.zero_le _⟩ (fun H locs hP hD hS => ?_)
    obtain ⟨e5, e6⟩ := kp_2 hf
    rw [e5] at hP hD
    rw [e6] at hP hD
    exact k_vret hx hb hr hlocks hK hP hD hS dX4_copyFrom_22
  rw [hH, hlo] at hW
  exact hW
