def f_X0_hasBit (x0 : Int32) (x1 : Int32) : Option (Int32) :=
  jn (fun (t1 : Int32) => gd (isB t1) (some (t1))) (fun k2 => if ((ius x0 x1) &&& (1 : Int32)) = 0 then k2 (0 : Int32) else k2 (1 : Int32))
abbrev wsX0_hasBit : List Cond := .code yX0_hasBit cX0_hasBit 2 (some .boolean) :: UW
abbrev rmX0_hasBit : Room := { frames := 0, cells := 0, slots := 0, locals := 0 }
set_option maxHeartbeats 4000000 in
set_option maxRecDepth 100000 in
theorem c_X0_hasBit (l : Launch) (g : Gx) (x0 : Int32) (x1 : Int32) (r : Int32) (hf : f_X0_hasBit x0 x1 = some r) : CtI l yX0_hasBit wsX0_hasBit rmX0_hasBit g [.int x0, .int x1] ([]) ([]) r 0 0 := by
  unfold CtI
  intro sz
  refine Met.ofW (cc := cX0_hasBit) (maxL := 2) (ret := (some .boolean)) (by decide) rfl ?_
  intro p e s m args below meth c s₁ B hml hv
  obtain ⟨rfl, hsz, hP, hK, hD0, hG⟩ := hv
  have hx := B.exec
  have hb := B.bytes
  have hr := B.returns
  have hts := atoms_spec (ws := wsX0_hasBit) B.pre
  have hown : s.vm.findClass RX0 = some m.cls := findClass_of_methodNamed B.named
  have hlocks := B.notSynchronized
  subst hsz
  have hD := hD0.self (sz := s.heap.size)
  generalize hAe : va_A ([]) s.heap.size = A at hD hG ⊢
  have hA : ∀ q : Nat, s.heap.size ≤ q → A q := fun q h => by rw [← hAe]; exact Or.inr h
  clear hAe hD0
  have hS : va_S A s.heap s.heap [] := va_S.rf
  have hl := lv_entry ([.int x0, .int x1]) (n := 2) (Nat.le_of_ble_eq_true rfl)
  rw [lg_entry_eq]
  generalize (lg_sl ([.int x0, .int x1]) ++ List.replicate (2 - (lg_sl ([.int x0, .int x1])).length) Slot.unset).toArray = ls at hl ⊢
  have hl : lv_has ls 2 [(0, .int x0), (1, .int x1)] := hl
  have htu : ∀ w ∈ UW, w.before _ s = true := fun w h => hts w (List.mem_cons_of_mem _ h)
  unfold f_X0_hasBit at hf
  obtain ⟨H, hH⟩ : ∃ z, z = s.heap := ⟨_, rfl⟩
  obtain ⟨locs, hlo⟩ : ∃ z : List Loc, z = [] := ⟨_, rfl⟩
  have hS : va_S A s.heap H locs := by rw [hH, hlo]; exact hS
  rw [← hH] at hP
  have hW : W p l e (headSpec wsX0_hasBit rmX0_hasBit).room s m ([.int x0, .int x1] : List Value).toArray below meth c H locs 0 0 (MQ below (qI g A ([]) r) ([.int x0, .int x1] : List Value).toArray s 0 0 A) (F0 m 0 ls []) := by
    refine lv_iload_n hx hb dX0_hasBit_0 rfl (lv_at hl 0 rfl) ?_
    refine lv_iload_n hx hb dX0_hasBit_1 rfl (lv_at hl 1 rfl) ?_
    refine lv_iushr (v := (ius x0 x1)) hx hb dX0_hasBit_2 rfl ?_
    refine lv_iconst (v := (1 : Int32)) hx hb dX0_hasBit_3 (by decide) ?_
    refine lv_iand hx hb dX0_hasBit_4 ?_
    obtain ⟨k2, hk6, hf⟩ := jn_at hf
    have hJ3 : ∀ (t1 : Int32), k2 t1 = some r → ∀ (H : Heap) (locs : List Loc), va_P g.1 vwCl ([]) H → va_D A ([]) → va_S A s.heap H locs → ∀ ls : Array Slot, lv_has ls 2 [] → W p l e (headSpec wsX0_hasBit rmX0_hasBit).room s m ([.int x0, .int x1] : List Value).toArray below meth c H locs 0 0 (MQ below (qI g A ([]) r) ([.int x0, .int x1] : List Value).toArray s 0 0 A) (F0 m 13 ls [.int t1]) := by
      intro t1 hf H locs hP hD hS ls hl
      rw [hk6] at hf
      dsimp only at hf
      clear hk6
      obtain ⟨h4, hf⟩ := gd_isB hf
      have e5 := Option.some.inj hf
      exact k_zret hx hb hr hlocks hK hP hD hS e5 h4 dX0_hasBit_13
    refine lv_if_eq (tgt := 12) hx hb dX0_hasBit_5 (by decide) (fun c7 => ?_) (fun c7 => ?_)
    · have hf := it_t hf c7
      refine lv_iconst (v := (0 : Int32)) hx hb dX0_hasBit_12 (by decide) ?_
      exact hJ3 (0 : Int32) hf H locs hP hD hS _ (lv_sub hl [] rfl)
    · have hf := it_f hf c7
      refine lv_iconst (v := (1 : Int32)) hx hb dX0_hasBit_8 (by decide) ?_
      refine lv_goto (tgt := 13) hx hb dX0_hasBit_9 (by decide) ?_
      exact hJ3 (1 : Int32) hf H locs hP hD hS _ (lv_sub hl [] rfl)
  rw [hH, hlo] at hW
  exact hW
def f_X0_clear_L22 (self7 : Int32 → Vs → Option (Vs)) (x2_5 : Int32) (vC_6 : Vs) : Option (Vs) :=
  if (24 : Int32) ≤ x2_5 then some (vC_6) else gd (inb x2_5 24) (bn (sI vC_6 4 (x2_5).toNatClampNeg (-1 : Int32)) (fun (vC_13 : Vs) => gd (inb x2_5 24) (bn (sI vC_13 5 (x2_5).toNatClampNeg (0 : Int32)) (fun (vC_15 : Vs) => gd (inb x2_5 24) (bn (sI vC_15 7 (x2_5).toNatClampNeg (0 : Int32)) (fun (vC_17 : Vs) => gd (inb x2_5 24) (bn (sI vC_17 8 (x2_5).toNatClampNeg (0 : Int32)) (fun (vC_19 : Vs) => gd (inb x2_5 24) (bn (sI vC_19 9 (x2_5).toNatClampNeg (0 : Int32)) (fun (vC_21 : Vs) => self7 (x2_5 + (1 : Int32)) vC_21))))))))))
def f_X0_clear (vC : Vs) (x1 : Int32) : Option (Vs) :=
  bn (sF vC 0 x1) (fun (vC_1 : Vs) => bn (sF vC_1 1 x1) (fun (vC_2 : Vs) => bn (sF vC_2 2 (0 : Int32)) (fun (vC_3 : Vs) => bn (sF vC_3 3 (0 : Int32)) (fun (vC_4 : Vs) => lp f_X0_clear_L22 (fun _ _ => none) FU (0 : Int32) vC_4))))
abbrev wsX0_clear : List Cond := .code yX0_clear cX0_clear 3 none :: UW
abbrev rmX0_clear : Room := { frames := 0, cells := 0, slots := 0, locals := 0 }
set_option maxHeartbeats 4000000 in
set_option maxRecDepth 100000 in
theorem c_X0_clear (l : Launch) (g : Gx) (bC : Nat → Nat) (vC : Vs) (x1 : Int32) (vC1 : Vs) (hf : f_X0_clear vC x1 = some vC1) : CtV l yX0_clear wsX0_clear rmX0_clear g [.ref (bC 0), .int x1] (cC g bC vC) (cC g bC vC1) 0 0 := by
  unfold CtV
  intro sz
  refine Met.ofW (cc := cX0_clear) (maxL := 3) (ret := none) (by decide) rfl ?_
  intro p e s m args below meth c s₁ B hml hv
  obtain ⟨rfl, hsz, hP, hK, hD0, hG⟩ := hv
  have hx := B.exec
  have hb := B.bytes
  have hr := B.returns
  have hts := atoms_spec (ws := wsX0_clear) B.pre
  have hown : s.vm.findClass RX0 = some m.cls := findClass_of_methodNamed B.named
  have hlocks := B.notSynchronized
  subst hsz
  have hD := hD0.self (sz := s.heap.size)
  generalize hAe : va_A (cC g bC vC) s.heap.size = A at hD hG ⊢
  have hA : ∀ q : Nat, s.heap.size ≤ q → A q := fun q h => by rw [← hAe]; exact Or.inr h
  clear hAe hD0
  have hS : va_S A s.heap s.heap [] := va_S.rf
  have hl := lv_entry ([.ref (bC 0), .int x1]) (n := 3) (Nat.le_of_ble_eq_true rfl)
  rw [lg_entry_eq]
  generalize (lg_sl ([.ref (bC 0), .int x1]) ++ List.replicate (3 - (lg_sl ([.ref (bC 0), .int x1])).length) Slot.unset).toArray = ls at hl ⊢
  have hl : lv_has ls 3 [(0, .ref (bC 0)), (1, .int x1)] := hl
  have htu : ∀ w ∈ UW, w.before _ s = true := fun w h => hts w (List.mem_cons_of_mem _ h)
  have k_1_59 := htu _ mw_1_59
  have k_1_63 := htu _ mw_1_63
  have k_1_67 := htu _ mw_1_67
  have k_1_70 := htu _ mw_1_70
  have k_1_72 := htu _ mw_1_72
  have k_1_74 := htu _ mw_1_74
  have k_1_78 := htu _ mw_1_78
  have k_1_79 := htu _ mw_1_79
  have k_1_80 := htu _ mw_1_80
  unfold f_X0_clear at hf
  obtain ⟨H, hH⟩ : ∃ z, z = s.heap := ⟨_, rfl⟩
  obtain ⟨locs, hlo⟩ : ∃ z : List Loc, z = [] := ⟨_, rfl⟩
  have hS : va_S A s.heap H locs := by rw [hH, hlo]; exact hS
  rw [← hH] at hP
  have hW : W p l e (headSpec wsX0_clear rmX0_clear).room s m ([.ref (bC 0), .int x1] : List Value).toArray below meth c H locs 0 0 (MQ below (qV g A (cC g bC vC1)) ([.ref (bC 0), .int x1] : List Value).toArray s 0 0 A) (F0 m 0 ls []) := by
    refine lv_aload_n hx hb dX0_clear_0 rfl (lv_at hl 0 rfl) ?_
    refine lv_iload_n hx hb dX0_clear_1 rfl (lv_at hl 1 rfl) ?_
    refine va_put (D := g.1) (ci := 0) (fs := fcC bC vC) (v := .int x1) (ty := .int) (C := RX0) (T := TX0) (N := 14) hx hb htu hinX0 tyX0 tyX0_ok nmX0 hown hK hP hD hS 0 rfl rfl 0 (by decide) k_1_59 (fun _ h9 => h9) rfl (by decide +kernel) rfl rfl (Nat.le_of_ble_eq_true rfl) dX0_clear_2 (fun H locs hP hD hS => ?_)
    obtain ⟨vC_1, evC_1⟩ : ∃ z, z = sF vC 0 x1 := ⟨_, rfl⟩
    have hf := bn_at hf evC_1
    have hP : va_P g.1 vwCl (cC g bC vC_1) H := by rw [evC_1]; exact hP
    have hD : va_D A (cC g bC vC_1) := by rw [evC_1]; exact hD
    refine lv_aload_n hx hb dX0_clear_5 rfl (lv_at hl 0 rfl) ?_
    refine lv_iload_n hx hb dX0_clear_6 rfl (lv_at hl 1 rfl) ?_
    refine va_put (D := g.1) (ci := 0) (fs := fcC bC vC_1) (v := .int x1) (ty := .int) (C := RX0) (T := TX0) (N := 14) hx hb htu hinX0 tyX0 tyX0_ok nmX0 hown hK hP hD hS 0 rfl rfl 1 (by decide) k_1_63 (fun _ h9 => h9) rfl (by decide +kernel) rfl rfl (Nat.le_of_ble_eq_true rfl) dX0_clear_7 (fun H locs hP hD hS => ?_)
    obtain ⟨vC_2, evC_2⟩ : ∃ z, z = sF vC_1 1 x1 := ⟨_, rfl⟩
    have hf := bn_at hf evC_2
    have hP : va_P g.1 vwCl (cC g bC vC_2) H := by rw [evC_2]; exact hP
    have hD : va_D A (cC g bC vC_2) := by rw [evC_2]; exact hD
    refine lv_aload_n hx hb dX0_clear_10 rfl (lv_at hl 0 rfl) ?_
    refine lv_iconst (v := (0 : Int32)) hx hb dX0_clear_11 (by decide) ?_
    refine va_put (D := g.1) (ci := 0) (fs := fcC bC vC_2) (v := .int (0 : Int32)) (ty := .int) (C := RX0) (T := TX0) (N := 14) hx hb htu hinX0 tyX0 tyX0_ok nmX0 hown hK hP hD hS 0 rfl rfl 2 (by decide) k_1_67 (fun _ h9 => h9) rfl (by decide +kernel) rfl rfl (Nat.le_of_ble_eq_true rfl) dX0_clear_12 (fun H locs hP hD hS => ?_)
    obtain ⟨vC_3, evC_3⟩ : ∃ z, z = sF vC_2 2 (0 : Int32) := ⟨_, rfl⟩
    have hf := bn_at hf evC_3
    have hP : va_P g.1 vwCl (cC g bC vC_3) H := by rw [evC_3]; exact hP
    have hD : va_D A (cC g bC vC_3) := by rw [evC_3]; exact hD
    refine lv_aload_n hx hb dX0_clear_15 rfl (lv_at hl 0 rfl) ?_
    refine lv_iconst (v := (0 : Int32)) hx hb dX0_clear_16 (by decide) ?_
    refine va_put (D := g.1) (ci := 0) (fs := fcC bC vC_3) (v := .int (0 : Int32)) (ty := .int) (C := RX0) (T := TX0) (N := 14) hx hb htu hinX0 tyX0 tyX0_ok nmX0 hown hK hP hD hS 0 rfl rfl 3 (by decide) k_1_70 (fun _ h9 => h9) rfl (by decide +kernel) rfl rfl (Nat.le_of_ble_eq_true rfl) dX0_clear_17 (fun H locs hP hD hS => ?_)
    obtain ⟨vC_4, evC_4⟩ : ∃ z, z = sF vC_3 3 (0 : Int32) := ⟨_, rfl⟩
    have hf := bn_at hf evC_4
    have hP : va_P g.1 vwCl (cC g bC vC_4) H := by rw [evC_4]; exact hP
    have hD : va_D A (cC g bC vC_4) := by rw [evC_4]; exact hD
    refine lv_iconst (v := (0 : Int32)) hx hb dX0_clear_20 (by decide) ?_
    refine lv_istore_n (lv' := [(2, .int (0 : Int32)), (0, .ref (bC 0)), (1, .int x1)]) hx hb dX0_clear_21 rfl hl (by decide) rfl (fun ls hl => ?_)
    have hL8 : ∀ (x2_5 : Int32) (vC_6 : Vs), lp f_X0_clear_L22 (fun _ _ => none) FU x2_5 vC_6 = some vC1 → ∀ (H : Heap) (locs : List Loc), va_P g.1 vwCl (cC g bC vC_6) H → va_D A (cC g bC vC_6) → va_S A s.heap H locs → ∀ ls : Array Slot, lv_has ls 3 [(0, .ref (bC 0)), (2, .int x2_5)] → W p l e (headSpec wsX0_clear rmX0_clear).room s m ([.ref (bC 0), .int x1] : List Value).toArray below meth c H locs 0 0 (MQ below (qV g A (cC g bC vC1)) ([.ref (bC 0), .int x1] : List Value).toArray s 0 0 A) (F0 m 22 ls []) := by
      refine lp_ind (T := Int32 → Vs → Option (Vs)) (fun self7 => ∀ (x2_5 : Int32) (vC_6 : Vs), self7 x2_5 vC_6 = some vC1 → ∀ (H : Heap) (locs : List Loc), va_P g.1 vwCl (cC g bC vC_6) H → va_D A (cC g bC vC_6) → va_S A s.heap H locs → ∀ ls : Array Slot, lv_has ls 3 [(0, .ref (bC 0)), (2, .int x2_5)] → W p l e (headSpec wsX0_clear rmX0_clear).room s m ([.ref (bC 0), .int x1] : List Value).toArray below meth c H locs 0 0 (MQ below (qV g A (cC g bC vC1)) ([.ref (bC 0), .int x1] : List Value).toArray s 0 0 A) (F0 m 22 ls [])) ?_ ?_ FU
      · intro x2_5 vC_6 hf; cases hf
      · intro self7 ih9 x2_5 vC_6 hf H locs hP hD hS ls hl
        unfold f_X0_clear_L22 at hf
        refine lv_iload_n hx hb dX0_clear_22 rfl (lv_at hl 1 rfl) ?_
        refine lv_bipush (v := (24 : Int32)) hx hb dX0_clear_23 (by decide) ?_
        refine lv_icmp_ge (tgt := 69) hx hb dX0_clear_25 (by decide) (fun c10 => ?_) (fun c10 => ?_)
        · have hf := it_t hf c10
          have e11 := Option.some.inj hf
          rw [e11] at hP hD
          exact k_vret hx hb hr hlocks hK hP hD hS dX0_clear_69
        · have hf := it_f hf c10
          refine lv_aload_n hx hb dX0_clear_28 rfl (lv_at hl 0 rfl) ?_
          refine va_get (D := g.1) (ci := 0) (fs := fcC bC vC_6) (v := .ref (bC 5)) (C := RX0) (T := TX0) (N := 14) hx hb htu hinX0 hown hK hP 0 rfl rfl 4 (by decide) k_1_72 (fun _ h9 => h9) rfl dX0_clear_29 ?_
          refine lv_iload_n hx hb dX0_clear_32 rfl (lv_at hl 1 rfl) ?_
          refine lv_iconst (v := (-1 : Int32)) hx hb dX0_clear_33 (by decide) ?_
          obtain ⟨h12, hf⟩ := gd_in hf
          refine va_iast (D := g.1) (f := (vC_6.2.1 4)) hx hb hK hP hD hS 1 0 rfl rfl h12 dX0_clear_34 (fun H locs hP hD hS => ?_)
          obtain ⟨vC_13, evC_13⟩ : ∃ z, z = sI vC_6 4 (x2_5).toNatClampNeg (-1 : Int32) := ⟨_, rfl⟩
          have hf := bn_at hf evC_13
          have hP : va_P g.1 vwCl (cC g bC vC_13) H := by rw [evC_13]; exact hP
          have hD : va_D A (cC g bC vC_13) := by rw [evC_13]; exact hD
          refine lv_aload_n hx hb dX0_clear_35 rfl (lv_at hl 0 rfl) ?_
          refine va_get (D := g.1) (ci := 0) (fs := fcC bC vC_13) (v := .ref (bC 6)) (C := RX0) (T := TX0) (N := 14) hx hb htu hinX0 hown hK hP 0 rfl rfl 5 (by decide) k_1_74 (fun _ h9 => h9) rfl dX0_clear_36 ?_
          refine lv_iload_n hx hb dX0_clear_39 rfl (lv_at hl 1 rfl) ?_
          refine lv_iconst (v := (0 : Int32)) hx hb dX0_clear_40 (by decide) ?_
          obtain ⟨h14, hf⟩ := gd_in hf
          refine va_iast (D := g.1) (f := (vC_13.2.1 5)) hx hb hK hP hD hS 2 0 rfl rfl h14 dX0_clear_41 (fun H locs hP hD hS => ?_)
          obtain ⟨vC_15, evC_15⟩ : ∃ z, z = sI vC_13 5 (x2_5).toNatClampNeg (0 : Int32) := ⟨_, rfl⟩
          have hf := bn_at hf evC_15
          have hP : va_P g.1 vwCl (cC g bC vC_15) H := by rw [evC_15]; exact hP
          have hD : va_D A (cC g bC vC_15) := by rw [evC_15]; exact hD
          refine lv_aload_n hx hb dX0_clear_42 rfl (lv_at hl 0 rfl) ?_
          refine va_get (D := g.1) (ci := 0) (fs := fcC bC vC_15) (v := .ref (bC 8)) (C := RX0) (T := TX0) (N := 14) hx hb htu hinX0 hown hK hP 0 rfl rfl 7 (by decide) k_1_78 (fun _ h9 => h9) rfl dX0_clear_43 ?_
          refine lv_iload_n hx hb dX0_clear_46 rfl (lv_at hl 1 rfl) ?_
          refine lv_iconst (v := (0 : Int32)) hx hb dX0_clear_47 (by decide) ?_
          obtain ⟨h16, hf⟩ := gd_in hf
          refine va_iast (D := g.1) (f := (vC_15.2.1 7)) hx hb hK hP hD hS 4 0 rfl rfl h16 dX0_clear_48 (fun H locs hP hD hS => ?_)
          obtain ⟨vC_17, evC_17⟩ : ∃ z, z = sI vC_15 7 (x2_5).toNatClampNeg (0 : Int32) := ⟨_, rfl⟩
          have hf := bn_at hf evC_17
          have hP : va_P g.1 vwCl (cC g bC vC_17) H := by rw [evC_17]; exact hP
          have hD : va_D A (cC g bC vC_17) := by rw [evC_17]; exact hD
          refine lv_aload_n hx hb dX0_clear_49 rfl (lv_at hl 0 rfl) ?_
          refine va_get (D := g.1) (ci := 0) (fs := fcC bC vC_17) (v := .ref (bC 9)) (C := RX0) (T := TX0) (N := 14) hx hb htu hinX0 hown hK hP 0 rfl rfl 8 (by decide) k_1_79 (fun _ h9 => h9) rfl dX0_clear_50 ?_
          refine lv_iload_n hx hb dX0_clear_53 rfl (lv_at hl 1 rfl) ?_
          refine lv_iconst (v := (0 : Int32)) hx hb dX0_clear_54 (by decide) ?_
          obtain ⟨h18, hf⟩ := gd_in hf
          refine va_iast (D := g.1) (f := (vC_17.2.1 8)) hx hb hK hP hD hS 5 0 rfl rfl h18 dX0_clear_55 (fun H locs hP hD hS => ?_)
          obtain ⟨vC_19, evC_19⟩ : ∃ z, z = sI vC_17 8 (x2_5).toNatClampNeg (0 : Int32) := ⟨_, rfl⟩
          have hf := bn_at hf evC_19
          have hP : va_P g.1 vwCl (cC g bC vC_19) H := by rw [evC_19]; exact hP
          have hD : va_D A (cC g bC vC_19) := by rw [evC_19]; exact hD
          refine lv_aload_n hx hb dX0_clear_56 rfl (lv_at hl 0 rfl) ?_
          refine va_get (D := g.1) (ci := 0) (fs := fcC bC vC_19) (v := .ref (bC 10)) (C := RX0) (T := TX0) (N := 14) hx hb htu hinX0 hown hK hP 0 rfl rfl 9 (by decide) k_1_80 (fun _ h9 => h9) rfl dX0_clear_57 ?_
          refine lv_iload_n hx hb dX0_clear_60 rfl (lv_at hl 1 rfl) ?_
          refine lv_iconst (v := (0 : Int32)) hx hb dX0_clear_61 (by decide) ?_
          obtain ⟨h20, hf⟩ := gd_in hf
          refine va_iast (D := g.1) (f := (vC_19.2.1 9)) hx hb hK hP hD hS 6 0 rfl rfl h20 dX0_clear_62 (fun H locs hP hD hS => ?_)
          obtain ⟨vC_21, evC_21⟩ : ∃ z, z = sI vC_19 9 (x2_5).toNatClampNeg (0 : Int32) := ⟨_, rfl⟩
          have hf := bn_at hf evC_21
          have hP : va_P g.1 vwCl (cC g bC vC_21) H := by rw [evC_21]; exact hP
          have hD : va_D A (cC g bC vC_21) := by rw [evC_21]; exact hD
          refine lv_iinc (v := (x2_5 + (1 : Int32))) (lv' := [(2, .int (x2_5 + (1 : Int32))), (0, .ref (bC 0))]) hx hb dX0_clear_63 hl (k := 1) rfl rfl (by decide) rfl (fun ls hl => ?_)
          refine lv_goto (tgt := 22) hx hb dX0_clear_66 (by decide) ?_
          exact ih9 (x2_5 + (1 : Int32)) vC_21 hf H locs hP hD hS _ (lv_sub hl [1, 0] rfl)
    exact hL8 (0 : Int32) vC_4 hf H locs hP hD hS _ (lv_sub hl [1, 0] rfl)
  rw [hH, hlo] at hW
  exact hW
def f_X0_copyFrom (vC : Vs) (vE : Vs) : Option (Vs) :=
  bn (sF vC 0 (vE.1 0)) (fun (vC_1 : Vs) => bn (sF vC_1 1 (vE.1 1)) (fun (vC_2 : Vs) => bn (sF vC_2 2 (vE.1 2)) (fun (vC_3 : Vs) => bn (sF vC_3 3 (vE.1 3)) (fun (vC_4 : Vs) => bn (sA vC_4 4 (va_cpy (vE.2.1 4) (vC_4.2.1 4) ((0 : Int32)).toNatClampNeg ((0 : Int32)).toNatClampNeg ((24 : Int32)).toNatClampNeg)) (fun (vC_5 : Vs) => bn (sA vC_5 5 (va_cpy (vE.2.1 5) (vC_5.2.1 5) ((0 : Int32)).toNatClampNeg ((0 : Int32)).toNatClampNeg ((24 : Int32)).toNatClampNeg)) (fun (vC_6 : Vs) => bn (sA vC_6 6 (va_cpy (vE.2.1 6) (vC_6.2.1 6) ((0 : Int32)).toNatClampNeg ((0 : Int32)).toNatClampNeg ((96 : Int32)).toNatClampNeg)) (fun (vC_7 : Vs) => bn (sA vC_7 7 (va_cpy (vE.2.1 7) (vC_7.2.1 7) ((0 : Int32)).toNatClampNeg ((0 : Int32)).toNatClampNeg ((24 : Int32)).toNatClampNeg)) (fun (vC_8 : Vs) => bn (sA vC_8 8 (va_cpy (vE.2.1 8) (vC_8.2.1 8) ((0 : Int32)).toNatClampNeg ((0 : Int32)).toNatClampNeg ((24 : Int32)).toNatClampNeg)) (fun (vC_9 : Vs) => bn (sA vC_9 9 (va_cpy (vE.2.1 9) (vC_9.2.1 9) ((0 : Int32)).toNatClampNeg ((0 : Int32)).toNatClampNeg ((24 : Int32)).toNatClampNeg)) (fun (vC_10 : Vs) => bn (sA vC_10 10 (va_cpy (vE.2.1 10) (vC_10.2.1 10) ((0 : Int32)).toNatClampNeg ((0 : Int32)).toNatClampNeg ((6 : Int32)).toNatClampNeg)) (fun (vC_11 : Vs) => bn (sA vC_11 11 (va_cpy (vE.2.1 11) (vC_11.2.1 11) ((0 : Int32)).toNatClampNeg ((0 : Int32)).toNatClampNeg ((8 : Int32)).toNatClampNeg)) (fun (vC_12 : Vs) => bn (sA vC_12 12 (va_cpy (vE.2.1 12) (vC_12.2.1 12) ((0 : Int32)).toNatClampNeg ((0 : Int32)).toNatClampNeg ((8 : Int32)).toNatClampNeg)) (fun (vC_13 : Vs) => bn (sA vC_13 13 (va_cpy (vE.2.1 13) (vC_13.2.1 13) ((0 : Int32)).toNatClampNeg ((0 : Int32)).toNatClampNeg ((8 : Int32)).toNatClampNeg)) (fun (vC_14 : Vs) => some (vC_14)))))))))))))))
abbrev wsX0_copyFrom : List Cond := .code yX0_copyFrom cX0_copyFrom 2 none :: UW
abbrev rmX0_copyFrom : Room := { frames := 1, cells := 0, slots := 0, locals := 60 }
set_option maxHeartbeats 4000000 in
set_option maxRecDepth 100000 in
theorem c_X0_copyFrom (l : Launch) (g : Gx) (bC : Nat → Nat) (vC : Vs) (bE : Nat → Nat) (vE : Vs) (vC1 : Vs) (hf : f_X0_copyFrom vC vE = some vC1) : CtV l yX0_copyFrom wsX0_copyFrom rmX0_copyFrom g [.ref (bC 0), .ref (bE 0)] (cC g bC vC ++ (cC g bE vE)) (cC g bC vC1 ++ (cC g bE vE)) 0 0 := by
  unfold CtV
  intro sz
  refine Met.ofW (cc := cX0_copyFrom) (maxL := 2) (ret := none) (by decide) rfl ?_
  intro p e s m args below meth c s₁ B hml hv
  obtain ⟨rfl, hsz, hP, hK, hD0, hG⟩ := hv
  have hx := B.exec
  have hb := B.bytes
  have hr := B.returns
  have hts := atoms_spec (ws := wsX0_copyFrom) B.pre
  have hown : s.vm.findClass RX0 = some m.cls := findClass_of_methodNamed B.named
  have hlocks := B.notSynchronized
  subst hsz
  have hD := hD0.self (sz := s.heap.size)
  generalize hAe : va_A (cC g bC vC ++ (cC g bE vE)) s.heap.size = A at hD hG ⊢
  have hA : ∀ q : Nat, s.heap.size ≤ q → A q := fun q h => by rw [← hAe]; exact Or.inr h
  clear hAe hD0
  have hS : va_S A s.heap s.heap [] := va_S.rf
  have hl := lv_entry ([.ref (bC 0), .ref (bE 0)]) (n := 2) (Nat.le_of_ble_eq_true rfl)
  rw [lg_entry_eq]
  generalize (lg_sl ([.ref (bC 0), .ref (bE 0)]) ++ List.replicate (2 - (lg_sl ([.ref (bC 0), .ref (bE 0)])).length) Slot.unset).toArray = ls at hl ⊢
  have hl : lv_has ls 2 [(0, .ref (bC 0)), (1, .ref (bE 0))] := hl
  have htu : ∀ w ∈ UW, w.before _ s = true := fun w h => hts w (List.mem_cons_of_mem _ h)
  have k_1_59 := htu _ mw_1_59
  have k_1_63 := htu _ mw_1_63
  have k_1_67 := htu _ mw_1_67
  have k_1_70 := htu _ mw_1_70
  have k_1_72 := htu _ mw_1_72
  have k_3_62 := htu _ mw_3_62
  have k_3_64 := htu _ mw_3_64
  have k_3_63 := htu _ mw_3_63
  have k_1_9 := htu _ mw_1_9
  have k_1_74 := htu _ mw_1_74
  have k_1_76 := htu _ mw_1_76
  have k_1_78 := htu _ mw_1_78
  have k_1_79 := htu _ mw_1_79
  have k_1_80 := htu _ mw_1_80
  have k_1_82 := htu _ mw_1_82
  have k_1_84 := htu _ mw_1_84
  have k_1_86 := htu _ mw_1_86
  have k_1_88 := htu _ mw_1_88
  unfold f_X0_copyFrom at hf
  obtain ⟨H, hH⟩ : ∃ z, z = s.heap := ⟨_, rfl⟩
  obtain ⟨locs, hlo⟩ : ∃ z : List Loc, z = [] := ⟨_, rfl⟩
  have hS : va_S A s.heap H locs := by rw [hH, hlo]; exact hS
  rw [← hH] at hP
  have hW : W p l e (headSpec wsX0_copyFrom rmX0_copyFrom).room s m ([.ref (bC 0), .ref (bE 0)] : List Value).toArray below meth c H locs 0 0 (MQ below (qV g A (cC g bC vC1 ++ (cC g bE vE))) ([.ref (bC 0), .ref (bE 0)] : List Value).toArray s 0 0 A) (F0 m 0 ls []) := by
    refine lv_aload_n hx hb dX0_copyFrom_0 rfl (lv_at hl 0 rfl) ?_
    refine lv_aload_n hx hb dX0_copyFrom_1 rfl (lv_at hl 1 rfl) ?_
    refine va_get (D := g.1) (ci := 0) (fs := fcC bE vE) (v := .int (vE.1 0)) (C := RX0) (T := TX0) (N := 14) hx hb htu hinX0 hown hK hP 11 rfl rfl 0 (by decide) k_1_59 (fun _ h9 => h9) rfl dX0_copyFrom_2 ?_
    refine va_put (D := g.1) (ci := 0) (fs := fcC bC vC) (v := .int (vE.1 0)) (ty := .int) (C := RX0) (T := TX0) (N := 14) hx hb htu hinX0 tyX0 tyX0_ok nmX0 hown hK hP hD hS 0 rfl rfl 0 (by decide) k_1_59 (fun _ h9 => h9) rfl (by decide +kernel) rfl rfl (Nat.le_of_ble_eq_true rfl) dX0_copyFrom_5 (fun H locs hP hD hS => ?_)
    obtain ⟨vC_1, evC_1⟩ : ∃ z, z = sF vC 0 (vE.1 0) := ⟨_, rfl⟩
    have hf := bn_at hf evC_1
    have hP : va_P g.1 vwCl (cC g bC vC_1 ++ (cC g bE vE)) H := by rw [evC_1]; exact hP
    have hD : va_D A (cC g bC vC_1 ++ (cC g bE vE)) := by rw [evC_1]; exact hD
    refine lv_aload_n hx hb dX0_copyFrom_8 rfl (lv_at hl 0 rfl) ?_
    refine lv_aload_n hx hb dX0_copyFrom_9 rfl (lv_at hl 1 rfl) ?_
    refine va_get (D := g.1) (ci := 0) (fs := fcC bE vE) (v := .int (vE.1 1)) (C := RX0) (T := TX0) (N := 14) hx hb htu hinX0 hown hK hP 11 rfl rfl 1 (by decide) k_1_63 (fun _ h9 => h9) rfl dX0_copyFrom_10 ?_
    refine va_put (D := g.1) (ci := 0) (fs := fcC bC vC_1) (v := .int (vE.1 1)) (ty := .int) (C := RX0) (T := TX0) (N := 14) hx hb htu hinX0 tyX0 tyX0_ok nmX0 hown hK hP hD hS 0 rfl rfl 1 (by decide) k_1_63 (fun _ h9 => h9) rfl (by decide +kernel) rfl rfl (Nat.le_of_ble_eq_true rfl) dX0_copyFrom_13 (fun H locs hP hD hS => ?_)
    obtain ⟨vC_2, evC_2⟩ : ∃ z, z = sF vC_1 1 (vE.1 1) := ⟨_, rfl⟩
    have hf := bn_at hf evC_2
    have hP : va_P g.1 vwCl (cC g bC vC_2 ++ (cC g bE vE)) H := by rw [evC_2]; exact hP
    have hD : va_D A (cC g bC vC_2 ++ (cC g bE vE)) := by rw [evC_2]; exact hD
    refine lv_aload_n hx hb dX0_copyFrom_16 rfl (lv_at hl 0 rfl) ?_
    refine lv_aload_n hx hb dX0_copyFrom_17 rfl (lv_at hl 1 rfl) ?_
    refine va_get (D := g.1) (ci := 0) (fs := fcC bE vE) (v := .int (vE.1 2)) (C := RX0) (T := TX0) (N := 14) hx hb htu hinX0 hown hK hP 11 rfl rfl 2 (by decide) k_1_67 (fun _ h9 => h9) rfl dX0_copyFrom_18 ?_
    refine va_put (D := g.1) (ci := 0) (fs := fcC bC vC_2) (v := .int (vE.1 2)) (ty := .int) (C := RX0) (T := TX0) (N := 14) hx hb htu hinX0 tyX0 tyX0_ok nmX0 hown hK hP hD hS 0 rfl rfl 2 (by decide) k_1_67 (fun _ h9 => h9) rfl (by decide +kernel) rfl rfl (Nat.le_of_ble_eq_true rfl) dX0_copyFrom_21 (fun H locs hP hD hS => ?_)
    obtain ⟨vC_3, evC_3⟩ : ∃ z, z = sF vC_2 2 (vE.1 2) := ⟨_, rfl⟩
    have hf := bn_at hf evC_3
    have hP : va_P g.1 vwCl (cC g bC vC_3 ++ (cC g bE vE)) H := by rw [evC_3]; exact hP
    have hD : va_D A (cC g bC vC_3 ++ (cC g bE vE)) := by rw [evC_3]; exact hD
    refine lv_aload_n hx hb dX0_copyFrom_24 rfl (lv_at hl 0 rfl) ?_
    refine lv_aload_n hx hb dX0_copyFrom_25 rfl (lv_at hl 1 rfl) ?_
    refine va_get (D := g.1) (ci := 0) (fs := fcC bE vE) (v := .int (vE.1 3)) (C := RX0) (T := TX0) (N := 14) hx hb htu hinX0 hown hK hP 11 rfl rfl 3 (by decide) k_1_70 (fun _ h9 => h9) rfl dX0_copyFrom_26 ?_
    refine va_put (D := g.1) (ci := 0) (fs := fcC bC vC_3) (v := .int (vE.1 3)) (ty := .int) (C := RX0) (T := TX0) (N := 14) hx hb htu hinX0 tyX0 tyX0_ok nmX0 hown hK hP hD hS 0 rfl rfl 3 (by decide) k_1_70 (fun _ h9 => h9) rfl (by decide +kernel) rfl rfl (Nat.le_of_ble_eq_true rfl) dX0_copyFrom_29 (fun H locs hP hD hS => ?_)
    obtain ⟨vC_4, evC_4⟩ : ∃ z, z = sF vC_3 3 (vE.1 3) := ⟨_, rfl⟩
    have hf := bn_at hf evC_4
    have hP : va_P g.1 vwCl (cC g bC vC_4 ++ (cC g bE vE)) H := by rw [evC_4]; exact hP
    have hD : va_D A (cC g bC vC_4 ++ (cC g bE vE)) := by rw [evC_4]; exact hD
    refine lv_aload_n hx hb dX0_copyFrom_32 rfl (lv_at hl 1 rfl) ?_
    refine va_get (D := g.1) (ci := 0) (fs := fcC bE vE) (v := .ref (bE 5)) (C := RX0) (T := TX0) (N := 14) hx hb htu hinX0 hown hK hP 11 rfl rfl 4 (by decide) k_1_72 (fun _ h9 => h9) rfl dX0_copyFrom_33 ?_
    refine lv_iconst (v := (0 : Int32)) hx hb dX0_copyFrom_36 (by decide) ?_
    refine lv_aload_n hx hb dX0_copyFrom_37 rfl (lv_at hl 0 rfl) ?_
    refine va_get (D := g.1) (ci := 0) (fs := fcC bC vC_4) (v := .ref (bC 5)) (C := RX0) (T := TX0) (N := 14) hx hb htu hinX0 hown hK hP 0 rfl rfl 4 (by decide) k_1_72 (fun _ h9 => h9) rfl dX0_copyFrom_38 ?_
    refine lv_iconst (v := (0 : Int32)) hx hb dX0_copyFrom_41 (by decide) ?_
    refine lv_bipush (v := (24 : Int32)) hx hb dX0_copyFrom_42 (by decide) ?_
    refine va_copyi (D := g.1) (f := (vE.2.1 4)) (g := (vC_4.2.1 4)) (ty := .int) hx hb (hml.trans hl.1.symm) hown k_3_62 k_3_64 k_3_63 k_1_9 hK hP hD hS 12 1 0 0 rfl rfl rfl rfl rfl (by decide) (by decide) (by decide) (by decide) (by decide) (fun _ _ => rfl) (Nat.le_of_ble_eq_true rfl) (Nat.le_of_ble_eq_true rfl) dX0_copyFrom_44 (fun H locs hP hD hS => ?_)
    obtain ⟨vC_5, evC_5⟩ : ∃ z, z = sA vC_4 4 (va_cpy (vE.2.1 4) (vC_4.2.1 4) ((0 : Int32)).toNatClampNeg ((0 : Int32)).toNatClampNeg ((24 : Int32)).toNatClampNeg) := ⟨_, rfl⟩
    have hf := bn_at hf evC_5
    have hP : va_P g.1 vwCl (cC g bC vC_5 ++ (cC g bE vE)) H := by rw [evC_5]; exact hP
    have hD : va_D A (cC g bC vC_5 ++ (cC g bE vE)) := by rw [evC_5]; exact hD
    refine lv_aload_n hx hb dX0_copyFrom_47 rfl (lv_at hl 1 rfl) ?_
    refine va_get (D := g.1) (ci := 0) (fs := fcC bE vE) (v := .ref (bE 6)) (C := RX0) (T := TX0) (N := 14) hx hb htu hinX0 hown hK hP 11 rfl rfl 5 (by decide) k_1_74 (fun _ h9 => h9) rfl dX0_copyFrom_48 ?_
    refine lv_iconst (v := (0 : Int32)) hx hb dX0_copyFrom_51 (by decide) ?_
    refine lv_aload_n hx hb dX0_copyFrom_52 rfl (lv_at hl 0 rfl) ?_
    refine va_get (D := g.1) (ci := 0) (fs := fcC bC vC_5) (v := .ref (bC 6)) (C := RX0) (T := TX0) (N := 14) hx hb htu hinX0 hown hK hP 0 rfl rfl 5 (by decide) k_1_74 (fun _ h9 => h9) rfl dX0_copyFrom_53 ?_
    refine lv_iconst (v := (0 : Int32)) hx hb dX0_copyFrom_56 (by decide) ?_
    refine lv_bipush (v := (24 : Int32)) hx hb dX0_copyFrom_57 (by decide) ?_
    refine va_copyi (D := g.1) (f := (vE.2.1 5)) (g := (vC_5.2.1 5)) (ty := .int) hx hb (hml.trans hl.1.symm) hown k_3_62 k_3_64 k_3_63 k_1_9 hK hP hD hS 13 2 0 0 rfl rfl rfl rfl rfl (by decide) (by decide) (by decide) (by decide) (by decide) (fun _ _ => rfl) (Nat.le_of_ble_eq_true rfl) (Nat.le_of_ble_eq_true rfl) dX0_copyFrom_59 (fun H locs hP hD hS => ?_)
    obtain ⟨vC_6, evC_6⟩ : ∃ z, z = sA vC_5 5 (va_cpy (vE.2.1 5) (vC_5.2.1 5) ((0 : Int32)).toNatClampNeg ((0 : Int32)).toNatClampNeg ((24 : Int32)).toNatClampNeg) := ⟨_, rfl⟩
    have hf := bn_at hf evC_6
    have hP : va_P g.1 vwCl (cC g bC vC_6 ++ (cC g bE vE)) H := by rw [evC_6]; exact hP
    have hD : va_D A (cC g bC vC_6 ++ (cC g bE vE)) := by rw [evC_6]; exact hD
    refine lv_aload_n hx hb dX0_copyFrom_62 rfl (lv_at hl 1 rfl) ?_
    refine va_get (D := g.1) (ci := 0) (fs := fcC bE vE) (v := .ref (bE 7)) (C := RX0) (T := TX0) (N := 14) hx hb htu hinX0 hown hK hP 11 rfl rfl 6 (by decide) k_1_76 (fun _ h9 => h9) rfl dX0_copyFrom_63 ?_
    refine lv_iconst (v := (0 : Int32)) hx hb dX0_copyFrom_66 (by decide) ?_
    refine lv_aload_n hx hb dX0_copyFrom_67 rfl (lv_at hl 0 rfl) ?_
    refine va_get (D := g.1) (ci := 0) (fs := fcC bC vC_6) (v := .ref (bC 7)) (C := RX0) (T := TX0) (N := 14) hx hb htu hinX0 hown hK hP 0 rfl rfl 6 (by decide) k_1_76 (fun _ h9 => h9) rfl dX0_copyFrom_68 ?_
    refine lv_iconst (v := (0 : Int32)) hx hb dX0_copyFrom_71 (by decide) ?_
    refine lv_bipush (v := (96 : Int32)) hx hb dX0_copyFrom_72 (by decide) ?_
    refine va_copyi (D := g.1) (f := (vE.2.1 6)) (g := (vC_6.2.1 6)) (ty := .int) hx hb (hml.trans hl.1.symm) hown k_3_62 k_3_64 k_3_63 k_1_9 hK hP hD hS 14 3 0 0 rfl rfl rfl rfl rfl (by decide) (by decide) (by decide) (by decide) (by decide) (fun _ _ => rfl) (Nat.le_of_ble_eq_true rfl) (Nat.le_of_ble_eq_true rfl) dX0_copyFrom_74 (fun H locs hP hD hS => ?_)
    obtain ⟨vC_7, evC_7⟩ : ∃ z, z = sA vC_6 6 (va_cpy (vE.2.1 6) (vC_6.2.1 6) ((0 : Int32)).toNatClampNeg ((0 : Int32)).toNatClampNeg ((96 : Int32)).toNatClampNeg) := ⟨_, rfl⟩
    have hf := bn_at hf evC_7
    have hP : va_P g.1 vwCl (cC g bC vC_7 ++ (cC g bE vE)) H := by rw [evC_7]; exact hP
    have hD : va_D A (cC g bC vC_7 ++ (cC g bE vE)) := by rw [evC_7]; exact hD
    refine lv_aload_n hx hb dX0_copyFrom_77 rfl (lv_at hl 1 rfl) ?_
    refine va_get (D := g.1) (ci := 0) (fs := fcC bE vE) (v := .ref (bE 8)) (C := RX0) (T := TX0) (N := 14) hx hb htu hinX0 hown hK hP 11 rfl rfl 7 (by decide) k_1_78 (fun _ h9 => h9) rfl dX0_copyFrom_78 ?_
    refine lv_iconst (v := (0 : Int32)) hx hb dX0_copyFrom_81 (by decide) ?_
    refine lv_aload_n hx hb dX0_copyFrom_82 rfl (lv_at hl 0 rfl) ?_
    refine va_get (D := g.1) (ci := 0) (fs := fcC bC vC_7) (v := .ref (bC 8)) (C := RX0) (T := TX0) (N := 14) hx hb htu hinX0 hown hK hP 0 rfl rfl 7 (by decide) k_1_78 (fun _ h9 => h9) rfl dX0_copyFrom_83 ?_
    refine lv_iconst (v := (0 : Int32)) hx hb dX0_copyFrom_86 (by decide) ?_
    refine lv_bipush (v := (24 : Int32)) hx hb dX0_copyFrom_87 (by decide) ?_
    refine va_copyi (D := g.1) (f := (vE.2.1 7)) (g := (vC_7.2.1 7)) (ty := .int) hx hb (hml.trans hl.1.symm) hown k_3_62 k_3_64 k_3_63 k_1_9 hK hP hD hS 15 4 0 0 rfl rfl rfl rfl rfl (by decide) (by decide) (by decide) (by decide) (by decide) (fun _ _ => rfl) (Nat.le_of_ble_eq_true rfl) (Nat.le_of_ble_eq_true rfl) dX0_copyFrom_89 (fun H locs hP hD hS => ?_)
    obtain ⟨vC_8, evC_8⟩ : ∃ z, z = sA vC_7 7 (va_cpy (vE.2.1 7) (vC_7.2.1 7) ((0 : Int32)).toNatClampNeg ((0 : Int32)).toNatClampNeg ((24 : Int32)).toNatClampNeg) := ⟨_, rfl⟩
    have hf := bn_at hf evC_8
    have hP : va_P g.1 vwCl (cC g bC vC_8 ++ (cC g bE vE)) H := by rw [evC_8]; exact hP
    have hD : va_D A (cC g bC vC_8 ++ (cC g bE vE)) := by rw [evC_8]; exact hD
    refine lv_aload_n hx hb dX0_copyFrom_92 rfl (lv_at hl 1 rfl) ?_
    refine va_get (D := g.1) (ci := 0) (fs := fcC bE vE) (v := .ref (bE 9)) (C := RX0) (T := TX0) (N := 14) hx hb htu hinX0 hown hK hP 11 rfl rfl 8 (by decide) k_1_79 (fun _ h9 => h9) rfl dX0_copyFrom_93 ?_
    refine lv_iconst (v := (0 : Int32)) hx hb dX0_copyFrom_96 (by decide) ?_
    refine lv_aload_n hx hb dX0_copyFrom_97 rfl (lv_at hl 0 rfl) ?_
    refine va_get (D := g.1) (ci := 0) (fs := fcC bC vC_8) (v := .ref (bC 9)) (C := RX0) (T := TX0) (N := 14) hx hb htu hinX0 hown hK hP 0 rfl rfl 8 (by decide) k_1_79 (fun _ h9 => h9) rfl dX0_copyFrom_98 ?_
    refine lv_iconst (v := (0 : Int32)) hx hb dX0_copyFrom_101 (by decide) ?_
    refine lv_bipush (v := (24 : Int32)) hx hb dX0_copyFrom_102 (by decide) ?_
    refine va_copyi (D := g.1) (f := (vE.2.1 8)) (g := (vC_8.2.1 8)) (ty := .int) hx hb (hml.trans hl.1.symm) hown k_3_62 k_3_64 k_3_63 k_1_9 hK hP hD hS 16 5 0 0 rfl rfl rfl rfl rfl (by decide) (by decide) (by decide) (by decide) (by decide) (fun _ _ => rfl) (Nat.le_of_ble_eq_true rfl) (Nat.le_of_ble_eq_true rfl) dX0_copyFrom_104 (fun H locs hP hD hS => ?_)
    obtain ⟨vC_9, evC_9⟩ : ∃ z, z = sA vC_8 8 (va_cpy (vE.2.1 8) (vC_8.2.1 8) ((0 : Int32)).toNatClampNeg ((0 : Int32)).toNatClampNeg ((24 : Int32)).toNatClampNeg) := ⟨_, rfl⟩
    have hf := bn_at hf evC_9
    have hP : va_P g.1 vwCl (cC g bC vC_9 ++ (cC g bE vE)) H := by rw [evC_9]; exact hP
    have hD : va_D A (cC g bC vC_9 ++ (cC g bE vE)) := by rw [evC_9]; exact hD
    refine lv_aload_n hx hb dX0_copyFrom_107 rfl (lv_at hl 1 rfl) ?_
    refine va_get (D := g.1) (ci := 0) (fs := fcC bE vE) (v := .ref (bE 10)) (C := RX0) (T := TX0) (N := 14) hx hb htu hinX0 hown hK hP 11 rfl rfl 9 (by decide) k_1_80 (fun _ h9 => h9) rfl dX0_copyFrom_108 ?_
    refine lv_iconst (v := (0 : Int32)) hx hb dX0_copyFrom_111 (by decide) ?_
    refine lv_aload_n hx hb dX0_copyFrom_112 rfl (lv_at hl 0 rfl) ?_
    refine va_get (D := g.1) (ci := 0) (fs := fcC bC vC_9) (v := .ref (bC 10)) (C := RX0) (T := TX0) (N := 14) hx hb htu hinX0 hown hK hP 0 rfl rfl 9 (by decide) k_1_80 (fun _ h9 => h9) rfl dX0_copyFrom_113 ?_
    refine lv_iconst (v := (0 : Int32)) hx hb dX0_copyFrom_116 (by decide) ?_
    refine lv_bipush (v := (24 : Int32)) hx hb dX0_copyFrom_117 (by decide) ?_
    refine va_copyi (D := g.1) (f := (vE.2.1 9)) (g := (vC_9.2.1 9)) (ty := .int) hx hb (hml.trans hl.1.symm) hown k_3_62 k_3_64 k_3_63 k_1_9 hK hP hD hS 17 6 0 0 rfl rfl rfl rfl rfl (by decide) (by decide) (by decide) (by decide) (by decide) (fun _ _ => rfl) (Nat.le_of_ble_eq_true rfl) (Nat.le_of_ble_eq_true rfl) dX0_copyFrom_119 (fun H locs hP hD hS => ?_)
    obtain ⟨vC_10, evC_10⟩ : ∃ z, z = sA vC_9 9 (va_cpy (vE.2.1 9) (vC_9.2.1 9) ((0 : Int32)).toNatClampNeg ((0 : Int32)).toNatClampNeg ((24 : Int32)).toNatClampNeg) := ⟨_, rfl⟩
    have hf := bn_at hf evC_10
    have hP : va_P g.1 vwCl (cC g bC vC_10 ++ (cC g bE vE)) H := by rw [evC_10]; exact hP
    have hD : va_D A (cC g bC vC_10 ++ (cC g bE vE)) := by rw [evC_10]; exact hD
    refine lv_aload_n hx hb dX0_copyFrom_122 rfl (lv_at hl 1 rfl) ?_
    refine va_get (D := g.1) (ci := 0) (fs := fcC bE vE) (v := .ref (bE 11)) (C := RX0) (T := TX0) (N := 14) hx hb htu hinX0 hown hK hP 11 rfl rfl 10 (by decide) k_1_82 (fun _ h9 => h9) rfl dX0_copyFrom_123 ?_
    refine lv_iconst (v := (0 : Int32)) hx hb dX0_copyFrom_126 (by decide) ?_
    refine lv_aload_n hx hb dX0_copyFrom_127 rfl (lv_at hl 0 rfl) ?_
    refine va_get (D := g.1) (ci := 0) (fs := fcC bC vC_10) (v := .ref (bC 11)) (C := RX0) (T := TX0) (N := 14) hx hb htu hinX0 hown hK hP 0 rfl rfl 10 (by decide) k_1_82 (fun _ h9 => h9) rfl dX0_copyFrom_128 ?_
    refine lv_iconst (v := (0 : Int32)) hx hb dX0_copyFrom_131 (by decide) ?_
    refine lv_bipush (v := (6 : Int32)) hx hb dX0_copyFrom_132 (by decide) ?_
    refine va_copyi (D := g.1) (f := (vE.2.1 10)) (g := (vC_10.2.1 10)) (ty := .int) hx hb (hml.trans hl.1.symm) hown k_3_62 k_3_64 k_3_63 k_1_9 hK hP hD hS 18 7 0 0 rfl rfl rfl rfl rfl (by decide) (by decide) (by decide) (by decide) (by decide) (fun _ _ => rfl) (Nat.le_of_ble_eq_true rfl) (Nat.le_of_ble_eq_true rfl) dX0_copyFrom_134 (fun H locs hP hD hS => ?_)
    obtain ⟨vC_11, evC_11⟩ : ∃ z, z = sA vC_10 10 (va_cpy (vE.2.1 10) (vC_10.2.1 10) ((0 : Int32)).toNatClampNeg ((0 : Int32)).toNatClampNeg ((6 : Int32)).toNatClampNeg) := ⟨_, rfl⟩
    have hf := bn_at hf evC_11
    have hP : va_P g.1 vwCl (cC g bC vC_11 ++ (cC g bE vE)) H := by rw [evC_11]; exact hP
    have hD : va_D A (cC g bC vC_11 ++ (cC g bE vE)) := by rw [evC_11]; exact hD
    refine lv_aload_n hx hb dX0_copyFrom_137 rfl (lv_at hl 1 rfl) ?_
    refine va_get (D := g.1) (ci := 0) (fs := fcC bE vE) (v := .ref (bE 12)) (C := RX0) (T := TX0) (N := 14) hx hb htu hinX0 hown hK hP 11 rfl rfl 11 (by decide) k_1_84 (fun _ h9 => h9) rfl dX0_copyFrom_138 ?_
    refine lv_iconst (v := (0 : Int32)) hx hb dX0_copyFrom_141 (by decide) ?_
    refine lv_aload_n hx hb dX0_copyFrom_142 rfl (lv_at hl 0 rfl) ?_
    refine va_get (D := g.1) (ci := 0) (fs := fcC bC vC_11) (v := .ref (bC 12)) (C := RX0) (T := TX0) (N := 14) hx hb htu hinX0 hown hK hP 0 rfl rfl 11 (by decide) k_1_84 (fun _ h9 => h9) rfl dX0_copyFrom_143 ?_
    refine lv_iconst (v := (0 : Int32)) hx hb dX0_copyFrom_146 (by decide) ?_
    refine lv_bipush (v := (8 : Int32)) hx hb dX0_copyFrom_147 (by decide) ?_
    refine va_copyi (D := g.1) (f := (vE.2.1 11)) (g := (vC_11.2.1 11)) (ty := .int) hx hb (hml.trans hl.1.symm) hown k_3_62 k_3_64 k_3_63 k_1_9 hK hP hD hS 19 8 0 0 rfl rfl rfl rfl rfl (by decide) (by decide) (by decide) (by decide) (by decide) (fun _ _ => rfl) (Nat.le_of_ble_eq_true rfl) (Nat.le_of_ble_eq_true rfl) dX0_copyFrom_149 (fun H locs hP hD hS => ?_)
    obtain ⟨vC_12, evC_12⟩ : ∃ z, z = sA vC_11 11 (va_cpy (vE.2.1 11) (vC_11.2.1 11) ((0 : Int32)).toNatClampNeg ((0 : Int32)).toNatClampNeg ((8 : Int32)).toNatClampNeg) := ⟨_, rfl⟩
    have hf := bn_at hf evC_12
    have hP : va_P g.1 vwCl (cC g bC vC_12 ++ (cC g bE vE)) H := by rw [evC_12]; exact hP
    have hD : va_D A (cC g bC vC_12 ++ (cC g bE vE)) := by rw [evC_12]; exact hD
    refine lv_aload_n hx hb dX0_copyFrom_152 rfl (lv_at hl 1 rfl) ?_
    refine va_get (D := g.1) (ci := 0) (fs := fcC bE vE) (v := .ref (bE 13)) (C := RX0) (T := TX0) (N := 14) hx hb htu hinX0 hown hK hP 11 rfl rfl 12 (by decide) k_1_86 (fun _ h9 => h9) rfl dX0_copyFrom_153 ?_
    refine lv_iconst (v := (0 : Int32)) hx hb dX0_copyFrom_156 (by decide) ?_
    refine lv_aload_n hx hb dX0_copyFrom_157 rfl (lv_at hl 0 rfl) ?_
    refine va_get (D := g.1) (ci := 0) (fs := fcC bC vC_12) (v := .ref (bC 13)) (C := RX0) (T := TX0) (N := 14) hx hb htu hinX0 hown hK hP 0 rfl rfl 12 (by decide) k_1_86 (fun _ h9 => h9) rfl dX0_copyFrom_158 ?_
    refine lv_iconst (v := (0 : Int32)) hx hb dX0_copyFrom_161 (by decide) ?_
    refine lv_bipush (v := (8 : Int32)) hx hb dX0_copyFrom_162 (by decide) ?_
    refine va_copyi (D := g.1) (f := (vE.2.1 12)) (g := (vC_12.2.1 12)) (ty := .int) hx hb (hml.trans hl.1.symm) hown k_3_62 k_3_64 k_3_63 k_1_9 hK hP hD hS 20 9 0 0 rfl rfl rfl rfl rfl (by decide) (by decide) (by decide) (by decide) (by decide) (fun _ _ => rfl) (Nat.le_of_ble_eq_true rfl) (Nat.le_of_ble_eq_true rfl) dX0_copyFrom_164 (fun H locs hP hD hS => ?_)
    obtain ⟨vC_13, evC_13⟩ : ∃ z, z = sA vC_12 12 (va_cpy (vE.2.1 12) (vC_12.2.1 12) ((0 : Int32)).toNatClampNeg ((0 : Int32)).toNatClampNeg ((8 : Int32)).toNatClampNeg) := ⟨_, rfl⟩
    have hf := bn_at hf evC_13
    have hP : va_P g.1 vwCl (cC g bC vC_13 ++ (cC g bE vE)) H := by rw [evC_13]; exact hP
    have hD : va_D A (cC g bC vC_13 ++ (cC g bE vE)) := by rw [evC_13]; exact hD
    refine lv_aload_n hx hb dX0_copyFrom_167 rfl (lv_at hl 1 rfl) ?_
    refine va_get (D := g.1) (ci := 0) (fs := fcC bE vE) (v := .ref (bE 14)) (C := RX0) (T := TX0) (N := 14) hx hb htu hinX0 hown hK hP 11 rfl rfl 13 (by decide) k_1_88 (fun _ h9 => h9) rfl dX0_copyFrom_168 ?_
    refine lv_iconst (v := (0 : Int32)) hx hb dX0_copyFrom_171 (by decide) ?_
    refine lv_aload_n hx hb dX0_copyFrom_172 rfl (lv_at hl 0 rfl) ?_
    refine va_get (D := g.1) (ci := 0) (fs := fcC bC vC_13) (v := .ref (bC 14)) (C := RX0) (T := TX0) (N := 14) hx hb htu hinX0 hown hK hP 0 rfl rfl 13 (by decide) k_1_88 (fun _ h9 => h9) rfl dX0_copyFrom_173 ?_
    refine lv_iconst (v := (0 : Int32)) hx hb dX0_copyFrom_176 (by decide) ?_
    refine lv_bipush (v := (8 : Int32)) hx hb dX0_copyFrom_177 (by decide) ?_
    refine va_copyi (D := g.1) (f := (vE.2.1 13)) (g := (vC_13.2.1 13)) (ty := .int) hx hb (hml.trans hl.1.symm) hown k_3_62 k_3_64 k_3_63 k_1_9 hK hP hD hS 21 10 0 0 rfl rfl rfl rfl rfl (by decide) (by decide) (by decide) (by decide) (by decide) (fun _ _ => rfl) (Nat.le_of_ble_eq_true rfl) (Nat.le_of_ble_eq_true rfl) dX0_copyFrom_179 (fun H locs hP hD hS => ?_)
    obtain ⟨vC_14, evC_14⟩ : ∃ z, z = sA vC_13 13 (va_cpy (vE.2.1 13) (vC_13.2.1 13) ((0 : Int32)).toNatClampNeg ((0 : Int32)).toNatClampNeg ((8 : Int32)).toNatClampNeg) := ⟨_, rfl⟩
    have hf := bn_at hf evC_14
    have hP : va_P g.1 vwCl (cC g bC vC_14 ++ (cC g bE vE)) H := by rw [evC_14]; exact hP
    have hD : va_D A (cC g bC vC_14 ++ (cC g bE vE)) := by rw [evC_14]; exact hD
    have e15 := Option.some.inj hf
    rw [e15] at hP hD
    exact k_vret hx hb hr hlocks hK hP hD hS dX0_copyFrom_182
  rw [hH, hlo] at hW
  exact hW
def f_X0_isFullOfGates (vC : Vs) : Option (Int32) :=
  jn (fun (t1 : Int32) => gd (isB t1) (some (t1))) (fun k2 => if ((vC.1 1) - (vC.1 0)) < (16 : Int32) then k2 (0 : Int32) else k2 (1 : Int32))
abbrev wsX0_isFullOfGates : List Cond := .code yX0_isFullOfGates cX0_isFullOfGates 1 (some .boolean) :: UW
abbrev rmX0_isFullOfGates : Room := { frames := 0, cells := 0, slots := 0, locals := 0 }
set_option maxHeartbeats 4000000 in
set_option maxRecDepth 100000 in
theorem c_X0_isFullOfGates (l : Launch) (g : Gx) (bC : Nat → Nat) (vC : Vs) (r : Int32) (hf : f_X0_isFullOfGates vC = some r) : CtI l yX0_isFullOfGates wsX0_isFullOfGates rmX0_isFullOfGates g [.ref (bC 0)] (cC g bC vC) (cC g bC vC) r 0 0 := by
  unfold CtI
  intro sz
  refine Met.ofW (cc := cX0_isFullOfGates) (maxL := 1) (ret := (some .boolean)) (by decide) rfl ?_
  intro p e s m args below meth c s₁ B hml hv
  obtain ⟨rfl, hsz, hP, hK, hD0, hG⟩ := hv
  have hx := B.exec
  have hb := B.bytes
  have hr := B.returns
  have hts := atoms_spec (ws := wsX0_isFullOfGates) B.pre
  have hown : s.vm.findClass RX0 = some m.cls := findClass_of_methodNamed B.named
  have hlocks := B.notSynchronized
  subst hsz
  have hD := hD0.self (sz := s.heap.size)
  generalize hAe : va_A (cC g bC vC) s.heap.size = A at hD hG ⊢
  have hA : ∀ q : Nat, s.heap.size ≤ q → A q := fun q h => by rw [← hAe]; exact Or.inr h
  clear hAe hD0
  have hS : va_S A s.heap s.heap [] := va_S.rf
  have hl := lv_entry ([.ref (bC 0)]) (n := 1) (Nat.le_of_ble_eq_true rfl)
  rw [lg_entry_eq]
  generalize (lg_sl ([.ref (bC 0)]) ++ List.replicate (1 - (lg_sl ([.ref (bC 0)])).length) Slot.unset).toArray = ls at hl ⊢
  have hl : lv_has ls 1 [(0, .ref (bC 0))] := hl
  have htu : ∀ w ∈ UW, w.before _ s = true := fun w h => hts w (List.mem_cons_of_mem _ h)
  have k_1_63 := htu _ mw_1_63
  have k_1_59 := htu _ mw_1_59
  unfold f_X0_isFullOfGates at hf
  obtain ⟨H, hH⟩ : ∃ z, z = s.heap := ⟨_, rfl⟩
  obtain ⟨locs, hlo⟩ : ∃ z : List Loc, z = [] := ⟨_, rfl⟩
  have hS : va_S A s.heap H locs := by rw [hH, hlo]; exact hS
  rw [← hH] at hP
  have hW : W p l e (headSpec wsX0_isFullOfGates rmX0_isFullOfGates).room s m ([.ref (bC 0)] : List Value).toArray below meth c H locs 0 0 (MQ below (qI g A (cC g bC vC) r) ([.ref (bC 0)] : List Value).toArray s 0 0 A) (F0 m 0 ls []) := by
    refine lv_aload_n hx hb dX0_isFullOfGates_0 rfl (lv_at hl 0 rfl) ?_
    refine va_get (D := g.1) (ci := 0) (fs := fcC bC vC) (v := .int (vC.1 1)) (C := RX0) (T := TX0) (N := 14) hx hb htu hinX0 hown hK hP 0 rfl rfl 1 (by decide) k_1_63 (fun _ h9 => h9) rfl dX0_isFullOfGates_1 ?_
    refine lv_aload_n hx hb dX0_isFullOfGates_4 rfl (lv_at hl 0 rfl) ?_
    refine va_get (D := g.1) (ci := 0) (fs := fcC bC vC) (v := .int (vC.1 0)) (C := RX0) (T := TX0) (N := 14) hx hb htu hinX0 hown hK hP 0 rfl rfl 0 (by decide) k_1_59 (fun _ h9 => h9) rfl dX0_isFullOfGates_5 ?_
    refine lv_isub hx hb dX0_isFullOfGates_8 ?_
    refine lv_bipush (v := (16 : Int32)) hx hb dX0_isFullOfGates_9 (by decide) ?_
    obtain ⟨k2, hk6, hf⟩ := jn_at hf
    have hJ3 : ∀ (t1 : Int32), k2 t1 = some r → ∀ (H : Heap) (locs : List Loc), va_P g.1 vwCl (cC g bC vC) H → va_D A (cC g bC vC) → va_S A s.heap H locs → ∀ ls : Array Slot, lv_has ls 1 [] → W p l e (headSpec wsX0_isFullOfGates rmX0_isFullOfGates).room s m ([.ref (bC 0)] : List Value).toArray below meth c H locs 0 0 (MQ below (qI g A (cC g bC vC) r) ([.ref (bC 0)] : List Value).toArray s 0 0 A) (F0 m 19 ls [.int t1]) := by
      intro t1 hf H locs hP hD hS ls hl
      rw [hk6] at hf
      dsimp only at hf
      clear hk6
      obtain ⟨h4, hf⟩ := gd_isB hf
      have e5 := Option.some.inj hf
      exact k_zret hx hb hr hlocks hK hP hD hS e5 h4 dX0_isFullOfGates_19
    refine lv_icmp_lt (tgt := 18) hx hb dX0_isFullOfGates_11 (by decide) (fun c7 => ?_) (fun c7 => ?_)
    · have hf := it_t hf c7
      refine lv_iconst (v := (0 : Int32)) hx hb dX0_isFullOfGates_18 (by decide) ?_
      exact hJ3 (0 : Int32) hf H locs hP hD hS _ (lv_sub hl [] rfl)
    · have hf := it_f hf c7
      refine lv_iconst (v := (1 : Int32)) hx hb dX0_isFullOfGates_14 (by decide) ?_
      refine lv_goto (tgt := 19) hx hb dX0_isFullOfGates_15 (by decide) ?_
      exact hJ3 (1 : Int32) hf H locs hP hD hS _ (lv_sub hl [] rfl)
  rw [hH, hlo] at hW
  exact hW
def f_X0_isFullOfOutputs (vC : Vs) : Option (Int32) :=
  jn (fun (t1 : Int32) => gd (isB t1) (some (t1))) (fun k2 => if (vC.1 2) < (6 : Int32) then k2 (0 : Int32) else k2 (1 : Int32))
abbrev wsX0_isFullOfOutputs : List Cond := .code yX0_isFullOfOutputs cX0_isFullOfOutputs 1 (some .boolean) :: UW
abbrev rmX0_isFullOfOutputs : Room := { frames := 0, cells := 0, slots := 0, locals := 0 }
set_option maxHeartbeats 4000000 in
set_option maxRecDepth 100000 in
theorem c_X0_isFullOfOutputs (l : Launch) (g : Gx) (bC : Nat → Nat) (vC : Vs) (r : Int32) (hf : f_X0_isFullOfOutputs vC = some r) : CtI l yX0_isFullOfOutputs wsX0_isFullOfOutputs rmX0_isFullOfOutputs g [.ref (bC 0)] (cC g bC vC) (cC g bC vC) r 0 0 := by
  unfold CtI
  intro sz
  refine Met.ofW (cc := cX0_isFullOfOutputs) (maxL := 1) (ret := (some .boolean)) (by decide) rfl ?_
  intro p e s m args below meth c s₁ B hml hv
  obtain ⟨rfl, hsz, hP, hK, hD0, hG⟩ := hv
  have hx := B.exec
  have hb := B.bytes
  have hr := B.returns
  have hts := atoms_spec (ws := wsX0_isFullOfOutputs) B.pre
  have hown : s.vm.findClass RX0 = some m.cls := findClass_of_methodNamed B.named
  have hlocks := B.notSynchronized
  subst hsz
  have hD := hD0.self (sz := s.heap.size)
  generalize hAe : va_A (cC g bC vC) s.heap.size = A at hD hG ⊢
  have hA : ∀ q : Nat, s.heap.size ≤ q → A q := fun q h => by rw [← hAe]; exact Or.inr h
  clear hAe hD0
  have hS : va_S A s.heap s.heap [] := va_S.rf
  have hl := lv_entry ([.ref (bC 0)]) (n := 1) (Nat.le_of_ble_eq_true rfl)
  rw [lg_entry_eq]
  generalize (lg_sl ([.ref (bC 0)]) ++ List.replicate (1 - (lg_sl ([.ref (bC 0)])).length) Slot.unset).toArray = ls at hl ⊢
  have hl : lv_has ls 1 [(0, .ref (bC 0))] := hl
  have htu : ∀ w ∈ UW, w.before _ s = true := fun w h => hts w (List.mem_cons_of_mem _ h)
  have k_1_67 := htu _ mw_1_67
  unfold f_X0_isFullOfOutputs at hf
  obtain ⟨H, hH⟩ : ∃ z, z = s.heap := ⟨_, rfl⟩
  obtain ⟨locs, hlo⟩ : ∃ z : List Loc, z = [] := ⟨_, rfl⟩
  have hS : va_S A s.heap H locs := by rw [hH, hlo]; exact hS
  rw [← hH] at hP
  have hW : W p l e (headSpec wsX0_isFullOfOutputs rmX0_isFullOfOutputs).room s m ([.ref (bC 0)] : List Value).toArray below meth c H locs 0 0 (MQ below (qI g A (cC g bC vC) r) ([.ref (bC 0)] : List Value).toArray s 0 0 A) (F0 m 0 ls []) := by
    refine lv_aload_n hx hb dX0_isFullOfOutputs_0 rfl (lv_at hl 0 rfl) ?_
    refine va_get (D := g.1) (ci := 0) (fs := fcC bC vC) (v := .int (vC.1 2)) (C := RX0) (T := TX0) (N := 14) hx hb htu hinX0 hown hK hP 0 rfl rfl 2 (by decide) k_1_67 (fun _ h9 => h9) rfl dX0_isFullOfOutputs_1 ?_
    refine lv_bipush (v := (6 : Int32)) hx hb dX0_isFullOfOutputs_4 (by decide) ?_
    obtain ⟨k2, hk6, hf⟩ := jn_at hf
    have hJ3 : ∀ (t1 : Int32), k2 t1 = some r → ∀ (H : Heap) (locs : List Loc), va_P g.1 vwCl (cC g bC vC) H → va_D A (cC g bC vC) → va_S A s.heap H locs → ∀ ls : Array Slot, lv_has ls 1 [] → W p l e (headSpec wsX0_isFullOfOutputs rmX0_isFullOfOutputs).room s m ([.ref (bC 0)] : List Value).toArray below meth c H locs 0 0 (MQ below (qI g A (cC g bC vC) r) ([.ref (bC 0)] : List Value).toArray s 0 0 A) (F0 m 14 ls [.int t1]) := by
      intro t1 hf H locs hP hD hS ls hl
      rw [hk6] at hf
      dsimp only at hf
      clear hk6
      obtain ⟨h4, hf⟩ := gd_isB hf
      have e5 := Option.some.inj hf
      exact k_zret hx hb hr hlocks hK hP hD hS e5 h4 dX0_isFullOfOutputs_14
    refine lv_icmp_lt (tgt := 13) hx hb dX0_isFullOfOutputs_6 (by decide) (fun c7 => ?_) (fun c7 => ?_)
    · have hf := it_t hf c7
      refine lv_iconst (v := (0 : Int32)) hx hb dX0_isFullOfOutputs_13 (by decide) ?_
      exact hJ3 (0 : Int32) hf H locs hP hD hS _ (lv_sub hl [] rfl)
    · have hf := it_f hf c7
      refine lv_iconst (v := (1 : Int32)) hx hb dX0_isFullOfOutputs_9 (by decide) ?_
      refine lv_goto (tgt := 14) hx hb dX0_isFullOfOutputs_10 (by decide) ?_
      exact hJ3 (1 : Int32) hf H locs hP hD hS _ (lv_sub hl [] rfl)
  rw [hH, hlo] at hW
  exact hW
def f_X0_isFullOfBridges (vC : Vs) : Option (Int32) :=
  jn (fun (t1 : Int32) => gd (isB t1) (some (t1))) (fun k2 => if (vC.1 3) < (8 : Int32) then k2 (0 : Int32) else k2 (1 : Int32))
abbrev wsX0_isFullOfBridges : List Cond := .code yX0_isFullOfBridges cX0_isFullOfBridges 1 (some .boolean) :: UW
abbrev rmX0_isFullOfBridges : Room := { frames := 0, cells := 0, slots := 0, locals := 0 }
set_option maxHeartbeats 4000000 in
set_option maxRecDepth 100000 in
theorem c_X0_isFullOfBridges (l : Launch) (g : Gx) (bC : Nat → Nat) (vC : Vs) (r : Int32) (hf : f_X0_isFullOfBridges vC = some r) : CtI l yX0_isFullOfBridges wsX0_isFullOfBridges rmX0_isFullOfBridges g [.ref (bC 0)] (cC g bC vC) (cC g bC vC) r 0 0 := by
  unfold CtI
  intro sz
  refine Met.ofW (cc := cX0_isFullOfBridges) (maxL := 1) (ret := (some .boolean)) (by decide) rfl ?_
  intro p e s m args below meth c s₁ B hml hv
  obtain ⟨rfl, hsz, hP, hK, hD0, hG⟩ := hv
  have hx := B.exec
  have hb := B.bytes
  have hr := B.returns
  have hts := atoms_spec (ws := wsX0_isFullOfBridges) B.pre
  have hown : s.vm.findClass RX0 = some m.cls := findClass_of_methodNamed B.named
  have hlocks := B.notSynchronized
  subst hsz
  have hD := hD0.self (sz := s.heap.size)
  generalize hAe : va_A (cC g bC vC) s.heap.size = A at hD hG ⊢
  have hA : ∀ q : Nat, s.heap.size ≤ q → A q := fun q h => by rw [← hAe]; exact Or.inr h
  clear hAe hD0
  have hS : va_S A s.heap s.heap [] := va_S.rf
  have hl := lv_entry ([.ref (bC 0)]) (n := 1) (Nat.le_of_ble_eq_true rfl)
  rw [lg_entry_eq]
  generalize (lg_sl ([.ref (bC 0)]) ++ List.replicate (1 - (lg_sl ([.ref (bC 0)])).length) Slot.unset).toArray = ls at hl ⊢
  have hl : lv_has ls 1 [(0, .ref (bC 0))] := hl
  have htu : ∀ w ∈ UW, w.before _ s = true := fun w h => hts w (List.mem_cons_of_mem _ h)
  have k_1_70 := htu _ mw_1_70
  unfold f_X0_isFullOfBridges at hf
  obtain ⟨H, hH⟩ : ∃ z, z = s.heap := ⟨_, rfl⟩
  obtain ⟨locs, hlo⟩ : ∃ z : List Loc, z = [] := ⟨_, rfl⟩
  have hS : va_S A s.heap H locs := by rw [hH, hlo]; exact hS
  rw [← hH] at hP
  have hW : W p l e (headSpec wsX0_isFullOfBridges rmX0_isFullOfBridges).room s m ([.ref (bC 0)] : List Value).toArray below meth c H locs 0 0 (MQ below (qI g A (cC g bC vC) r) ([.ref (bC 0)] : List Value).toArray s 0 0 A) (F0 m 0 ls []) := by
    refine lv_aload_n hx hb dX0_isFullOfBridges_0 rfl (lv_at hl 0 rfl) ?_
    refine va_get (D := g.1) (ci := 0) (fs := fcC bC vC) (v := .int (vC.1 3)) (C := RX0) (T := TX0) (N := 14) hx hb htu hinX0 hown hK hP 0 rfl rfl 3 (by decide) k_1_70 (fun _ h9 => h9) rfl dX0_isFullOfBridges_1 ?_
    refine lv_bipush (v := (8 : Int32)) hx hb dX0_isFullOfBridges_4 (by decide) ?_
    obtain ⟨k2, hk6, hf⟩ := jn_at hf
    have hJ3 : ∀ (t1 : Int32), k2 t1 = some r → ∀ (H : Heap) (locs : List Loc), va_P g.1 vwCl (cC g bC vC) H → va_D A (cC g bC vC) → va_S A s.heap H locs → ∀ ls : Array Slot, lv_has ls 1 [] → W p l e (headSpec wsX0_isFullOfBridges rmX0_isFullOfBridges).room s m ([.ref (bC 0)] : List Value).toArray below meth c H locs 0 0 (MQ below (qI g A (cC g bC vC) r) ([.ref (bC 0)] : List Value).toArray s 0 0 A) (F0 m 14 ls [.int t1]) := by
      intro t1 hf H locs hP hD hS ls hl
      rw [hk6] at hf
      dsimp only at hf
      clear hk6
      obtain ⟨h4, hf⟩ := gd_isB hf
      have e5 := Option.some.inj hf
      exact k_zret hx hb hr hlocks hK hP hD hS e5 h4 dX0_isFullOfBridges_14
    refine lv_icmp_lt (tgt := 13) hx hb dX0_isFullOfBridges_6 (by decide) (fun c7 => ?_) (fun c7 => ?_)
    · have hf := it_t hf c7
      refine lv_iconst (v := (0 : Int32)) hx hb dX0_isFullOfBridges_13 (by decide) ?_
      exact hJ3 (0 : Int32) hf H locs hP hD hS _ (lv_sub hl [] rfl)
    · have hf := it_f hf c7
      refine lv_iconst (v := (1 : Int32)) hx hb dX0_isFullOfBridges_9 (by decide) ?_
      refine lv_goto (tgt := 14) hx hb dX0_isFullOfBridges_10 (by decide) ?_
      exact hJ3 (1 : Int32) hf H locs hP hD hS _ (lv_sub hl [] rfl)
  rw [hH, hlo] at hW
  exact hW
def f_X0_endGate_L17 (vC : Vs) (self4 : Int32 → Vs → Option (Vs)) (x2_2 : Int32) (vC_3 : Vs) : Option (Vs) :=
  gd (inb (vC.1 1) 24) (if (vC_3.2.1 5 ((vC.1 1)).toNatClampNeg) ≤ x2_2 then some (vC_3) else gd (inb (((vC.1 1) * (4 : Int32)) + x2_2) 96) (bn ((vC_3.2.1 6 ((((vC.1 1) * (4 : Int32)) + x2_2)).toNatClampNeg)) (fun (y11 : Int32) => gd (inb y11 24) (gd (inb y11 24) (bn (sI vC_3 8 (y11).toNatClampNeg ((vC_3.2.1 8 (y11).toNatClampNeg) + (1 : Int32))) (fun (vC_14 : Vs) => gd (inb (vC.1 1) 24) (gd (inb y11 24) (gd (inb (vC.1 1) 24) (bn (sI vC_14 7 ((vC.1 1)).toNatClampNeg (if (vC_14.2.1 7 ((vC.1 1)).toNatClampNeg) < ((vC_14.2.1 7 (y11).toNatClampNeg) + (1 : Int32)) then ((vC_14.2.1 7 (y11).toNatClampNeg) + (1 : Int32)) else (vC_14.2.1 7 ((vC.1 1)).toNatClampNeg))) (fun (vC_18 : Vs) => gd (inb (vC.1 1) 24) (gd (inb y11 24) (gd (inb (vC.1 1) 24) (bn (sI vC_18 9 ((vC.1 1)).toNatClampNeg ((vC_18.2.1 9 ((vC.1 1)).toNatClampNeg) ||| ((vC_18.2.1 9 (y11).toNatClampNeg) ||| ((1 : Int32) <<< (y11 &&& 31))))) (fun (vC_22 : Vs) => self4 (x2_2 + (1 : Int32)) vC_22))))))))))))))
def f_X0_endGate (vC : Vs) : Option (Vs) :=
  bn (sF vC 1 ((vC.1 1) + (1 : Int32))) (fun (vC_1 : Vs) => lp (f_X0_endGate_L17 vC) (fun _ _ => none) FU (0 : Int32) vC_1)
abbrev wsX0_endGate : List Cond := .code yX0_endGate cX0_endGate 4 none :: UW
abbrev rmX0_endGate : Room := { frames := 1, cells := 0, slots := 0, locals := 24 }
set_option maxHeartbeats 4000000 in
set_option maxRecDepth 100000 in
theorem c_X0_endGate (l : Launch) (g : Gx) (bC : Nat → Nat) (vC : Vs) (vC1 : Vs) (hf : f_X0_endGate vC = some vC1) : CtV l yX0_endGate wsX0_endGate rmX0_endGate g [.ref (bC 0)] (cC g bC vC) (cC g bC vC1) 0 0 := by
  unfold CtV
  intro sz
  refine Met.ofW (cc := cX0_endGate) (maxL := 4) (ret := none) (by decide) rfl ?_
  intro p e s m args below meth c s₁ B hml hv
  obtain ⟨rfl, hsz, hP, hK, hD0, hG⟩ := hv
  have hx := B.exec
  have hb := B.bytes
  have hr := B.returns
  have hts := atoms_spec (ws := wsX0_endGate) B.pre
  have hown : s.vm.findClass RX0 = some m.cls := findClass_of_methodNamed B.named
  have hlocks := B.notSynchronized
  subst hsz
  have hD := hD0.self (sz := s.heap.size)
  generalize hAe : va_A (cC g bC vC) s.heap.size = A at hD hG ⊢
  have hA : ∀ q : Nat, s.heap.size ≤ q → A q := fun q h => by rw [← hAe]; exact Or.inr h
  clear hAe hD0
  have hS : va_S A s.heap s.heap [] := va_S.rf
  have hl := lv_entry ([.ref (bC 0)]) (n := 4) (Nat.le_of_ble_eq_true rfl)
  rw [lg_entry_eq]
  generalize (lg_sl ([.ref (bC 0)]) ++ List.replicate (4 - (lg_sl ([.ref (bC 0)])).length) Slot.unset).toArray = ls at hl ⊢
  have hl : lv_has ls 4 [(0, .ref (bC 0))] := hl
  have htu : ∀ w ∈ UW, w.before _ s = true := fun w h => hts w (List.mem_cons_of_mem _ h)
  have k_1_63 := htu _ mw_1_63
  have k_1_74 := htu _ mw_1_74
  have k_1_76 := htu _ mw_1_76
  have k_1_79 := htu _ mw_1_79
  have k_1_78 := htu _ mw_1_78
  have k_2_132 := htu _ mw_2_132
  have k_2_133 := htu _ mw_2_133
  have k_1_7 := htu _ mw_1_7
  have k_2_134 := htu _ mw_2_134
  have k_1_80 := htu _ mw_1_80
  unfold f_X0_endGate at hf
  obtain ⟨H, hH⟩ : ∃ z, z = s.heap := ⟨_, rfl⟩
  obtain ⟨locs, hlo⟩ : ∃ z : List Loc, z = [] := ⟨_, rfl⟩
  have hS : va_S A s.heap H locs := by rw [hH, hlo]; exact hS
  rw [← hH] at hP
  have hW : W p l e (headSpec wsX0_endGate rmX0_endGate).room s m ([.ref (bC 0)] : List Value).toArray below meth c H locs 0 0 (MQ below (qV g A (cC g bC vC1)) ([.ref (bC 0)] : List Value).toArray s 0 0 A) (F0 m 0 ls []) := by
    refine lv_aload_n hx hb dX0_endGate_0 rfl (lv_at hl 0 rfl) ?_
    refine va_get (D := g.1) (ci := 0) (fs := fcC bC vC) (v := .int (vC.1 1)) (C := RX0) (T := TX0) (N := 14) hx hb htu hinX0 hown hK hP 0 rfl rfl 1 (by decide) k_1_63 (fun _ h9 => h9) rfl dX0_endGate_1 ?_
    refine lv_istore_n (lv' := [(1, .int (vC.1 1)), (0, .ref (bC 0))]) hx hb dX0_endGate_4 rfl hl (by decide) rfl (fun ls hl => ?_)
    refine lv_aload_n hx hb dX0_endGate_5 rfl (lv_at hl 1 rfl) ?_
    refine lv_dup hx hb dX0_endGate_6 rfl ?_
    refine va_get (D := g.1) (ci := 0) (fs := fcC bC vC) (v := .int (vC.1 1)) (C := RX0) (T := TX0) (N := 14) hx hb htu hinX0 hown hK hP 0 rfl rfl 1 (by decide) k_1_63 (fun _ h9 => h9) rfl dX0_endGate_7 ?_
    refine lv_iconst (v := (1 : Int32)) hx hb dX0_endGate_10 (by decide) ?_
    refine lv_iadd hx hb dX0_endGate_11 ?_
    refine va_put (D := g.1) (ci := 0) (fs := fcC bC vC) (v := .int ((vC.1 1) + (1 : Int32))) (ty := .int) (C := RX0) (T := TX0) (N := 14) hx hb htu hinX0 tyX0 tyX0_ok nmX0 hown hK hP hD hS 0 rfl rfl 1 (by decide) k_1_63 (fun _ h9 => h9) rfl (by decide +kernel) rfl rfl (Nat.le_of_ble_eq_true rfl) dX0_endGate_12 (fun H locs hP hD hS => ?_)
    obtain ⟨vC_1, evC_1⟩ : ∃ z, z = sF vC 1 ((vC.1 1) + (1 : Int32)) := ⟨_, rfl⟩
    have hf := bn_at hf evC_1
    have hP : va_P g.1 vwCl (cC g bC vC_1) H := by rw [evC_1]; exact hP
    have hD : va_D A (cC g bC vC_1) := by rw [evC_1]; exact hD
    refine lv_iconst (v := (0 : Int32)) hx hb dX0_endGate_15 (by decide) ?_
    refine lv_istore_n (lv' := [(2, .int (0 : Int32)), (1, .int (vC.1 1)), (0, .ref (bC 0))]) hx hb dX0_endGate_16 rfl hl (by decide) rfl (fun ls hl => ?_)
    have hL5 : ∀ (x2_2 : Int32) (vC_3 : Vs), lp (f_X0_endGate_L17 vC) (fun _ _ => none) FU x2_2 vC_3 = some vC1 → ∀ (H : Heap) (locs : List Loc), va_P g.1 vwCl (cC g bC vC_3) H → va_D A (cC g bC vC_3) → va_S A s.heap H locs → ∀ ls : Array Slot, lv_has ls 4 [(0, .ref (bC 0)), (1, .int (vC.1 1)), (2, .int x2_2)] → W p l e (headSpec wsX0_endGate rmX0_endGate).room s m ([.ref (bC 0)] : List Value).toArray below meth c H locs 0 0 (MQ below (qV g A (cC g bC vC1)) ([.ref (bC 0)] : List Value).toArray s 0 0 A) (F0 m 17 ls []) := by
      refine lp_ind (T := Int32 → Vs → Option (Vs)) (fun self4 => ∀ (x2_2 : Int32) (vC_3 : Vs), self4 x2_2 vC_3 = some vC1 → ∀ (H : Heap) (locs : List Loc), va_P g.1 vwCl (cC g bC vC_3) H → va_D A (cC g bC vC_3) → va_S A s.heap H locs → ∀ ls : Array Slot, lv_has ls 4 [(0, .ref (bC 0)), (1, .int (vC.1 1)), (2, .int x2_2)] → W p l e (headSpec wsX0_endGate rmX0_endGate).room s m ([.ref (bC 0)] : List Value).toArray below meth c H locs 0 0 (MQ below (qV g A (cC g bC vC1)) ([.ref (bC 0)] : List Value).toArray s 0 0 A) (F0 m 17 ls [])) ?_ ?_ FU
      · intro x2_2 vC_3 hf; cases hf
      · intro self4 ih6 x2_2 vC_3 hf H locs hP hD hS ls hl
        unfold f_X0_endGate_L17 at hf
        refine lv_iload_n hx hb dX0_endGate_17 rfl (lv_at hl 2 rfl) ?_
        refine lv_aload_n hx hb dX0_endGate_18 rfl (lv_at hl 0 rfl) ?_
        refine va_get (D := g.1) (ci := 0) (fs := fcC bC vC_3) (v := .ref (bC 6)) (C := RX0) (T := TX0) (N := 14) hx hb htu hinX0 hown hK hP 0 rfl rfl 5 (by decide) k_1_74 (fun _ h9 => h9) rfl dX0_endGate_19 ?_
        refine lv_iload_n hx hb dX0_endGate_22 rfl (lv_at hl 1 rfl) ?_
        obtain ⟨h7, hf⟩ := gd_in hf
        refine va_iald (D := g.1) (f := (vC_3.2.1 5)) hx hb hK hP 2 0 rfl rfl h7 dX0_endGate_23 ?_
        refine lv_icmp_ge (tgt := 96) hx hb dX0_endGate_24 (by decide) (fun c8 => ?_) (fun c8 => ?_)
        · have hf := it_t hf c8
          have e9 := Option.some.inj hf
          rw [e9] at hP hD
          exact k_vret hx hb hr hlocks hK hP hD hS dX0_endGate_96
        · have hf := it_f hf c8
          refine lv_aload_n hx hb dX0_endGate_27 rfl (lv_at hl 0 rfl) ?_
          refine va_get (D := g.1) (ci := 0) (fs := fcC bC vC_3) (v := .ref (bC 7)) (C := RX0) (T := TX0) (N := 14) hx hb htu hinX0 hown hK hP 0 rfl rfl 6 (by decide) k_1_76 (fun _ h9 => h9) rfl dX0_endGate_28 ?_
          refine lv_iload_n hx hb dX0_endGate_31 rfl (lv_at hl 1 rfl) ?_
          refine lv_iconst (v := (4 : Int32)) hx hb dX0_endGate_32 (by decide) ?_
          refine lv_imul hx hb dX0_endGate_33 ?_
          refine lv_iload_n hx hb dX0_endGate_34 rfl (lv_at hl 2 rfl) ?_
          refine lv_iadd hx hb dX0_endGate_35 ?_
          obtain ⟨h10, hf⟩ := gd_in hf
          refine va_iald (D := g.1) (f := (vC_3.2.1 6)) hx hb hK hP 3 0 rfl rfl h10 dX0_endGate_36 ?_
          refine lv_topi (fun y11 ey11 => ?_)
          have hf := bn_at hf ey11
          refine lv_istore_n (lv' := [(3, .int y11), (0, .ref (bC 0)), (1, .int (vC.1 1)), (2, .int x2_2)]) hx hb dX0_endGate_37 rfl hl (by decide) rfl (fun ls hl => ?_)
          refine lv_aload_n hx hb dX0_endGate_38 rfl (lv_at hl 1 rfl) ?_
          refine va_get (D := g.1) (ci := 0) (fs := fcC bC vC_3) (v := .ref (bC 9)) (C := RX0) (T := TX0) (N := 14) hx hb htu hinX0 hown hK hP 0 rfl rfl 8 (by decide) k_1_79 (fun _ h9 => h9) rfl dX0_endGate_39 ?_
          refine lv_iload_n hx hb dX0_endGate_42 rfl (lv_at hl 0 rfl) ?_
          refine lv_dup2_11 hx hb dX0_endGate_43 rfl rfl ?_
          obtain ⟨h12, hf⟩ := gd_in hf
          refine va_iald (D := g.1) (f := (vC_3.2.1 8)) hx hb hK hP 5 0 rfl rfl h12 dX0_endGate_44 ?_
          refine lv_iconst (v := (1 : Int32)) hx hb dX0_endGate_45 (by decide) ?_
          refine lv_iadd hx hb dX0_endGate_46 ?_
          obtain ⟨h13, hf⟩ := gd_in hf
          refine va_iast (D := g.1) (f := (vC_3.2.1 8)) hx hb hK hP hD hS 5 0 rfl rfl h13 dX0_endGate_47 (fun H locs hP hD hS => ?_)
          obtain ⟨vC_14, evC_14⟩ : ∃ z, z = sI vC_3 8 (y11).toNatClampNeg ((vC_3.2.1 8 (y11).toNatClampNeg) + (1 : Int32)) := ⟨_, rfl⟩
          have hf := bn_at hf evC_14
          have hP : va_P g.1 vwCl (cC g bC vC_14) H := by rw [evC_14]; exact hP
          have hD : va_D A (cC g bC vC_14) := by rw [evC_14]; exact hD
          refine lv_aload_n hx hb dX0_endGate_48 rfl (lv_at hl 1 rfl) ?_
          refine va_get (D := g.1) (ci := 0) (fs := fcC bC vC_14) (v := .ref (bC 8)) (C := RX0) (T := TX0) (N := 14) hx hb htu hinX0 hown hK hP 0 rfl rfl 7 (by decide) k_1_78 (fun _ h9 => h9) rfl dX0_endGate_49 ?_
          refine lv_iload_n hx hb dX0_endGate_52 rfl (lv_at hl 2 rfl) ?_
          refine lv_aload_n hx hb dX0_endGate_53 rfl (lv_at hl 1 rfl) ?_
          refine va_get (D := g.1) (ci := 0) (fs := fcC bC vC_14) (v := .ref (bC 8)) (C := RX0) (T := TX0) (N := 14) hx hb htu hinX0 hown hK hP 0 rfl rfl 7 (by decide) k_1_78 (fun _ h9 => h9) rfl dX0_endGate_54 ?_
          refine lv_iload_n hx hb dX0_endGate_57 rfl (lv_at hl 2 rfl) ?_
          obtain ⟨h15, hf⟩ := gd_in hf
          refine va_iald (D := g.1) (f := (vC_14.2.1 7)) hx hb hK hP 4 0 rfl rfl h15 dX0_endGate_58 ?_
          refine lv_aload_n hx hb dX0_endGate_59 rfl (lv_at hl 1 rfl) ?_
          refine va_get (D := g.1) (ci := 0) (fs := fcC bC vC_14) (v := .ref (bC 8)) (C := RX0) (T := TX0) (N := 14) hx hb htu hinX0 hown hK hP 0 rfl rfl 7 (by decide) k_1_78 (fun _ h9 => h9) rfl dX0_endGate_60 ?_
          refine lv_iload_n hx hb dX0_endGate_63 rfl (lv_at hl 0 rfl) ?_
          obtain ⟨h16, hf⟩ := gd_in hf
          refine va_iald (D := g.1) (f := (vC_14.2.1 7)) hx hb hK hP 4 0 rfl rfl h16 dX0_endGate_64 ?_
          refine lv_iconst (v := (1 : Int32)) hx hb dX0_endGate_65 (by decide) ?_
          refine lv_iadd hx hb dX0_endGate_66 ?_
          refine va_mmax hx hb (hml.trans hl.1.symm) hown k_2_132 k_2_133 k_1_7 k_2_134 (Nat.le_of_ble_eq_true rfl) (Nat.le_of_ble_eq_true rfl) (Nat.zero_le _) (Nat.zero_le _) dX0_endGate_67 ?_
          obtain ⟨h17, hf⟩ := gd_in hf
          refine va_iast (D := g.1) (f := (vC_14.2.1 7)) hx hb hK hP hD hS 4 0 rfl rfl h17 dX0_endGate_70 (fun H locs hP hD hS => ?_)
          obtain ⟨vC_18, evC_18⟩ : ∃ z, z = sI vC_14 7 ((vC.1 1)).toNatClampNeg (if (vC_14.2.1 7 ((vC.1 1)).toNatClampNeg) < ((vC_14.2.1 7 (y11).toNatClampNeg) + (1 : Int32)) then ((vC_14.2.1 7 (y11).toNatClampNeg) + (1 : Int32)) else (vC_14.2.1 7 ((vC.1 1)).toNatClampNeg)) := ⟨_, rfl⟩
          have hf := bn_at hf evC_18
          have hP : va_P g.1 vwCl (cC g bC vC_18) H := by rw [evC_18]; exact hP
          have hD : va_D A (cC g bC vC_18) := by rw [evC_18]; exact hD
          refine lv_aload_n hx hb dX0_endGate_71 rfl (lv_at hl 1 rfl) ?_
          refine va_get (D := g.1) (ci := 0) (fs := fcC bC vC_18) (v := .ref (bC 10)) (C := RX0) (T := TX0) (N := 14) hx hb htu hinX0 hown hK hP 0 rfl rfl 9 (by decide) k_1_80 (fun _ h9 => h9) rfl dX0_endGate_72 ?_
          refine lv_iload_n hx hb dX0_endGate_75 rfl (lv_at hl 2 rfl) ?_
          refine lv_dup2_11 hx hb dX0_endGate_76 rfl rfl ?_
          obtain ⟨h19, hf⟩ := gd_in hf
          refine va_iald (D := g.1) (f := (vC_18.2.1 9)) hx hb hK hP 6 0 rfl rfl h19 dX0_endGate_77 ?_
          refine lv_aload_n hx hb dX0_endGate_78 rfl (lv_at hl 1 rfl) ?_
          refine va_get (D := g.1) (ci := 0) (fs := fcC bC vC_18) (v := .ref (bC 10)) (C := RX0) (T := TX0) (N := 14) hx hb htu hinX0 hown hK hP 0 rfl rfl 9 (by decide) k_1_80 (fun _ h9 => h9) rfl dX0_endGate_79 ?_
          refine lv_iload_n hx hb dX0_endGate_82 rfl (lv_at hl 0 rfl) ?_
          obtain ⟨h20, hf⟩ := gd_in hf
          refine va_iald (D := g.1) (f := (vC_18.2.1 9)) hx hb hK hP 6 0 rfl rfl h20 dX0_endGate_83 ?_
          refine lv_iconst (v := (1 : Int32)) hx hb dX0_endGate_84 (by decide) ?_
          refine lv_iload_n hx hb dX0_endGate_85 rfl (lv_at hl 0 rfl) ?_
          refine lv_ishl hx hb dX0_endGate_86 ?_
          refine lv_ior hx hb dX0_endGate_87 ?_
          refine lv_ior hx hb dX0_endGate_88 ?_
          obtain ⟨h21, hf⟩ := gd_in hf
          refine va_iast (D := g.1) (f := (vC_18.2.1 9)) hx hb hK hP hD hS 6 0 rfl rfl h21 dX0_endGate_89 (fun H locs hP hD hS => ?_)
          obtain ⟨vC_22, evC_22⟩ : ∃ z, z = sI vC_18 9 ((vC.1 1)).toNatClampNeg ((vC_18.2.1 9 ((vC.1 1)).toNatClampNeg) ||| ((vC_18.2.1 9 (y11).toNatClampNeg) ||| ((1 : Int32) <<< (y11 &&& 31)))) := ⟨_, rfl⟩
          have hf := bn_at hf evC_22
          have hP : va_P g.1 vwCl (cC g bC vC_22) H := by rw [evC_22]; exact hP
          have hD : va_D A (cC g bC vC_22) := by rw [evC_22]; exact hD
          refine lv_iinc (v := (x2_2 + (1 : Int32))) (lv' := [(2, .int (x2_2 + (1 : Int32))), (3, .int y11), (0, .ref (bC 0)), (1, .int (vC.1 1))]) hx hb dX0_endGate_90 hl (k := 3) rfl rfl (by decide) rfl (fun ls hl => ?_)
          refine lv_goto (tgt := 17) hx hb dX0_endGate_93 (by decide) ?_
          exact ih6 (x2_2 + (1 : Int32)) vC_22 hf H locs hP hD hS _ (lv_sub hl [2, 3, 0] rfl)
    exact hL5 (0 : Int32) vC_1 hf H locs hP hD hS _ (lv_sub hl [2, 1, 0] rfl)
  rw [hH, hlo] at hW
  exact hW
def f_X0_faultCount (vC : Vs) : Option (Int32) :=
  some ((((2 : Int32) * (vC.1 1)) + (vC.1 3)))
abbrev wsX0_faultCount : List Cond := .code yX0_faultCount cX0_faultCount 1 (some .int) :: UW
abbrev rmX0_faultCount : Room := { frames := 0, cells := 0, slots := 0, locals := 0 }
set_option maxHeartbeats 4000000 in
set_option maxRecDepth 100000 in
theorem c_X0_faultCount (l : Launch) (g : Gx) (bC : Nat → Nat) (vC : Vs) (r : Int32) (hf : f_X0_faultCount vC = some r) : CtI l yX0_faultCount wsX0_faultCount rmX0_faultCount g [.ref (bC 0)] (cC g bC vC) (cC g bC vC) r 0 0 := by
  unfold CtI
  intro sz
  refine Met.ofW (cc := cX0_faultCount) (maxL := 1) (ret := (some .int)) (by decide) rfl ?_
  intro p e s m args below meth c s₁ B hml hv
  obtain ⟨rfl, hsz, hP, hK, hD0, hG⟩ := hv
  have hx := B.exec
  have hb := B.bytes
  have hr := B.returns
  have hts := atoms_spec (ws := wsX0_faultCount) B.pre
  have hown : s.vm.findClass RX0 = some m.cls := findClass_of_methodNamed B.named
  have hlocks := B.notSynchronized
  subst hsz
  have hD := hD0.self (sz := s.heap.size)
  generalize hAe : va_A (cC g bC vC) s.heap.size = A at hD hG ⊢
  have hA : ∀ q : Nat, s.heap.size ≤ q → A q := fun q h => by rw [← hAe]; exact Or.inr h
  clear hAe hD0
  have hS : va_S A s.heap s.heap [] := va_S.rf
  have hl := lv_entry ([.ref (bC 0)]) (n := 1) (Nat.le_of_ble_eq_true rfl)
  rw [lg_entry_eq]
  generalize (lg_sl ([.ref (bC 0)]) ++ List.replicate (1 - (lg_sl ([.ref (bC 0)])).length) Slot.unset).toArray = ls at hl ⊢
  have hl : lv_has ls 1 [(0, .ref (bC 0))] := hl
  have htu : ∀ w ∈ UW, w.before _ s = true := fun w h => hts w (List.mem_cons_of_mem _ h)
  have k_1_63 := htu _ mw_1_63
  have k_1_70 := htu _ mw_1_70
  unfold f_X0_faultCount at hf
  obtain ⟨H, hH⟩ : ∃ z, z = s.heap := ⟨_, rfl⟩
  obtain ⟨locs, hlo⟩ : ∃ z : List Loc, z = [] := ⟨_, rfl⟩
  have hS : va_S A s.heap H locs := by rw [hH, hlo]; exact hS
  rw [← hH] at hP
  have hW : W p l e (headSpec wsX0_faultCount rmX0_faultCount).room s m ([.ref (bC 0)] : List Value).toArray below meth c H locs 0 0 (MQ below (qI g A (cC g bC vC) r) ([.ref (bC 0)] : List Value).toArray s 0 0 A) (F0 m 0 ls []) := by
    refine lv_iconst (v := (2 : Int32)) hx hb dX0_faultCount_0 (by decide) ?_
    refine lv_aload_n hx hb dX0_faultCount_1 rfl (lv_at hl 0 rfl) ?_
    refine va_get (D := g.1) (ci := 0) (fs := fcC bC vC) (v := .int (vC.1 1)) (C := RX0) (T := TX0) (N := 14) hx hb htu hinX0 hown hK hP 0 rfl rfl 1 (by decide) k_1_63 (fun _ h9 => h9) rfl dX0_faultCount_2 ?_
    refine lv_imul hx hb dX0_faultCount_5 ?_
    refine lv_aload_n hx hb dX0_faultCount_6 rfl (lv_at hl 0 rfl) ?_
    refine va_get (D := g.1) (ci := 0) (fs := fcC bC vC) (v := .int (vC.1 3)) (C := RX0) (T := TX0) (N := 14) hx hb htu hinX0 hown hK hP 0 rfl rfl 3 (by decide) k_1_70 (fun _ h9 => h9) rfl dX0_faultCount_7 ?_
    refine lv_iadd hx hb dX0_faultCount_10 ?_
    have e1 := Option.some.inj hf
    exact k_iret hx hb hr hlocks hK hP hD hS e1 dX0_faultCount_11
  rw [hH, hlo] at hW
  exact hW
def f_X0_greatestLevel_L4 (vC : Vs) (self3 : Int32 → Int32 → Option (Int32)) (x1_1 : Int32) (x2_2 : Int32) : Option (Int32) :=
  if (vC.1 1) ≤ x2_2 then some (x1_1) else gd (inb x2_2 24) (bn ((if x1_1 < (vC.2.1 7 (x2_2).toNatClampNeg) then (vC.2.1 7 (x2_2).toNatClampNeg) else x1_1)) (fun (y9 : Int32) => self3 y9 (x2_2 + (1 : Int32))))
def f_X0_greatestLevel (vC : Vs) : Option (Int32) :=
  lp (f_X0_greatestLevel_L4 vC) (fun _ _ => none) FU (0 : Int32) (0 : Int32)
abbrev wsX0_greatestLevel : List Cond := .code yX0_greatestLevel cX0_greatestLevel 3 (some .int) :: UW
abbrev rmX0_greatestLevel : Room := { frames := 1, cells := 0, slots := 0, locals := 24 }
set_option maxHeartbeats 4000000 in
set_option maxRecDepth 100000 in
theorem c_X0_greatestLevel (l : Launch) (g : Gx) (bC : Nat → Nat) (vC : Vs) (r : Int32) (hf : f_X0_greatestLevel vC = some r) : CtI l yX0_greatestLevel wsX0_greatestLevel rmX0_greatestLevel g [.ref (bC 0)] (cC g bC vC) (cC g bC vC) r 0 0 := by
  unfold CtI
  intro sz
  refine Met.ofW (cc := cX0_greatestLevel) (maxL := 3) (ret := (some .int)) (by decide) rfl ?_
  intro p e s m args below meth c s₁ B hml hv
  obtain ⟨rfl, hsz, hP, hK, hD0, hG⟩ := hv
  have hx := B.exec
  have hb := B.bytes
  have hr := B.returns
  have hts := atoms_spec (ws := wsX0_greatestLevel) B.pre
  have hown : s.vm.findClass RX0 = some m.cls := findClass_of_methodNamed B.named
  have hlocks := B.notSynchronized
  subst hsz
  have hD := hD0.self (sz := s.heap.size)
  generalize hAe : va_A (cC g bC vC) s.heap.size = A at hD hG ⊢
  have hA : ∀ q : Nat, s.heap.size ≤ q → A q := fun q h => by rw [← hAe]; exact Or.inr h
  clear hAe hD0
  have hS : va_S A s.heap s.heap [] := va_S.rf
  have hl := lv_entry ([.ref (bC 0)]) (n := 3) (Nat.le_of_ble_eq_true rfl)
  rw [lg_entry_eq]
  generalize (lg_sl ([.ref (bC 0)]) ++ List.replicate (3 - (lg_sl ([.ref (bC 0)])).length) Slot.unset).toArray = ls at hl ⊢
  have hl : lv_has ls 3 [(0, .ref (bC 0))] := hl
  have htu : ∀ w ∈ UW, w.before _ s = true := fun w h => hts w (List.mem_cons_of_mem _ h)
  have k_1_63 := htu _ mw_1_63
  have k_1_78 := htu _ mw_1_78
  have k_2_132 := htu _ mw_2_132
  have k_2_133 := htu _ mw_2_133
  have k_1_7 := htu _ mw_1_7
  have k_2_134 := htu _ mw_2_134
  unfold f_X0_greatestLevel at hf
  obtain ⟨H, hH⟩ : ∃ z, z = s.heap := ⟨_, rfl⟩
  obtain ⟨locs, hlo⟩ : ∃ z : List Loc, z = [] := ⟨_, rfl⟩
  have hS : va_S A s.heap H locs := by rw [hH, hlo]; exact hS
  rw [← hH] at hP
  have hW : W p l e (headSpec wsX0_greatestLevel rmX0_greatestLevel).room s m ([.ref (bC 0)] : List Value).toArray below meth c H locs 0 0 (MQ below (qI g A (cC g bC vC) r) ([.ref (bC 0)] : List Value).toArray s 0 0 A) (F0 m 0 ls []) := by
    refine lv_iconst (v := (0 : Int32)) hx hb dX0_greatestLevel_0 (by decide) ?_
    refine lv_istore_n (lv' := [(1, .int (0 : Int32)), (0, .ref (bC 0))]) hx hb dX0_greatestLevel_1 rfl hl (by decide) rfl (fun ls hl => ?_)
    refine lv_iconst (v := (0 : Int32)) hx hb dX0_greatestLevel_2 (by decide) ?_
    refine lv_istore_n (lv' := [(2, .int (0 : Int32)), (1, .int (0 : Int32)), (0, .ref (bC 0))]) hx hb dX0_greatestLevel_3 rfl hl (by decide) rfl (fun ls hl => ?_)
    have hL4 : ∀ (x1_1 : Int32) (x2_2 : Int32), lp (f_X0_greatestLevel_L4 vC) (fun _ _ => none) FU x1_1 x2_2 = some r → ∀ (H : Heap) (locs : List Loc), va_P g.1 vwCl (cC g bC vC) H → va_D A (cC g bC vC) → va_S A s.heap H locs → ∀ ls : Array Slot, lv_has ls 3 [(0, .ref (bC 0)), (1, .int x1_1), (2, .int x2_2)] → W p l e (headSpec wsX0_greatestLevel rmX0_greatestLevel).room s m ([.ref (bC 0)] : List Value).toArray below meth c H locs 0 0 (MQ below (qI g A (cC g bC vC) r) ([.ref (bC 0)] : List Value).toArray s 0 0 A) (F0 m 4 ls []) := by
      refine lp_ind (T := Int32 → Int32 → Option (Int32)) (fun self3 => ∀ (x1_1 : Int32) (x2_2 : Int32), self3 x1_1 x2_2 = some r → ∀ (H : Heap) (locs : List Loc), va_P g.1 vwCl (cC g bC vC) H → va_D A (cC g bC vC) → va_S A s.heap H locs → ∀ ls : Array Slot, lv_has ls 3 [(0, .ref (bC 0)), (1, .int x1_1), (2, .int x2_2)] → W p l e (headSpec wsX0_greatestLevel rmX0_greatestLevel).room s m ([.ref (bC 0)] : List Value).toArray below meth c H locs 0 0 (MQ below (qI g A (cC g bC vC) r) ([.ref (bC 0)] : List Value).toArray s 0 0 A) (F0 m 4 ls [])) ?_ ?_ FU
      · intro x1_1 x2_2 hf; cases hf
      · intro self3 ih5 x1_1 x2_2 hf H locs hP hD hS ls hl
        unfold f_X0_greatestLevel_L4 at hf
        refine lv_iload_n hx hb dX0_greatestLevel_4 rfl (lv_at hl 2 rfl) ?_
        refine lv_aload_n hx hb dX0_greatestLevel_5 rfl (lv_at hl 0 rfl) ?_
        refine va_get (D := g.1) (ci := 0) (fs := fcC bC vC) (v := .int (vC.1 1)) (C := RX0) (T := TX0) (N := 14) hx hb htu hinX0 hown hK hP 0 rfl rfl 1 (by decide) k_1_63 (fun _ h9 => h9) rfl dX0_greatestLevel_6 ?_
        refine lv_icmp_ge (tgt := 29) hx hb dX0_greatestLevel_9 (by decide) (fun c6 => ?_) (fun c6 => ?_)
        · have hf := it_t hf c6
          refine lv_iload_n hx hb dX0_greatestLevel_29 rfl (lv_at hl 1 rfl) ?_
          have e7 := Option.some.inj hf
          exact k_iret hx hb hr hlocks hK hP hD hS e7 dX0_greatestLevel_30
        · have hf := it_f hf c6
          refine lv_iload_n hx hb dX0_greatestLevel_12 rfl (lv_at hl 1 rfl) ?_
          refine lv_aload_n hx hb dX0_greatestLevel_13 rfl (lv_at hl 0 rfl) ?_
          refine va_get (D := g.1) (ci := 0) (fs := fcC bC vC) (v := .ref (bC 8)) (C := RX0) (T := TX0) (N := 14) hx hb htu hinX0 hown hK hP 0 rfl rfl 7 (by decide) k_1_78 (fun _ h9 => h9) rfl dX0_greatestLevel_14 ?_
          refine lv_iload_n hx hb dX0_greatestLevel_17 rfl (lv_at hl 2 rfl) ?_
          obtain ⟨h8, hf⟩ := gd_in hf
          refine va_iald (D := g.1) (f := (vC.2.1 7)) hx hb hK hP 4 0 rfl rfl h8 dX0_greatestLevel_18 ?_
          refine va_mmax hx hb (hml.trans hl.1.symm) hown k_2_132 k_2_133 k_1_7 k_2_134 (Nat.le_of_ble_eq_true rfl) (Nat.le_of_ble_eq_true rfl) (Nat.zero_le _) (Nat.zero_le _) dX0_greatestLevel_19 ?_
          refine lv_topi (fun y9 ey9 => ?_)
          have hf := bn_at hf ey9
          refine lv_istore_n (lv' := [(1, .int y9), (0, .ref (bC 0)), (2, .int x2_2)]) hx hb dX0_greatestLevel_22 rfl hl (by decide) rfl (fun ls hl => ?_)
          refine lv_iinc (v := (x2_2 + (1 : Int32))) (lv' := [(2, .int (x2_2 + (1 : Int32))), (1, .int y9), (0, .ref (bC 0))]) hx hb dX0_greatestLevel_23 hl (k := 2) rfl rfl (by decide) rfl (fun ls hl => ?_)
          refine lv_goto (tgt := 4) hx hb dX0_greatestLevel_26 (by decide) ?_
          exact ih5 y9 (x2_2 + (1 : Int32)) hf H locs hP hD hS _ (lv_sub hl [2, 1, 0] rfl)
    exact hL4 (0 : Int32) (0 : Int32) hf H locs hP hD hS _ (lv_sub hl [2, 1, 0] rfl)
  rw [hH, hlo] at hW
  exact hW
def f_X0_fullWords (vC : Vs) : Option (Int32) :=
  jn (fun (t1 : Int32) => some (t1)) (fun k2 => if (6 : Int32) < (vC.1 0) then k2 ((1 : Int32) <<< (((vC.1 0) - (6 : Int32)) &&& 31)) else k2 (1 : Int32))
abbrev wsX0_fullWords : List Cond := .code yX0_fullWords cX0_fullWords 1 (some .int) :: UW
abbrev rmX0_fullWords : Room := { frames := 0, cells := 0, slots := 0, locals := 0 }
set_option maxHeartbeats 4000000 in
set_option maxRecDepth 100000 in
theorem c_X0_fullWords (l : Launch) (g : Gx) (bC : Nat → Nat) (vC : Vs) (r : Int32) (hf : f_X0_fullWords vC = some r) : CtI l yX0_fullWords wsX0_fullWords rmX0_fullWords g [.ref (bC 0)] (cC g bC vC) (cC g bC vC) r 0 0 := by
  unfold CtI
  intro sz
  refine Met.ofW (cc := cX0_fullWords) (maxL := 1) (ret := (some .int)) (by decide) rfl ?_
  intro p e s m args below meth c s₁ B hml hv
  obtain ⟨rfl, hsz, hP, hK, hD0, hG⟩ := hv
  have hx := B.exec
  have hb := B.bytes
  have hr := B.returns
  have hts := atoms_spec (ws := wsX0_fullWords) B.pre
  have hown : s.vm.findClass RX0 = some m.cls := findClass_of_methodNamed B.named
  have hlocks := B.notSynchronized
  subst hsz
  have hD := hD0.self (sz := s.heap.size)
  generalize hAe : va_A (cC g bC vC) s.heap.size = A at hD hG ⊢
  have hA : ∀ q : Nat, s.heap.size ≤ q → A q := fun q h => by rw [← hAe]; exact Or.inr h
  clear hAe hD0
  have hS : va_S A s.heap s.heap [] := va_S.rf
  have hl := lv_entry ([.ref (bC 0)]) (n := 1) (Nat.le_of_ble_eq_true rfl)
  rw [lg_entry_eq]
  generalize (lg_sl ([.ref (bC 0)]) ++ List.replicate (1 - (lg_sl ([.ref (bC 0)])).length) Slot.unset).toArray = ls at hl ⊢
  have hl : lv_has ls 1 [(0, .ref (bC 0))] := hl
  have htu : ∀ w ∈ UW, w.before _ s = true := fun w h => hts w (List.mem_cons_of_mem _ h)
  have k_1_59 := htu _ mw_1_59
  unfold f_X0_fullWords at hf
  obtain ⟨H, hH⟩ : ∃ z, z = s.heap := ⟨_, rfl⟩
  obtain ⟨locs, hlo⟩ : ∃ z : List Loc, z = [] := ⟨_, rfl⟩
  have hS : va_S A s.heap H locs := by rw [hH, hlo]; exact hS
  rw [← hH] at hP
  have hW : W p l e (headSpec wsX0_fullWords rmX0_fullWords).room s m ([.ref (bC 0)] : List Value).toArray below meth c H locs 0 0 (MQ below (qI g A (cC g bC vC) r) ([.ref (bC 0)] : List Value).toArray s 0 0 A) (F0 m 0 ls []) := by
    refine lv_aload_n hx hb dX0_fullWords_0 rfl (lv_at hl 0 rfl) ?_
    refine va_get (D := g.1) (ci := 0) (fs := fcC bC vC) (v := .int (vC.1 0)) (C := RX0) (T := TX0) (N := 14) hx hb htu hinX0 hown hK hP 0 rfl rfl 0 (by decide) k_1_59 (fun _ h9 => h9) rfl dX0_fullWords_1 ?_
    refine lv_bipush (v := (6 : Int32)) hx hb dX0_fullWords_4 (by decide) ?_
    obtain ⟨k2, hk5, hf⟩ := jn_at hf
    have hJ3 : ∀ (t1 : Int32), k2 t1 = some r → ∀ (H : Heap) (locs : List Loc), va_P g.1 vwCl (cC g bC vC) H → va_D A (cC g bC vC) → va_S A s.heap H locs → ∀ ls : Array Slot, lv_has ls 1 [] → W p l e (headSpec wsX0_fullWords rmX0_fullWords).room s m ([.ref (bC 0)] : List Value).toArray below meth c H locs 0 0 (MQ below (qI g A (cC g bC vC) r) ([.ref (bC 0)] : List Value).toArray s 0 0 A) (F0 m 22 ls [.int t1]) := by
      intro t1 hf H locs hP hD hS ls hl
      rw [hk5] at hf
      dsimp only at hf
      clear hk5
      have e4 := Option.some.inj hf
      exact k_iret hx hb hr hlocks hK hP hD hS e4 dX0_fullWords_22
    refine lv_icmp_gt (tgt := 13) hx hb dX0_fullWords_6 (by decide) (fun c6 => ?_) (fun c6 => ?_)
    · have hf := it_t hf c6
      refine lv_iconst (v := (1 : Int32)) hx hb dX0_fullWords_13 (by decide) ?_
      refine lv_aload_n hx hb dX0_fullWords_14 rfl (lv_at hl 0 rfl) ?_
      refine va_get (D := g.1) (ci := 0) (fs := fcC bC vC) (v := .int (vC.1 0)) (C := RX0) (T := TX0) (N := 14) hx hb htu hinX0 hown hK hP 0 rfl rfl 0 (by decide) k_1_59 (fun _ h9 => h9) rfl dX0_fullWords_15 ?_
      refine lv_bipush (v := (6 : Int32)) hx hb dX0_fullWords_18 (by decide) ?_
      refine lv_isub hx hb dX0_fullWords_20 ?_
      refine lv_ishl hx hb dX0_fullWords_21 ?_
      exact hJ3 ((1 : Int32) <<< (((vC.1 0) - (6 : Int32)) &&& 31)) hf H locs hP hD hS _ (lv_sub hl [] rfl)
    · have hf := it_f hf c6
      refine lv_iconst (v := (1 : Int32)) hx hb dX0_fullWords_9 (by decide) ?_
      refine lv_goto (tgt := 22) hx hb dX0_fullWords_10 (by decide) ?_
      exact hJ3 (1 : Int32) hf H locs hP hD hS _ (lv_sub hl [] rfl)
  rw [hH, hlo] at hW
  exact hW
def f_X0_startGate (vC : Vs) (x1 : Int32) : Option (Vs) :=
  gd (inb (vC.1 1) 24) (bn (sI vC 4 ((vC.1 1)).toNatClampNeg x1) (fun (vC_2 : Vs) => gd (inb (vC_2.1 1) 24) (bn (sI vC_2 5 ((vC_2.1 1)).toNatClampNeg (0 : Int32)) (fun (vC_4 : Vs) => some (vC_4)))))
abbrev wsX0_startGate : List Cond := .code yX0_startGate cX0_startGate 2 none :: UW
abbrev rmX0_startGate : Room := { frames := 0, cells := 0, slots := 0, locals := 0 }
set_option maxHeartbeats 4000000 in
set_option maxRecDepth 100000 in
theorem c_X0_startGate (l : Launch) (g : Gx) (bC : Nat → Nat) (vC : Vs) (x1 : Int32) (vC1 : Vs) (hf : f_X0_startGate vC x1 = some vC1) : CtV l yX0_startGate wsX0_startGate rmX0_startGate g [.ref (bC 0), .int x1] (cC g bC vC) (cC g bC vC1) 0 0 := by
  unfold CtV
  intro sz
  refine Met.ofW (cc := cX0_startGate) (maxL := 2) (ret := none) (by decide) rfl ?_
  intro p e s m args below meth c s₁ B hml hv
  obtain ⟨rfl, hsz, hP, hK, hD0, hG⟩ := hv
  have hx := B.exec
  have hb := B.bytes
  have hr := B.returns
  have hts := atoms_spec (ws := wsX0_startGate) B.pre
  have hown : s.vm.findClass RX0 = some m.cls := findClass_of_methodNamed B.named
  have hlocks := B.notSynchronized
  subst hsz
  have hD := hD0.self (sz := s.heap.size)
  generalize hAe : va_A (cC g bC vC) s.heap.size = A at hD hG ⊢
  have hA : ∀ q : Nat, s.heap.size ≤ q → A q := fun q h => by rw [← hAe]; exact Or.inr h
  clear hAe hD0
  have hS : va_S A s.heap s.heap [] := va_S.rf
  have hl := lv_entry ([.ref (bC 0), .int x1]) (n := 2) (Nat.le_of_ble_eq_true rfl)
  rw [lg_entry_eq]
  generalize (lg_sl ([.ref (bC 0), .int x1]) ++ List.replicate (2 - (lg_sl ([.ref (bC 0), .int x1])).length) Slot.unset).toArray = ls at hl ⊢
  have hl : lv_has ls 2 [(0, .ref (bC 0)), (1, .int x1)] := hl
  have htu : ∀ w ∈ UW, w.before _ s = true := fun w h => hts w (List.mem_cons_of_mem _ h)
  have k_1_72 := htu _ mw_1_72
  have k_1_63 := htu _ mw_1_63
  have k_1_74 := htu _ mw_1_74
  unfold f_X0_startGate at hf
  obtain ⟨H, hH⟩ : ∃ z, z = s.heap := ⟨_, rfl⟩
  obtain ⟨locs, hlo⟩ : ∃ z : List Loc, z = [] := ⟨_, rfl⟩
  have hS : va_S A s.heap H locs := by rw [hH, hlo]; exact hS
  rw [← hH] at hP
  have hW : W p l e (headSpec wsX0_startGate rmX0_startGate).room s m ([.ref (bC 0), .int x1] : List Value).toArray below meth c H locs 0 0 (MQ below (qV g A (cC g bC vC1)) ([.ref (bC 0), .int x1] : List Value).toArray s 0 0 A) (F0 m 0 ls []) := by
    refine lv_aload_n hx hb dX0_startGate_0 rfl (lv_at hl 0 rfl) ?_
    refine va_get (D := g.1) (ci := 0) (fs := fcC bC vC) (v := .ref (bC 5)) (C := RX0) (T := TX0) (N := 14) hx hb htu hinX0 hown hK hP 0 rfl rfl 4 (by decide) k_1_72 (fun _ h9 => h9) rfl dX0_startGate_1 ?_
    refine lv_aload_n hx hb dX0_startGate_4 rfl (lv_at hl 0 rfl) ?_
    refine va_get (D := g.1) (ci := 0) (fs := fcC bC vC) (v := .int (vC.1 1)) (C := RX0) (T := TX0) (N := 14) hx hb htu hinX0 hown hK hP 0 rfl rfl 1 (by decide) k_1_63 (fun _ h9 => h9) rfl dX0_startGate_5 ?_
    refine lv_iload_n hx hb dX0_startGate_8 rfl (lv_at hl 1 rfl) ?_
    obtain ⟨h1, hf⟩ := gd_in hf
    refine va_iast (D := g.1) (f := (vC.2.1 4)) hx hb hK hP hD hS 1 0 rfl rfl h1 dX0_startGate_9 (fun H locs hP hD hS => ?_)
    obtain ⟨vC_2, evC_2⟩ : ∃ z, z = sI vC 4 ((vC.1 1)).toNatClampNeg x1 := ⟨_, rfl⟩
    have hf := bn_at hf evC_2
    have hP : va_P g.1 vwCl (cC g bC vC_2) H := by rw [evC_2]; exact hP
    have hD : va_D A (cC g bC vC_2) := by rw [evC_2]; exact hD
    refine lv_aload_n hx hb dX0_startGate_10 rfl (lv_at hl 0 rfl) ?_
    refine va_get (D := g.1) (ci := 0) (fs := fcC bC vC_2) (v := .ref (bC 6)) (C := RX0) (T := TX0) (N := 14) hx hb htu hinX0 hown hK hP 0 rfl rfl 5 (by decide) k_1_74 (fun _ h9 => h9) rfl dX0_startGate_11 ?_
    refine lv_aload_n hx hb dX0_startGate_14 rfl (lv_at hl 0 rfl) ?_
    refine va_get (D := g.1) (ci := 0) (fs := fcC bC vC_2) (v := .int (vC_2.1 1)) (C := RX0) (T := TX0) (N := 14) hx hb htu hinX0 hown hK hP 0 rfl rfl 1 (by decide) k_1_63 (fun _ h9 => h9) rfl dX0_startGate_15 ?_
    refine lv_iconst (v := (0 : Int32)) hx hb dX0_startGate_18 (by decide) ?_
    obtain ⟨h3, hf⟩ := gd_in hf
    refine va_iast (D := g.1) (f := (vC_2.2.1 5)) hx hb hK hP hD hS 2 0 rfl rfl h3 dX0_startGate_19 (fun H locs hP hD hS => ?_)
    obtain ⟨vC_4, evC_4⟩ : ∃ z, z = sI vC_2 5 ((vC_2.1 1)).toNatClampNeg (0 : Int32) := ⟨_, rfl⟩
    have hf := bn_at hf evC_4
    have hP : va_P g.1 vwCl (cC g bC vC_4) H := by rw [evC_4]; exact hP
    have hD : va_D A (cC g bC vC_4) := by rw [evC_4]; exact hD
    have e5 := Option.some.inj hf
    rw [e5] at hP hD
    exact k_vret hx hb hr hlocks hK hP hD hS dX0_startGate_20
  rw [hH, hlo] at hW
  exact hW
def f_X0_putOperand (vC : Vs) (x1 : Int32) : Option (Vs) :=
  gd (inb (vC.1 1) 24) (gd (inb (((vC.1 1) * (4 : Int32)) + (vC.2.1 5 ((vC.1 1)).toNatClampNeg)) 96) (bn (sI vC 6 ((((vC.1 1) * (4 : Int32)) + (vC.2.1 5 ((vC.1 1)).toNatClampNeg))).toNatClampNeg x1) (fun (vC_3 : Vs) => gd (inb (vC_3.1 1) 24) (gd (inb (vC_3.1 1) 24) (bn (sI vC_3 5 ((vC_3.1 1)).toNatClampNeg ((vC_3.2.1 5 ((vC_3.1 1)).toNatClampNeg) + (1 : Int32))) (fun (vC_6 : Vs) => some (vC_6)))))))
abbrev wsX0_putOperand : List Cond := .code yX0_putOperand cX0_putOperand 2 none :: UW
abbrev rmX0_putOperand : Room := { frames := 0, cells := 0, slots := 0, locals := 0 }
set_option maxHeartbeats 4000000 in
set_option maxRecDepth 100000 in
theorem c_X0_putOperand (l : Launch) (g : Gx) (bC : Nat → Nat) (vC : Vs) (x1 : Int32) (vC1 : Vs) (hf : f_X0_putOperand vC x1 = some vC1) : CtV l yX0_putOperand wsX0_putOperand rmX0_putOperand g [.ref (bC 0), .int x1] (cC g bC vC) (cC g bC vC1) 0 0 := by
  unfold CtV
  intro sz
  refine Met.ofW (cc := cX0_putOperand) (maxL := 2) (ret := none) (by decide) rfl ?_
  intro p e s m args below meth c s₁ B hml hv
  obtain ⟨rfl, hsz, hP, hK, hD0, hG⟩ := hv
  have hx := B.exec
  have hb := B.bytes
  have hr := B.returns
  have hts := atoms_spec (ws := wsX0_putOperand) B.pre
  have hown : s.vm.findClass RX0 = some m.cls := findClass_of_methodNamed B.named
  have hlocks := B.notSynchronized
  subst hsz
  have hD := hD0.self (sz := s.heap.size)
  generalize hAe : va_A (cC g bC vC) s.heap.size = A at hD hG ⊢
  have hA : ∀ q : Nat, s.heap.size ≤ q → A q := fun q h => by rw [← hAe]; exact Or.inr h
  clear hAe hD0
  have hS : va_S A s.heap s.heap [] := va_S.rf
  have hl := lv_entry ([.ref (bC 0), .int x1]) (n := 2) (Nat.le_of_ble_eq_true rfl)
  rw [lg_entry_eq]
  generalize (lg_sl ([.ref (bC 0), .int x1]) ++ List.replicate (2 - (lg_sl ([.ref (bC 0), .int x1])).length) Slot.unset).toArray = ls at hl ⊢
  have hl : lv_has ls 2 [(0, .ref (bC 0)), (1, .int x1)] := hl
  have htu : ∀ w ∈ UW, w.before _ s = true := fun w h => hts w (List.mem_cons_of_mem _ h)
  have k_1_76 := htu _ mw_1_76
  have k_1_63 := htu _ mw_1_63
  have k_1_74 := htu _ mw_1_74
  unfold f_X0_putOperand at hf
  obtain ⟨H, hH⟩ : ∃ z, z = s.heap := ⟨_, rfl⟩
  obtain ⟨locs, hlo⟩ : ∃ z : List Loc, z = [] := ⟨_, rfl⟩
  have hS : va_S A s.heap H locs := by rw [hH, hlo]; exact hS
  rw [← hH] at hP
  have hW : W p l e (headSpec wsX0_putOperand rmX0_putOperand).room s m ([.ref (bC 0), .int x1] : List Value).toArray below meth c H locs 0 0 (MQ below (qV g A (cC g bC vC1)) ([.ref (bC 0), .int x1] : List Value).toArray s 0 0 A) (F0 m 0 ls []) := by
    refine lv_aload_n hx hb dX0_putOperand_0 rfl (lv_at hl 0 rfl) ?_
    refine va_get (D := g.1) (ci := 0) (fs := fcC bC vC) (v := .ref (bC 7)) (C := RX0) (T := TX0) (N := 14) hx hb htu hinX0 hown hK hP 0 rfl rfl 6 (by decide) k_1_76 (fun _ h9 => h9) rfl dX0_putOperand_1 ?_
    refine lv_aload_n hx hb dX0_putOperand_4 rfl (lv_at hl 0 rfl) ?_
    refine va_get (D := g.1) (ci := 0) (fs := fcC bC vC) (v := .int (vC.1 1)) (C := RX0) (T := TX0) (N := 14) hx hb htu hinX0 hown hK hP 0 rfl rfl 1 (by decide) k_1_63 (fun _ h9 => h9) rfl dX0_putOperand_5 ?_
    refine lv_iconst (v := (4 : Int32)) hx hb dX0_putOperand_8 (by decide) ?_
    refine lv_imul hx hb dX0_putOperand_9 ?_
    refine lv_aload_n hx hb dX0_putOperand_10 rfl (lv_at hl 0 rfl) ?_
    refine va_get (D := g.1) (ci := 0) (fs := fcC bC vC) (v := .ref (bC 6)) (C := RX0) (T := TX0) (N := 14) hx hb htu hinX0 hown hK hP 0 rfl rfl 5 (by decide) k_1_74 (fun _ h9 => h9) rfl dX0_putOperand_11 ?_
    refine lv_aload_n hx hb dX0_putOperand_14 rfl (lv_at hl 0 rfl) ?_
    refine va_get (D := g.1) (ci := 0) (fs := fcC bC vC) (v := .int (vC.1 1)) (C := RX0) (T := TX0) (N := 14) hx hb htu hinX0 hown hK hP 0 rfl rfl 1 (by decide) k_1_63 (fun _ h9 => h9) rfl dX0_putOperand_15 ?_
    obtain ⟨h1, hf⟩ := gd_in hf
    refine va_iald (D := g.1) (f := (vC.2.1 5)) hx hb hK hP 2 0 rfl rfl h1 dX0_putOperand_18 ?_
    refine lv_iadd hx hb dX0_putOperand_19 ?_
    refine lv_iload_n hx hb dX0_putOperand_20 rfl (lv_at hl 1 rfl) ?_
    obtain ⟨h2, hf⟩ := gd_in hf
    refine va_iast (D := g.1) (f := (vC.2.1 6)) hx hb hK hP hD hS 3 0 rfl rfl h2 dX0_putOperand_21 (fun H locs hP hD hS => ?_)
    obtain ⟨vC_3, evC_3⟩ : ∃ z, z = sI vC 6 ((((vC.1 1) * (4 : Int32)) + (vC.2.1 5 ((vC.1 1)).toNatClampNeg))).toNatClampNeg x1 := ⟨_, rfl⟩
    have hf := bn_at hf evC_3
    have hP : va_P g.1 vwCl (cC g bC vC_3) H := by rw [evC_3]; exact hP
    have hD : va_D A (cC g bC vC_3) := by rw [evC_3]; exact hD
    refine lv_aload_n hx hb dX0_putOperand_22 rfl (lv_at hl 0 rfl) ?_
    refine va_get (D := g.1) (ci := 0) (fs := fcC bC vC_3) (v := .ref (bC 6)) (C := RX0) (T := TX0) (N := 14) hx hb htu hinX0 hown hK hP 0 rfl rfl 5 (by decide) k_1_74 (fun _ h9 => h9) rfl dX0_putOperand_23 ?_
    refine lv_aload_n hx hb dX0_putOperand_26 rfl (lv_at hl 0 rfl) ?_
    refine va_get (D := g.1) (ci := 0) (fs := fcC bC vC_3) (v := .int (vC_3.1 1)) (C := RX0) (T := TX0) (N := 14) hx hb htu hinX0 hown hK hP 0 rfl rfl 1 (by decide) k_1_63 (fun _ h9 => h9) rfl dX0_putOperand_27 ?_
    refine lv_dup2_11 hx hb dX0_putOperand_30 rfl rfl ?_
    obtain ⟨h4, hf⟩ := gd_in hf
    refine va_iald (D := g.1) (f := (vC_3.2.1 5)) hx hb hK hP 2 0 rfl rfl h4 dX0_putOperand_31 ?_
    refine lv_iconst (v := (1 : Int32)) hx hb dX0_putOperand_32 (by decide) ?_
    refine lv_iadd hx hb dX0_putOperand_33 ?_
    obtain ⟨h5, hf⟩ := gd_in hf
    refine va_iast (D := g.1) (f := (vC_3.2.1 5)) hx hb hK hP hD hS 2 0 rfl rfl h5 dX0_putOperand_34 (fun H locs hP hD hS => ?_)
    obtain ⟨vC_6, evC_6⟩ : ∃ z, z = sI vC_3 5 ((vC_3.1 1)).toNatClampNeg ((vC_3.2.1 5 ((vC_3.1 1)).toNatClampNeg) + (1 : Int32)) := ⟨_, rfl⟩
    have hf := bn_at hf evC_6
    have hP : va_P g.1 vwCl (cC g bC vC_6) H := by rw [evC_6]; exact hP
    have hD : va_D A (cC g bC vC_6) := by rw [evC_6]; exact hD
    have e7 := Option.some.inj hf
    rw [e7] at hP hD
    exact k_vret hx hb hr hlocks hK hP hD hS dX0_putOperand_35
  rw [hH, hlo] at hW
  exact hW
def f_X0_putOutput (vC : Vs) (x1 : Int32) : Option (Vs) :=
  gd (inb (vC.1 2) 6) (bn (sI vC 10 ((vC.1 2)).toNatClampNeg x1) (fun (vC_2 : Vs) => bn (sF vC_2 2 ((vC_2.1 2) + (1 : Int32))) (fun (vC_3 : Vs) => some (vC_3))))
abbrev wsX0_putOutput : List Cond := .code yX0_putOutput cX0_putOutput 2 none :: UW
abbrev rmX0_putOutput : Room := { frames := 0, cells := 0, slots := 0, locals := 0 }
set_option maxHeartbeats 4000000 in
set_option maxRecDepth 100000 in
theorem c_X0_putOutput (l : Launch) (g : Gx) (bC : Nat → Nat) (vC : Vs) (x1 : Int32) (vC1 : Vs) (hf : f_X0_putOutput vC x1 = some vC1) : CtV l yX0_putOutput wsX0_putOutput rmX0_putOutput g [.ref (bC 0), .int x1] (cC g bC vC) (cC g bC vC1) 0 0 := by
  unfold CtV
  intro sz
  refine Met.ofW (cc := cX0_putOutput) (maxL := 2) (ret := none) (by decide) rfl ?_
  intro p e s m args below meth c s₁ B hml hv
  obtain ⟨rfl, hsz, hP, hK, hD0, hG⟩ := hv
  have hx := B.exec
  have hb := B.bytes
  have hr := B.returns
  have hts := atoms_spec (ws := wsX0_putOutput) B.pre
  have hown : s.vm.findClass RX0 = some m.cls := findClass_of_methodNamed B.named
  have hlocks := B.notSynchronized
  subst hsz
  have hD := hD0.self (sz := s.heap.size)
  generalize hAe : va_A (cC g bC vC) s.heap.size = A at hD hG ⊢
  have hA : ∀ q : Nat, s.heap.size ≤ q → A q := fun q h => by rw [← hAe]; exact Or.inr h
  clear hAe hD0
  have hS : va_S A s.heap s.heap [] := va_S.rf
  have hl := lv_entry ([.ref (bC 0), .int x1]) (n := 2) (Nat.le_of_ble_eq_true rfl)
  rw [lg_entry_eq]
  generalize (lg_sl ([.ref (bC 0), .int x1]) ++ List.replicate (2 - (lg_sl ([.ref (bC 0), .int x1])).length) Slot.unset).toArray = ls at hl ⊢
  have hl : lv_has ls 2 [(0, .ref (bC 0)), (1, .int x1)] := hl
  have htu : ∀ w ∈ UW, w.before _ s = true := fun w h => hts w (List.mem_cons_of_mem _ h)
  have k_1_82 := htu _ mw_1_82
  have k_1_67 := htu _ mw_1_67
  unfold f_X0_putOutput at hf
  obtain ⟨H, hH⟩ : ∃ z, z = s.heap := ⟨_, rfl⟩
  obtain ⟨locs, hlo⟩ : ∃ z : List Loc, z = [] := ⟨_, rfl⟩
  have hS : va_S A s.heap H locs := by rw [hH, hlo]; exact hS
  rw [← hH] at hP
  have hW : W p l e (headSpec wsX0_putOutput rmX0_putOutput).room s m ([.ref (bC 0), .int x1] : List Value).toArray below meth c H locs 0 0 (MQ below (qV g A (cC g bC vC1)) ([.ref (bC 0), .int x1] : List Value).toArray s 0 0 A) (F0 m 0 ls []) := by
    refine lv_aload_n hx hb dX0_putOutput_0 rfl (lv_at hl 0 rfl) ?_
    refine va_get (D := g.1) (ci := 0) (fs := fcC bC vC) (v := .ref (bC 11)) (C := RX0) (T := TX0) (N := 14) hx hb htu hinX0 hown hK hP 0 rfl rfl 10 (by decide) k_1_82 (fun _ h9 => h9) rfl dX0_putOutput_1 ?_
    refine lv_aload_n hx hb dX0_putOutput_4 rfl (lv_at hl 0 rfl) ?_
    refine va_get (D := g.1) (ci := 0) (fs := fcC bC vC) (v := .int (vC.1 2)) (C := RX0) (T := TX0) (N := 14) hx hb htu hinX0 hown hK hP 0 rfl rfl 2 (by decide) k_1_67 (fun _ h9 => h9) rfl dX0_putOutput_5 ?_
    refine lv_iload_n hx hb dX0_putOutput_8 rfl (lv_at hl 1 rfl) ?_
    obtain ⟨h1, hf⟩ := gd_in hf
    refine va_iast (D := g.1) (f := (vC.2.1 10)) hx hb hK hP hD hS 7 0 rfl rfl h1 dX0_putOutput_9 (fun H locs hP hD hS => ?_)
    obtain ⟨vC_2, evC_2⟩ : ∃ z, z = sI vC 10 ((vC.1 2)).toNatClampNeg x1 := ⟨_, rfl⟩
    have hf := bn_at hf evC_2
    have hP : va_P g.1 vwCl (cC g bC vC_2) H := by rw [evC_2]; exact hP
    have hD : va_D A (cC g bC vC_2) := by rw [evC_2]; exact hD
    refine lv_aload_n hx hb dX0_putOutput_10 rfl (lv_at hl 0 rfl) ?_
    refine lv_dup hx hb dX0_putOutput_11 rfl ?_
    refine va_get (D := g.1) (ci := 0) (fs := fcC bC vC_2) (v := .int (vC_2.1 2)) (C := RX0) (T := TX0) (N := 14) hx hb htu hinX0 hown hK hP 0 rfl rfl 2 (by decide) k_1_67 (fun _ h9 => h9) rfl dX0_putOutput_12 ?_
    refine lv_iconst (v := (1 : Int32)) hx hb dX0_putOutput_15 (by decide) ?_
    refine lv_iadd hx hb dX0_putOutput_16 ?_
    refine va_put (D := g.1) (ci := 0) (fs := fcC bC vC_2) (v := .int ((vC_2.1 2) + (1 : Int32))) (ty := .int) (C := RX0) (T := TX0) (N := 14) hx hb htu hinX0 tyX0 tyX0_ok nmX0 hown hK hP hD hS 0 rfl rfl 2 (by decide) k_1_67 (fun _ h9 => h9) rfl (by decide +kernel) rfl rfl (Nat.le_of_ble_eq_true rfl) dX0_putOutput_17 (fun H locs hP hD hS => ?_)
    obtain ⟨vC_3, evC_3⟩ : ∃ z, z = sF vC_2 2 ((vC_2.1 2) + (1 : Int32)) := ⟨_, rfl⟩
    have hf := bn_at hf evC_3
    have hP : va_P g.1 vwCl (cC g bC vC_3) H := by rw [evC_3]; exact hP
    have hD : va_D A (cC g bC vC_3) := by rw [evC_3]; exact hD
    have e4 := Option.some.inj hf
    rw [e4] at hP hD
    exact k_vret hx hb hr hlocks hK hP hD hS dX0_putOutput_20
  rw [hH, hlo] at hW
  exact hW
def f_X0_outputOf_L2 (vC : Vs) (x1 : Int32) (self2 : Int32 → Option (Int32)) (x2_1 : Int32) : Option (Int32) :=
  if (vC.1 2) ≤ x2_1 then some ((-1 : Int32)) else gd (inb x2_1 6) (if (vC.2.1 10 (x2_1).toNatClampNeg) = x1 then some (x2_1) else self2 (x2_1 + (1 : Int32)))
def f_X0_outputOf (vC : Vs) (x1 : Int32) : Option (Int32) :=
  lp (f_X0_outputOf_L2 vC x1) (fun _ => none) FU (0 : Int32)
abbrev wsX0_outputOf : List Cond := .code yX0_outputOf cX0_outputOf 3 (some .int) :: UW
abbrev rmX0_outputOf : Room := { frames := 0, cells := 0, slots := 0, locals := 0 }
set_option maxHeartbeats 4000000 in
set_option maxRecDepth 100000 in
theorem c_X0_outputOf (l : Launch) (g : Gx) (bC : Nat → Nat) (vC : Vs) (x1 : Int32) (r : Int32) (hf : f_X0_outputOf vC x1 = some r) : CtI l yX0_outputOf wsX0_outputOf rmX0_outputOf g [.ref (bC 0), .int x1] (cC g bC vC) (cC g bC vC) r 0 0 := by
  unfold CtI
  intro sz
  refine Met.ofW (cc := cX0_outputOf) (maxL := 3) (ret := (some .int)) (by decide) rfl ?_
  intro p e s m args below meth c s₁ B hml hv
  obtain ⟨rfl, hsz, hP, hK, hD0, hG⟩ := hv
  have hx := B.exec
  have hb := B.bytes
  have hr := B.returns
  have hts := atoms_spec (ws := wsX0_outputOf) B.pre
  have hown : s.vm.findClass RX0 = some m.cls := findClass_of_methodNamed B.named
  have hlocks := B.notSynchronized
  subst hsz
  have hD := hD0.self (sz := s.heap.size)
  generalize hAe : va_A (cC g bC vC) s.heap.size = A at hD hG ⊢
  have hA : ∀ q : Nat, s.heap.size ≤ q → A q := fun q h => by rw [← hAe]; exact Or.inr h
  clear hAe hD0
  have hS : va_S A s.heap s.heap [] := va_S.rf
  have hl := lv_entry ([.ref (bC 0), .int x1]) (n := 3) (Nat.le_of_ble_eq_true rfl)
  rw [lg_entry_eq]
  generalize (lg_sl ([.ref (bC 0), .int x1]) ++ List.replicate (3 - (lg_sl ([.ref (bC 0), .int x1])).length) Slot.unset).toArray = ls at hl ⊢
  have hl : lv_has ls 3 [(0, .ref (bC 0)), (1, .int x1)] := hl
  have htu : ∀ w ∈ UW, w.before _ s = true := fun w h => hts w (List.mem_cons_of_mem _ h)
  have k_1_67 := htu _ mw_1_67
  have k_1_82 := htu _ mw_1_82
  unfold f_X0_outputOf at hf
  obtain ⟨H, hH⟩ : ∃ z, z = s.heap := ⟨_, rfl⟩
  obtain ⟨locs, hlo⟩ : ∃ z : List Loc, z = [] := ⟨_, rfl⟩
  have hS : va_S A s.heap H locs := by rw [hH, hlo]; exact hS
  rw [← hH] at hP
  have hW : W p l e (headSpec wsX0_outputOf rmX0_outputOf).room s m ([.ref (bC 0), .int x1] : List Value).toArray below meth c H locs 0 0 (MQ below (qI g A (cC g bC vC) r) ([.ref (bC 0), .int x1] : List Value).toArray s 0 0 A) (F0 m 0 ls []) := by
    refine lv_iconst (v := (0 : Int32)) hx hb dX0_outputOf_0 (by decide) ?_
    refine lv_istore_n (lv' := [(2, .int (0 : Int32)), (0, .ref (bC 0)), (1, .int x1)]) hx hb dX0_outputOf_1 rfl hl (by decide) rfl (fun ls hl => ?_)
    have hL3 : ∀ (x2_1 : Int32), lp (f_X0_outputOf_L2 vC x1) (fun _ => none) FU x2_1 = some r → ∀ (H : Heap) (locs : List Loc), va_P g.1 vwCl (cC g bC vC) H → va_D A (cC g bC vC) → va_S A s.heap H locs → ∀ ls : Array Slot, lv_has ls 3 [(0, .ref (bC 0)), (1, .int x1), (2, .int x2_1)] → W p l e (headSpec wsX0_outputOf rmX0_outputOf).room s m ([.ref (bC 0), .int x1] : List Value).toArray below meth c H locs 0 0 (MQ below (qI g A (cC g bC vC) r) ([.ref (bC 0), .int x1] : List Value).toArray s 0 0 A) (F0 m 2 ls []) := by
      refine lp_ind (T := Int32 → Option (Int32)) (fun self2 => ∀ (x2_1 : Int32), self2 x2_1 = some r → ∀ (H : Heap) (locs : List Loc), va_P g.1 vwCl (cC g bC vC) H → va_D A (cC g bC vC) → va_S A s.heap H locs → ∀ ls : Array Slot, lv_has ls 3 [(0, .ref (bC 0)), (1, .int x1), (2, .int x2_1)] → W p l e (headSpec wsX0_outputOf rmX0_outputOf).room s m ([.ref (bC 0), .int x1] : List Value).toArray below meth c H locs 0 0 (MQ below (qI g A (cC g bC vC) r) ([.ref (bC 0), .int x1] : List Value).toArray s 0 0 A) (F0 m 2 ls [])) ?_ ?_ FU
      · intro x2_1 hf; cases hf
      · intro self2 ih4 x2_1 hf H locs hP hD hS ls hl
        unfold f_X0_outputOf_L2 at hf
        refine lv_iload_n hx hb dX0_outputOf_2 rfl (lv_at hl 2 rfl) ?_
        refine lv_aload_n hx hb dX0_outputOf_3 rfl (lv_at hl 0 rfl) ?_
        refine va_get (D := g.1) (ci := 0) (fs := fcC bC vC) (v := .int (vC.1 2)) (C := RX0) (T := TX0) (N := 14) hx hb htu hinX0 hown hK hP 0 rfl rfl 2 (by decide) k_1_67 (fun _ h9 => h9) rfl dX0_outputOf_4 ?_
        refine lv_icmp_ge (tgt := 28) hx hb dX0_outputOf_7 (by decide) (fun c5 => ?_) (fun c5 => ?_)
        · have hf := it_t hf c5
          refine lv_iconst (v := (-1 : Int32)) hx hb dX0_outputOf_28 (by decide) ?_
          have e6 := Option.some.inj hf
          exact k_iret hx hb hr hlocks hK hP hD hS e6 dX0_outputOf_29
        · have hf := it_f hf c5
          refine lv_aload_n hx hb dX0_outputOf_10 rfl (lv_at hl 0 rfl) ?_
          refine va_get (D := g.1) (ci := 0) (fs := fcC bC vC) (v := .ref (bC 11)) (C := RX0) (T := TX0) (N := 14) hx hb htu hinX0 hown hK hP 0 rfl rfl 10 (by decide) k_1_82 (fun _ h9 => h9) rfl dX0_outputOf_11 ?_
          refine lv_iload_n hx hb dX0_outputOf_14 rfl (lv_at hl 2 rfl) ?_
          obtain ⟨h7, hf⟩ := gd_in hf
          refine va_iald (D := g.1) (f := (vC.2.1 10)) hx hb hK hP 7 0 rfl rfl h7 dX0_outputOf_15 ?_
          refine lv_iload_n hx hb dX0_outputOf_16 rfl (lv_at hl 1 rfl) ?_
          refine lv_icmp_ne (tgt := 22) hx hb dX0_outputOf_17 (by decide) (fun c8 => ?_) (fun c8 => ?_)
          · have hf := it_f hf c8
            refine lv_iinc (v := (x2_1 + (1 : Int32))) (lv' := [(2, .int (x2_1 + (1 : Int32))), (0, .ref (bC 0)), (1, .int x1)]) hx hb dX0_outputOf_22 hl (k := 2) rfl rfl (by decide) rfl (fun ls hl => ?_)
            refine lv_goto (tgt := 2) hx hb dX0_outputOf_25 (by decide) ?_
            exact ih4 (x2_1 + (1 : Int32)) hf H locs hP hD hS _ (lv_sub hl [1, 2, 0] rfl)
          · have hf := it_t hf c8
            refine lv_iload_n hx hb dX0_outputOf_20 rfl (lv_at hl 2 rfl) ?_
            have e9 := Option.some.inj hf
            exact k_iret hx hb hr hlocks hK hP hD hS e9 dX0_outputOf_21
    exact hL3 (0 : Int32) hf H locs hP hD hS _ (lv_sub hl [1, 2, 0] rfl)
  rw [hH, hlo] at hW
  exact hW
def f_X0_putBridge (vC : Vs) (x1 : Int32) (x2 : Int32) (x3 : Int32) : Option (Vs) :=
  gd (inb (vC.1 3) 8) (bn (sI vC 13 ((vC.1 3)).toNatClampNeg x1) (fun (vC_2 : Vs) => gd (inb (vC_2.1 3) 8) (bn (sI vC_2 11 ((vC_2.1 3)).toNatClampNeg x2) (fun (vC_4 : Vs) => gd (inb (vC_4.1 3) 8) (bn (sI vC_4 12 ((vC_4.1 3)).toNatClampNeg x3) (fun (vC_6 : Vs) => bn (sF vC_6 3 ((vC_6.1 3) + (1 : Int32))) (fun (vC_7 : Vs) => some (vC_7))))))))
abbrev wsX0_putBridge : List Cond := .code yX0_putBridge cX0_putBridge 4 none :: UW
abbrev rmX0_putBridge : Room := { frames := 0, cells := 0, slots := 0, locals := 0 }
set_option maxHeartbeats 4000000 in
set_option maxRecDepth 100000 in
theorem c_X0_putBridge (l : Launch) (g : Gx) (bC : Nat → Nat) (vC : Vs) (x1 : Int32) (x2 : Int32) (x3 : Int32) (vC1 : Vs) (hf : f_X0_putBridge vC x1 x2 x3 = some vC1) : CtV l yX0_putBridge wsX0_putBridge rmX0_putBridge g [.ref (bC 0), .int x1, .int x2, .int x3] (cC g bC vC) (cC g bC vC1) 0 0 := by
  unfold CtV
  intro sz
  refine Met.ofW (cc := cX0_putBridge) (maxL := 4) (ret := none) (by decide) rfl ?_
  intro p e s m args below meth c s₁ B hml hv
  obtain ⟨rfl, hsz, hP, hK, hD0, hG⟩ := hv
  have hx := B.exec
  have hb := B.bytes
  have hr := B.returns
  have hts := atoms_spec (ws := wsX0_putBridge) B.pre
  have hown : s.vm.findClass RX0 = some m.cls := findClass_of_methodNamed B.named
  have hlocks := B.notSynchronized
  subst hsz
  have hD := hD0.self (sz := s.heap.size)
  generalize hAe : va_A (cC g bC vC) s.heap.size = A at hD hG ⊢
  have hA : ∀ q : Nat, s.heap.size ≤ q → A q := fun q h => by rw [← hAe]; exact Or.inr h
  clear hAe hD0
  have hS : va_S A s.heap s.heap [] := va_S.rf
  have hl := lv_entry ([.ref (bC 0), .int x1, .int x2, .int x3]) (n := 4) (Nat.le_of_ble_eq_true rfl)
  rw [lg_entry_eq]
  generalize (lg_sl ([.ref (bC 0), .int x1, .int x2, .int x3]) ++ List.replicate (4 - (lg_sl ([.ref (bC 0), .int x1, .int x2, .int x3])).length) Slot.unset).toArray = ls at hl ⊢
  have hl : lv_has ls 4 [(0, .ref (bC 0)), (1, .int x1), (2, .int x2), (3, .int x3)] := hl
  have htu : ∀ w ∈ UW, w.before _ s = true := fun w h => hts w (List.mem_cons_of_mem _ h)
  have k_1_88 := htu _ mw_1_88
  have k_1_70 := htu _ mw_1_70
  have k_1_84 := htu _ mw_1_84
  have k_1_86 := htu _ mw_1_86
  unfold f_X0_putBridge at hf
  obtain ⟨H, hH⟩ : ∃ z, z = s.heap := ⟨_, rfl⟩
  obtain ⟨locs, hlo⟩ : ∃ z : List Loc, z = [] := ⟨_, rfl⟩
  have hS : va_S A s.heap H locs := by rw [hH, hlo]; exact hS
  rw [← hH] at hP
  have hW : W p l e (headSpec wsX0_putBridge rmX0_putBridge).room s m ([.ref (bC 0), .int x1, .int x2, .int x3] : List Value).toArray below meth c H locs 0 0 (MQ below (qV g A (cC g bC vC1)) ([.ref (bC 0), .int x1, .int x2, .int x3] : List Value).toArray s 0 0 A) (F0 m 0 ls []) := by
    refine lv_aload_n hx hb dX0_putBridge_0 rfl (lv_at hl 0 rfl) ?_
    refine va_get (D := g.1) (ci := 0) (fs := fcC bC vC) (v := .ref (bC 14)) (C := RX0) (T := TX0) (N := 14) hx hb htu hinX0 hown hK hP 0 rfl rfl 13 (by decide) k_1_88 (fun _ h9 => h9) rfl dX0_putBridge_1 ?_
    refine lv_aload_n hx hb dX0_putBridge_4 rfl (lv_at hl 0 rfl) ?_
    refine va_get (D := g.1) (ci := 0) (fs := fcC bC vC) (v := .int (vC.1 3)) (C := RX0) (T := TX0) (N := 14) hx hb htu hinX0 hown hK hP 0 rfl rfl 3 (by decide) k_1_70 (fun _ h9 => h9) rfl dX0_putBridge_5 ?_
    refine lv_iload_n hx hb dX0_putBridge_8 rfl (lv_at hl 1 rfl) ?_
    obtain ⟨h1, hf⟩ := gd_in hf
    refine va_iast (D := g.1) (f := (vC.2.1 13)) hx hb hK hP hD hS 10 0 rfl rfl h1 dX0_putBridge_9 (fun H locs hP hD hS => ?_)
    obtain ⟨vC_2, evC_2⟩ : ∃ z, z = sI vC 13 ((vC.1 3)).toNatClampNeg x1 := ⟨_, rfl⟩
    have hf := bn_at hf evC_2
    have hP : va_P g.1 vwCl (cC g bC vC_2) H := by rw [evC_2]; exact hP
    have hD : va_D A (cC g bC vC_2) := by rw [evC_2]; exact hD
    refine lv_aload_n hx hb dX0_putBridge_10 rfl (lv_at hl 0 rfl) ?_
    refine va_get (D := g.1) (ci := 0) (fs := fcC bC vC_2) (v := .ref (bC 12)) (C := RX0) (T := TX0) (N := 14) hx hb htu hinX0 hown hK hP 0 rfl rfl 11 (by decide) k_1_84 (fun _ h9 => h9) rfl dX0_putBridge_11 ?_
    refine lv_aload_n hx hb dX0_putBridge_14 rfl (lv_at hl 0 rfl) ?_
    refine va_get (D := g.1) (ci := 0) (fs := fcC bC vC_2) (v := .int (vC_2.1 3)) (C := RX0) (T := TX0) (N := 14) hx hb htu hinX0 hown hK hP 0 rfl rfl 3 (by decide) k_1_70 (fun _ h9 => h9) rfl dX0_putBridge_15 ?_
    refine lv_iload_n hx hb dX0_putBridge_18 rfl (lv_at hl 2 rfl) ?_
    obtain ⟨h3, hf⟩ := gd_in hf
    refine va_iast (D := g.1) (f := (vC_2.2.1 11)) hx hb hK hP hD hS 8 0 rfl rfl h3 dX0_putBridge_19 (fun H locs hP hD hS => ?_)
    obtain ⟨vC_4, evC_4⟩ : ∃ z, z = sI vC_2 11 ((vC_2.1 3)).toNatClampNeg x2 := ⟨_, rfl⟩
    have hf := bn_at hf evC_4
    have hP : va_P g.1 vwCl (cC g bC vC_4) H := by rw [evC_4]; exact hP
    have hD : va_D A (cC g bC vC_4) := by rw [evC_4]; exact hD
    refine lv_aload_n hx hb dX0_putBridge_20 rfl (lv_at hl 0 rfl) ?_
    refine va_get (D := g.1) (ci := 0) (fs := fcC bC vC_4) (v := .ref (bC 13)) (C := RX0) (T := TX0) (N := 14) hx hb htu hinX0 hown hK hP 0 rfl rfl 12 (by decide) k_1_86 (fun _ h9 => h9) rfl dX0_putBridge_21 ?_
    refine lv_aload_n hx hb dX0_putBridge_24 rfl (lv_at hl 0 rfl) ?_
    refine va_get (D := g.1) (ci := 0) (fs := fcC bC vC_4) (v := .int (vC_4.1 3)) (C := RX0) (T := TX0) (N := 14) hx hb htu hinX0 hown hK hP 0 rfl rfl 3 (by decide) k_1_70 (fun _ h9 => h9) rfl dX0_putBridge_25 ?_
    refine lv_iload_n hx hb dX0_putBridge_28 rfl (lv_at hl 3 rfl) ?_
    obtain ⟨h5, hf⟩ := gd_in hf
    refine va_iast (D := g.1) (f := (vC_4.2.1 12)) hx hb hK hP hD hS 9 0 rfl rfl h5 dX0_putBridge_29 (fun H locs hP hD hS => ?_)
    obtain ⟨vC_6, evC_6⟩ : ∃ z, z = sI vC_4 12 ((vC_4.1 3)).toNatClampNeg x3 := ⟨_, rfl⟩
    have hf := bn_at hf evC_6
    have hP : va_P g.1 vwCl (cC g bC vC_6) H := by rw [evC_6]; exact hP
    have hD : va_D A (cC g bC vC_6) := by rw [evC_6]; exact hD
    refine lv_aload_n hx hb dX0_putBridge_30 rfl (lv_at hl 0 rfl) ?_
    refine lv_dup hx hb dX0_putBridge_31 rfl ?_
    refine va_get (D := g.1) (ci := 0) (fs := fcC bC vC_6) (v := .int (vC_6.1 3)) (C := RX0) (T := TX0) (N := 14) hx hb htu hinX0 hown hK hP 0 rfl rfl 3 (by decide) k_1_70 (fun _ h9 => h9) rfl dX0_putBridge_32 ?_
    refine lv_iconst (v := (1 : Int32)) hx hb dX0_putBridge_35 (by decide) ?_
    refine lv_iadd hx hb dX0_putBridge_36 ?_
    refine va_put (D := g.1) (ci := 0) (fs := fcC bC vC_6) (v := .int ((vC_6.1 3) + (1 : Int32))) (ty := .int) (C := RX0) (T := TX0) (N := 14) hx hb htu hinX0 tyX0 tyX0_ok nmX0 hown hK hP hD hS 0 rfl rfl 3 (by decide) k_1_70 (fun _ h9 => h9) rfl (by decide +kernel) rfl rfl (Nat.le_of_ble_eq_true rfl) dX0_putBridge_37 (fun H locs hP hD hS => ?_)
    obtain ⟨vC_7, evC_7⟩ : ∃ z, z = sF vC_6 3 ((vC_6.1 3) + (1 : Int32)) := ⟨_, rfl⟩
    have hf := bn_at hf evC_7
    have hP : va_P g.1 vwCl (cC g bC vC_7) H := by rw [evC_7]; exact hP
    have hD : va_D A (cC g bC vC_7) := by rw [evC_7]; exact hD
    have e8 := Option.some.inj hf
    rw [e8] at hP hD
    exact k_vret hx hb hr hlocks hK hP hD hS dX0_putBridge_40
  rw [hH, hlo] at hW
  exact hW
def f_X0_wouldLoop (vC : Vs) (x1 : Int32) (x2 : Int32) : Option (Int32) :=
  jn (fun (t1 : Int32) => gd (isB t1) (some (t1))) (fun k2 => jn (k2 (1 : Int32)) (fun k7 => if x1 = x2 then k7 else gd (inb x1 24) (o1 (f_X0_hasBit (vC.2.1 9 (x1).toNatClampNeg) x2) (fun (r12 : Int32) => if r12 = 0 then gd (inb x2 24) (o1 (f_X0_hasBit (vC.2.1 9 (x2).toNatClampNeg) x1) (fun (r16 : Int32) => if r16 = 0 then k2 (0 : Int32) else k7)) else k7))))
abbrev wsX0_wouldLoop : List Cond := .code yX0_wouldLoop cX0_wouldLoop 3 (some .boolean) :: UW
abbrev rmX0_wouldLoop : Room := { frames := 1, cells := 0, slots := 0, locals := 21 }
set_option maxHeartbeats 4000000 in
set_option maxRecDepth 100000 in
theorem c_X0_wouldLoop (l : Launch) (g : Gx) (bC : Nat → Nat) (vC : Vs) (x1 : Int32) (x2 : Int32) (r : Int32) (hf : f_X0_wouldLoop vC x1 x2 = some r) : CtI l yX0_wouldLoop wsX0_wouldLoop rmX0_wouldLoop g [.ref (bC 0), .int x1, .int x2] (cC g bC vC) (cC g bC vC) r 0 0 := by
  unfold CtI
  intro sz
  refine Met.ofW (cc := cX0_wouldLoop) (maxL := 3) (ret := (some .boolean)) (by decide) rfl ?_
  intro p e s m args below meth c s₁ B hml hv
  obtain ⟨rfl, hsz, hP, hK, hD0, hG⟩ := hv
  have hx := B.exec
  have hb := B.bytes
  have hr := B.returns
  have hts := atoms_spec (ws := wsX0_wouldLoop) B.pre
  have hown : s.vm.findClass RX0 = some m.cls := findClass_of_methodNamed B.named
  have hlocks := B.notSynchronized
  subst hsz
  have hD := hD0.self (sz := s.heap.size)
  generalize hAe : va_A (cC g bC vC) s.heap.size = A at hD hG ⊢
  have hA : ∀ q : Nat, s.heap.size ≤ q → A q := fun q h => by rw [← hAe]; exact Or.inr h
  clear hAe hD0
  have hS : va_S A s.heap s.heap [] := va_S.rf
  have hl := lv_entry ([.ref (bC 0), .int x1, .int x2]) (n := 3) (Nat.le_of_ble_eq_true rfl)
  rw [lg_entry_eq]
  generalize (lg_sl ([.ref (bC 0), .int x1, .int x2]) ++ List.replicate (3 - (lg_sl ([.ref (bC 0), .int x1, .int x2])).length) Slot.unset).toArray = ls at hl ⊢
  have hl : lv_has ls 3 [(0, .ref (bC 0)), (1, .int x1), (2, .int x2)] := hl
  have htu : ∀ w ∈ UW, w.before _ s = true := fun w h => hts w (List.mem_cons_of_mem _ h)
  have k_1_80 := htu _ mw_1_80
  unfold f_X0_wouldLoop at hf
  obtain ⟨H, hH⟩ : ∃ z, z = s.heap := ⟨_, rfl⟩
  obtain ⟨locs, hlo⟩ : ∃ z : List Loc, z = [] := ⟨_, rfl⟩
  have hS : va_S A s.heap H locs := by rw [hH, hlo]; exact hS
  rw [← hH] at hP
  have hW : W p l e (headSpec wsX0_wouldLoop rmX0_wouldLoop).room s m ([.ref (bC 0), .int x1, .int x2] : List Value).toArray below meth c H locs 0 0 (MQ below (qI g A (cC g bC vC) r) ([.ref (bC 0), .int x1, .int x2] : List Value).toArray s 0 0 A) (F0 m 0 ls []) := by
    refine lv_iload_n hx hb dX0_wouldLoop_0 rfl (lv_at hl 1 rfl) ?_
    refine lv_iload_n hx hb dX0_wouldLoop_1 rfl (lv_at hl 2 rfl) ?_
    obtain ⟨k2, hk6, hf⟩ := jn_at hf
    have hJ3 : ∀ (t1 : Int32), k2 t1 = some r → ∀ (H : Heap) (locs : List Loc), va_P g.1 vwCl (cC g bC vC) H → va_D A (cC g bC vC) → va_S A s.heap H locs → ∀ ls : Array Slot, lv_has ls 3 [] → W p l e (headSpec wsX0_wouldLoop rmX0_wouldLoop).room s m ([.ref (bC 0), .int x1, .int x2] : List Value).toArray below meth c H locs 0 0 (MQ below (qI g A (cC g bC vC) r) ([.ref (bC 0), .int x1, .int x2] : List Value).toArray s 0 0 A) (F0 m 36 ls [.int t1]) := by
      intro t1 hf H locs hP hD hS ls hl
      rw [hk6] at hf
      dsimp only at hf
      clear hk6
      obtain ⟨h4, hf⟩ := gd_isB hf
      have e5 := Option.some.inj hf
      exact k_zret hx hb hr hlocks hK hP hD hS e5 h4 dX0_wouldLoop_36
    obtain ⟨k7, hk9, hf⟩ := jn_at hf
    have hJ8 : k7 = some r → ∀ (H : Heap) (locs : List Loc), va_P g.1 vwCl (cC g bC vC) H → va_D A (cC g bC vC) → va_S A s.heap H locs → ∀ ls : Array Slot, lv_has ls 3 [] → W p l e (headSpec wsX0_wouldLoop rmX0_wouldLoop).room s m ([.ref (bC 0), .int x1, .int x2] : List Value).toArray below meth c H locs 0 0 (MQ below (qI g A (cC g bC vC) r) ([.ref (bC 0), .int x1, .int x2] : List Value).toArray s 0 0 A) (F0 m 31 ls []) := by
      intro hf H locs hP hD hS ls hl
      rw [hk9] at hf
      clear hk9
      refine lv_iconst (v := (1 : Int32)) hx hb dX0_wouldLoop_31 (by decide) ?_
      refine lv_goto (tgt := 36) hx hb dX0_wouldLoop_32 (by decide) ?_
      exact hJ3 (1 : Int32) hf H locs hP hD hS _ (lv_sub hl [] rfl)
    refine lv_icmp_eq (tgt := 31) hx hb dX0_wouldLoop_2 (by decide) (fun c10 => ?_) (fun c10 => ?_)
    · have hf := it_t hf c10
      exact hJ8 hf H locs hP hD hS _ (lv_sub hl [] rfl)
    · have hf := it_f hf c10
      refine lv_aload_n hx hb dX0_wouldLoop_5 rfl (lv_at hl 0 rfl) ?_
      refine va_get (D := g.1) (ci := 0) (fs := fcC bC vC) (v := .ref (bC 10)) (C := RX0) (T := TX0) (N := 14) hx hb htu hinX0 hown hK hP 0 rfl rfl 9 (by decide) k_1_80 (fun _ h9 => h9) rfl dX0_wouldLoop_6 ?_
      refine lv_iload_n hx hb dX0_wouldLoop_9 rfl (lv_at hl 1 rfl) ?_
      obtain ⟨h11, hf⟩ := gd_in hf
      refine va_iald (D := g.1) (f := (vC.2.1 9)) hx hb hK hP 6 0 rfl rfl h11 dX0_wouldLoop_10 ?_
      refine lv_iload_n hx hb dX0_wouldLoop_11 rfl (lv_at hl 2 rfl) ?_
      obtain ⟨r12, hg13, hf⟩ := o1_at hf
      refine k_si0 ⟨hx, hb, hml, hown, htu⟩ hK hP hD hS hA hG (c_X0_hasBit l g (vC.2.1 9 (x1).toNatClampNeg) x2 r12 hg13) (va_cwS 2 htu (gU_S mw_4_98 hcX0_hasBit) rfl rfl rfl hdX0_hasBit ⟨Nat.le_of_ble_eq_true rfl, Nat.le_of_ble_eq_true rfl⟩) (As := [.int (vC.2.1 9 (x1).toNatClampNeg), .int x2]) (rest := []) rfl rfl hl.1 (Nat.le_of_ble_eq_true rfl) dX0_wouldLoop_12 (k1 := 0) (n1 := 0) rfl rfl ⟨Nat.zero_le _, Nat.zero_le _⟩ (fun H locs hP hD hS => ?_)
      refine lv_if_ne (tgt := 31) hx hb dX0_wouldLoop_15 (by decide) (fun c14 => ?_) (fun c14 => ?_)
      · have hf := it_f hf c14
        exact hJ8 hf H locs hP hD hS _ (lv_sub hl [] rfl)
      · have hf := it_t hf c14
        refine lv_aload_n hx hb dX0_wouldLoop_18 rfl (lv_at hl 0 rfl) ?_
        refine va_get (D := g.1) (ci := 0) (fs := fcC bC vC) (v := .ref (bC 10)) (C := RX0) (T := TX0) (N := 14) hx hb htu hinX0 hown hK hP 0 rfl rfl 9 (by decide) k_1_80 (fun _ h9 => h9) rfl dX0_wouldLoop_19 ?_
        refine lv_iload_n hx hb dX0_wouldLoop_22 rfl (lv_at hl 2 rfl) ?_
        obtain ⟨h15, hf⟩ := gd_in hf
        refine va_iald (D := g.1) (f := (vC.2.1 9)) hx hb hK hP 6 0 rfl rfl h15 dX0_wouldLoop_23 ?_
        refine lv_iload_n hx hb dX0_wouldLoop_24 rfl (lv_at hl 1 rfl) ?_
        obtain ⟨r16, hg17, hf⟩ := o1_at hf
        refine k_si0 ⟨hx, hb, hml, hown, htu⟩ hK hP hD hS hA hG (c_X0_hasBit l g (vC.2.1 9 (x2).toNatClampNeg) x1 r16 hg17) (va_cwS 2 htu (gU_S mw_4_98 hcX0_hasBit) rfl rfl rfl hdX0_hasBit ⟨Nat.le_of_ble_eq_true rfl, Nat.le_of_ble_eq_true rfl⟩) (As := [.int (vC.2.1 9 (x2).toNatClampNeg), .int x1]) (rest := []) rfl rfl hl.1 (Nat.le_of_ble_eq_true rfl) dX0_wouldLoop_25 (k1 := 0) (n1 := 0) rfl rfl ⟨Nat.zero_le _, Nat.zero_le _⟩ (fun H locs hP hD hS => ?_)
        refine lv_if_eq (tgt := 35) hx hb dX0_wouldLoop_28 (by decide) (fun c18 => ?_) (fun c18 => ?_)
        · have hf := it_t hf c18
          refine lv_iconst (v := (0 : Int32)) hx hb dX0_wouldLoop_35 (by decide) ?_
          exact hJ3 (0 : Int32) hf H locs hP hD hS _ (lv_sub hl [] rfl)
        · have hf := it_f hf c18
          exact hJ8 hf H locs hP hD hS _ (lv_sub hl [] rfl)
  rw [hH, hlo] at hW
  exact hW
