abbrev wsX0_init : List Cond := .code yX0_init cX0_init 1 none :: UW
abbrev rmX0_init : Room := { frames := 1, cells := 10, slots := 246, locals := 22 }
set_option maxHeartbeats 4000000 in
set_option maxRecDepth 100000 in
theorem c_X0_init (l : Launch) (g : Gx) (a0 : Nat) : CtN l yX0_init wsX0_init rmX0_init g [.ref a0] [(a0, .inr (0, [.int 0, .int 0, .int 0, .int 0, .null, .null, .null, .null, .null, .null, .null, .null, .null, .null]))] (S := Nat → Nat) (fun (b : Nat → Nat) => cC g b cV1) (fun (b : Nat → Nat) => b 0 = a0) 10 246 := by
  unfold CtN
  intro sz
  refine Met.ofW (cc := cX0_init) (maxL := 1) (ret := none) (by decide) rfl ?_
  intro p e s m args below meth c s₁ B hml hv
  obtain ⟨rfl, hsz, hP, hK, hD0, hG⟩ := hv
  have hx := B.exec
  have hb := B.bytes
  have hr := B.returns
  have hts := atoms_spec (ws := wsX0_init) B.pre
  have hown : s.vm.findClass RX0 = some m.cls := findClass_of_methodNamed B.named
  have hlocks := B.notSynchronized
  have hin : meth.name = "<init>" := (name_of_methodNamed B.named B.method).1
  subst hsz
  have hD := hD0.self (sz := s.heap.size)
  generalize hAe : va_A [(a0, .inr (0, [.int 0, .int 0, .int 0, .int 0, .null, .null, .null, .null, .null, .null, .null, .null, .null, .null]))] s.heap.size = A at hD hG ⊢
  have hA : ∀ q : Nat, s.heap.size ≤ q → A q := fun q h => by rw [← hAe]; exact Or.inr h
  clear hAe hD0
  have hS : va_S A s.heap s.heap [] := va_S.rf
  have hl := lv_entry ([.ref a0]) (n := 1) (Nat.le_of_ble_eq_true rfl)
  rw [lg_entry_eq]
  generalize (lg_sl ([.ref a0]) ++ List.replicate (1 - (lg_sl ([.ref a0])).length) Slot.unset).toArray = ls at hl ⊢
  have hl : lv_has ls 1 [(0, .ref a0)] := hl
  have htu : ∀ w ∈ UW, w.before _ s = true := fun w h => hts w (List.mem_cons_of_mem _ h)
  have k_1_54 := htu _ mw_1_54
  have k_1_119 := htu _ mw_1_119
  have k_1_72 := htu _ mw_1_72
  have k_1_74 := htu _ mw_1_74
  have k_1_76 := htu _ mw_1_76
  have k_1_78 := htu _ mw_1_78
  have k_1_79 := htu _ mw_1_79
  have k_1_80 := htu _ mw_1_80
  have k_1_82 := htu _ mw_1_82
  have k_1_84 := htu _ mw_1_84
  have k_1_86 := htu _ mw_1_86
  have k_1_88 := htu _ mw_1_88
  obtain ⟨H, hH⟩ : ∃ z, z = s.heap := ⟨_, rfl⟩
  obtain ⟨locs, hlo⟩ : ∃ z : List Loc, z = [] := ⟨_, rfl⟩
  have hS : va_S A s.heap H locs := by rw [hH, hlo]; exact hS
  rw [← hH] at hP
  have hW : W p l e (headSpec wsX0_init rmX0_init).room s m ([.ref a0] : List Value).toArray below meth c H locs 0 0 (MQ below (va_Qv (fun (b : Nat → Nat) => b 0 = a0) (fun (u : Nat → Nat) => wE g A ((fun (b : Nat → Nat) => cC g b cV1) u)) A) ([.ref a0] : List Value).toArray s 10 246 A) (F0 m 0 ls []) := by
    refine lv_aload_n hx hb dX0_init_0 rfl (lv_at hl 0 rfl) ?_
    refine W.objInit hx hb hown k_1_54 (htu _ mw_1_35) (htu _ mw_1_36) rfl (by rw [hml]; exact hl.1) rfl dX0_init_1 (Nat.le_of_ble_eq_true rfl) (Nat.le_of_ble_eq_true rfl) ?_
    refine W.eq (g2 := F0 m 4 ls []) rfl ?_
    refine lv_aload_n hx hb dX0_init_4 rfl (lv_at hl 0 rfl) ?_
    refine lv_bipush (v := (24 : Int32)) hx hb dX0_init_5 (by decide) ?_
    refine k_newI (N' := 24) hx hb k_1_119 hK hP hD hS hA (by decide) (by decide) (by decide) (Nat.le_of_ble_eq_true rfl) (Nat.le_of_ble_eq_true rfl) dX0_init_7 (fun q0 H hP hD hS => ?_)
    have hP : va_P g.1 vwCl ([(a0, .inr (0, [.int 0, .int 0, .int 0, .int 0, .null, .null, .null, .null, .null, .null, .null, .null, .null, .null])), (q0, .inl (g.2.1, 24, .inl (fun _ => 0)))]) H := hP
    have hD : va_D A ([(a0, .inr (0, [.int 0, .int 0, .int 0, .int 0, .null, .null, .null, .null, .null, .null, .null, .null, .null, .null])), (q0, .inl (g.2.1, 24, .inl (fun _ => 0)))]) := hD
    refine W.widen (k := 1) (n := 24) (by omega) (by omega) ?_
    refine va_putF (D := g.1) (ci := 0) (fs := [.int 0, .int 0, .int 0, .int 0, .null, .null, .null, .null, .null, .null, .null, .null, .null, .null]) (v := .ref q0) (ty := .array .int) (C := RX0) (T := TX0) (N := 14) hx hb htu hinX0 tyX0 tyX0_ok nmX0 hown hK hP hD hS 0 rfl rfl 4 (by decide) k_1_72 (fun _ h9 => h9) rfl hin rfl (by decide +kernel) rfl rfl (Nat.le_of_ble_eq_true rfl) dX0_init_9 (fun H locs hP hD hS => ?_)
    have hP : va_P g.1 vwCl ([(a0, .inr (0, [.int 0, .int 0, .int 0, .int 0, .ref q0, .null, .null, .null, .null, .null, .null, .null, .null, .null])), (q0, .inl (g.2.1, 24, .inl (fun _ => 0)))]) H := hP
    have hD : va_D A ([(a0, .inr (0, [.int 0, .int 0, .int 0, .int 0, .ref q0, .null, .null, .null, .null, .null, .null, .null, .null, .null])), (q0, .inl (g.2.1, 24, .inl (fun _ => 0)))]) := hD
    refine lv_aload_n hx hb dX0_init_12 rfl (lv_at hl 0 rfl) ?_
    refine lv_bipush (v := (24 : Int32)) hx hb dX0_init_13 (by decide) ?_
    refine k_newI (N' := 24) hx hb k_1_119 hK hP hD hS hA (by decide) (by decide) (by decide) (Nat.le_of_ble_eq_true rfl) (Nat.le_of_ble_eq_true rfl) dX0_init_15 (fun q1 H hP hD hS => ?_)
    have hP : va_P g.1 vwCl ([(a0, .inr (0, [.int 0, .int 0, .int 0, .int 0, .ref q0, .null, .null, .null, .null, .null, .null, .null, .null, .null])), (q0, .inl (g.2.1, 24, .inl (fun _ => 0))), (q1, .inl (g.2.1, 24, .inl (fun _ => 0)))]) H := hP
    have hD : va_D A ([(a0, .inr (0, [.int 0, .int 0, .int 0, .int 0, .ref q0, .null, .null, .null, .null, .null, .null, .null, .null, .null])), (q0, .inl (g.2.1, 24, .inl (fun _ => 0))), (q1, .inl (g.2.1, 24, .inl (fun _ => 0)))]) := hD
    refine W.widen (k := 2) (n := 48) (by omega) (by omega) ?_
    refine va_putF (D := g.1) (ci := 0) (fs := [.int 0, .int 0, .int 0, .int 0, .ref q0, .null, .null, .null, .null, .null, .null, .null, .null, .null]) (v := .ref q1) (ty := .array .int) (C := RX0) (T := TX0) (N := 14) hx hb htu hinX0 tyX0 tyX0_ok nmX0 hown hK hP hD hS 0 rfl rfl 5 (by decide) k_1_74 (fun _ h9 => h9) rfl hin rfl (by decide +kernel) rfl rfl (Nat.le_of_ble_eq_true rfl) dX0_init_17 (fun H locs hP hD hS => ?_)
    have hP : va_P g.1 vwCl ([(a0, .inr (0, [.int 0, .int 0, .int 0, .int 0, .ref q0, .ref q1, .null, .null, .null, .null, .null, .null, .null, .null])), (q0, .inl (g.2.1, 24, .inl (fun _ => 0))), (q1, .inl (g.2.1, 24, .inl (fun _ => 0)))]) H := hP
    have hD : va_D A ([(a0, .inr (0, [.int 0, .int 0, .int 0, .int 0, .ref q0, .ref q1, .null, .null, .null, .null, .null, .null, .null, .null])), (q0, .inl (g.2.1, 24, .inl (fun _ => 0))), (q1, .inl (g.2.1, 24, .inl (fun _ => 0)))]) := hD
    refine lv_aload_n hx hb dX0_init_20 rfl (lv_at hl 0 rfl) ?_
    refine lv_bipush (v := (96 : Int32)) hx hb dX0_init_21 (by decide) ?_
    refine k_newI (N' := 96) hx hb k_1_119 hK hP hD hS hA (by decide) (by decide) (by decide) (Nat.le_of_ble_eq_true rfl) (Nat.le_of_ble_eq_true rfl) dX0_init_23 (fun q2 H hP hD hS => ?_)
    have hP : va_P g.1 vwCl ([(a0, .inr (0, [.int 0, .int 0, .int 0, .int 0, .ref q0, .ref q1, .null, .null, .null, .null, .null, .null, .null, .null])), (q0, .inl (g.2.1, 24, .inl (fun _ => 0))), (q1, .inl (g.2.1, 24, .inl (fun _ => 0))), (q2, .inl (g.2.1, 96, .inl (fun _ => 0)))]) H := hP
    have hD : va_D A ([(a0, .inr (0, [.int 0, .int 0, .int 0, .int 0, .ref q0, .ref q1, .null, .null, .null, .null, .null, .null, .null, .null])), (q0, .inl (g.2.1, 24, .inl (fun _ => 0))), (q1, .inl (g.2.1, 24, .inl (fun _ => 0))), (q2, .inl (g.2.1, 96, .inl (fun _ => 0)))]) := hD
    refine W.widen (k := 3) (n := 144) (by omega) (by omega) ?_
    refine va_putF (D := g.1) (ci := 0) (fs := [.int 0, .int 0, .int 0, .int 0, .ref q0, .ref q1, .null, .null, .null, .null, .null, .null, .null, .null]) (v := .ref q2) (ty := .array .int) (C := RX0) (T := TX0) (N := 14) hx hb htu hinX0 tyX0 tyX0_ok nmX0 hown hK hP hD hS 0 rfl rfl 6 (by decide) k_1_76 (fun _ h9 => h9) rfl hin rfl (by decide +kernel) rfl rfl (Nat.le_of_ble_eq_true rfl) dX0_init_25 (fun H locs hP hD hS => ?_)
    have hP : va_P g.1 vwCl ([(a0, .inr (0, [.int 0, .int 0, .int 0, .int 0, .ref q0, .ref q1, .ref q2, .null, .null, .null, .null, .null, .null, .null])), (q0, .inl (g.2.1, 24, .inl (fun _ => 0))), (q1, .inl (g.2.1, 24, .inl (fun _ => 0))), (q2, .inl (g.2.1, 96, .inl (fun _ => 0)))]) H := hP
    have hD : va_D A ([(a0, .inr (0, [.int 0, .int 0, .int 0, .int 0, .ref q0, .ref q1, .ref q2, .null, .null, .null, .null, .null, .null, .null])), (q0, .inl (g.2.1, 24, .inl (fun _ => 0))), (q1, .inl (g.2.1, 24, .inl (fun _ => 0))), (q2, .inl (g.2.1, 96, .inl (fun _ => 0)))]) := hD
    refine lv_aload_n hx hb dX0_init_28 rfl (lv_at hl 0 rfl) ?_
    refine lv_bipush (v := (24 : Int32)) hx hb dX0_init_29 (by decide) ?_
    refine k_newI (N' := 24) hx hb k_1_119 hK hP hD hS hA (by decide) (by decide) (by decide) (Nat.le_of_ble_eq_true rfl) (Nat.le_of_ble_eq_true rfl) dX0_init_31 (fun q3 H hP hD hS => ?_)
    have hP : va_P g.1 vwCl ([(a0, .inr (0, [.int 0, .int 0, .int 0, .int 0, .ref q0, .ref q1, .ref q2, .null, .null, .null, .null, .null, .null, .null])), (q0, .inl (g.2.1, 24, .inl (fun _ => 0))), (q1, .inl (g.2.1, 24, .inl (fun _ => 0))), (q2, .inl (g.2.1, 96, .inl (fun _ => 0))), (q3, .inl (g.2.1, 24, .inl (fun _ => 0)))]) H := hP
    have hD : va_D A ([(a0, .inr (0, [.int 0, .int 0, .int 0, .int 0, .ref q0, .ref q1, .ref q2, .null, .null, .null, .null, .null, .null, .null])), (q0, .inl (g.2.1, 24, .inl (fun _ => 0))), (q1, .inl (g.2.1, 24, .inl (fun _ => 0))), (q2, .inl (g.2.1, 96, .inl (fun _ => 0))), (q3, .inl (g.2.1, 24, .inl (fun _ => 0)))]) := hD
    refine W.widen (k := 4) (n := 168) (by omega) (by omega) ?_
    refine va_putF (D := g.1) (ci := 0) (fs := [.int 0, .int 0, .int 0, .int 0, .ref q0, .ref q1, .ref q2, .null, .null, .null, .null, .null, .null, .null]) (v := .ref q3) (ty := .array .int) (C := RX0) (T := TX0) (N := 14) hx hb htu hinX0 tyX0 tyX0_ok nmX0 hown hK hP hD hS 0 rfl rfl 7 (by decide) k_1_78 (fun _ h9 => h9) rfl hin rfl (by decide +kernel) rfl rfl (Nat.le_of_ble_eq_true rfl) dX0_init_33 (fun H locs hP hD hS => ?_)
    have hP : va_P g.1 vwCl ([(a0, .inr (0, [.int 0, .int 0, .int 0, .int 0, .ref q0, .ref q1, .ref q2, .ref q3, .null, .null, .null, .null, .null, .null])), (q0, .inl (g.2.1, 24, .inl (fun _ => 0))), (q1, .inl (g.2.1, 24, .inl (fun _ => 0))), (q2, .inl (g.2.1, 96, .inl (fun _ => 0))), (q3, .inl (g.2.1, 24, .inl (fun _ => 0)))]) H := hP
    have hD : va_D A ([(a0, .inr (0, [.int 0, .int 0, .int 0, .int 0, .ref q0, .ref q1, .ref q2, .ref q3, .null, .null, .null, .null, .null, .null])), (q0, .inl (g.2.1, 24, .inl (fun _ => 0))), (q1, .inl (g.2.1, 24, .inl (fun _ => 0))), (q2, .inl (g.2.1, 96, .inl (fun _ => 0))), (q3, .inl (g.2.1, 24, .inl (fun _ => 0)))]) := hD
    refine lv_aload_n hx hb dX0_init_36 rfl (lv_at hl 0 rfl) ?_
    refine lv_bipush (v := (24 : Int32)) hx hb dX0_init_37 (by decide) ?_
    refine k_newI (N' := 24) hx hb k_1_119 hK hP hD hS hA (by decide) (by decide) (by decide) (Nat.le_of_ble_eq_true rfl) (Nat.le_of_ble_eq_true rfl) dX0_init_39 (fun q4 H hP hD hS => ?_)
    have hP : va_P g.1 vwCl ([(a0, .inr (0, [.int 0, .int 0, .int 0, .int 0, .ref q0, .ref q1, .ref q2, .ref q3, .null, .null, .null, .null, .null, .null])), (q0, .inl (g.2.1, 24, .inl (fun _ => 0))), (q1, .inl (g.2.1, 24, .inl (fun _ => 0))), (q2, .inl (g.2.1, 96, .inl (fun _ => 0))), (q3, .inl (g.2.1, 24, .inl (fun _ => 0))), (q4, .inl (g.2.1, 24, .inl (fun _ => 0)))]) H := hP
    have hD : va_D A ([(a0, .inr (0, [.int 0, .int 0, .int 0, .int 0, .ref q0, .ref q1, .ref q2, .ref q3, .null, .null, .null, .null, .null, .null])), (q0, .inl (g.2.1, 24, .inl (fun _ => 0))), (q1, .inl (g.2.1, 24, .inl (fun _ => 0))), (q2, .inl (g.2.1, 96, .inl (fun _ => 0))), (q3, .inl (g.2.1, 24, .inl (fun _ => 0))), (q4, .inl (g.2.1, 24, .inl (fun _ => 0)))]) := hD
    refine W.widen (k := 5) (n := 192) (by omega) (by omega) ?_
    refine va_putF (D := g.1) (ci := 0) (fs := [.int 0, .int 0, .int 0, .int 0, .ref q0, .ref q1, .ref q2, .ref q3, .null, .null, .null, .null, .null, .null]) (v := .ref q4) (ty := .array .int) (C := RX0) (T := TX0) (N := 14) hx hb htu hinX0 tyX0 tyX0_ok nmX0 hown hK hP hD hS 0 rfl rfl 8 (by decide) k_1_79 (fun _ h9 => h9) rfl hin rfl (by decide +kernel) rfl rfl (Nat.le_of_ble_eq_true rfl) dX0_init_41 (fun H locs hP hD hS => ?_)
    have hP : va_P g.1 vwCl ([(a0, .inr (0, [.int 0, .int 0, .int 0, .int 0, .ref q0, .ref q1, .ref q2, .ref q3, .ref q4, .null, .null, .null, .null, .null])), (q0, .inl (g.2.1, 24, .inl (fun _ => 0))), (q1, .inl (g.2.1, 24, .inl (fun _ => 0))), (q2, .inl (g.2.1, 96, .inl (fun _ => 0))), (q3, .inl (g.2.1, 24, .inl (fun _ => 0))), (q4, .inl (g.2.1, 24, .inl (fun _ => 0)))]) H := hP
    have hD : va_D A ([(a0, .inr (0, [.int 0, .int 0, .int 0, .int 0, .ref q0, .ref q1, .ref q2, .ref q3, .ref q4, .null, .null, .null, .null, .null])), (q0, .inl (g.2.1, 24, .inl (fun _ => 0))), (q1, .inl (g.2.1, 24, .inl (fun _ => 0))), (q2, .inl (g.2.1, 96, .inl (fun _ => 0))), (q3, .inl (g.2.1, 24, .inl (fun _ => 0))), (q4, .inl (g.2.1, 24, .inl (fun _ => 0)))]) := hD
    refine lv_aload_n hx hb dX0_init_44 rfl (lv_at hl 0 rfl) ?_
    refine lv_bipush (v := (24 : Int32)) hx hb dX0_init_45 (by decide) ?_
    refine k_newI (N' := 24) hx hb k_1_119 hK hP hD hS hA (by decide) (by decide) (by decide) (Nat.le_of_ble_eq_true rfl) (Nat.le_of_ble_eq_true rfl) dX0_init_47 (fun q5 H hP hD hS => ?_)
    have hP : va_P g.1 vwCl ([(a0, .inr (0, [.int 0, .int 0, .int 0, .int 0, .ref q0, .ref q1, .ref q2, .ref q3, .ref q4, .null, .null, .null, .null, .null])), (q0, .inl (g.2.1, 24, .inl (fun _ => 0))), (q1, .inl (g.2.1, 24, .inl (fun _ => 0))), (q2, .inl (g.2.1, 96, .inl (fun _ => 0))), (q3, .inl (g.2.1, 24, .inl (fun _ => 0))), (q4, .inl (g.2.1, 24, .inl (fun _ => 0))), (q5, .inl (g.2.1, 24, .inl (fun _ => 0)))]) H := hP
    have hD : va_D A ([(a0, .inr (0, [.int 0, .int 0, .int 0, .int 0, .ref q0, .ref q1, .ref q2, .ref q3, .ref q4, .null, .null, .null, .null, .null])), (q0, .inl (g.2.1, 24, .inl (fun _ => 0))), (q1, .inl (g.2.1, 24, .inl (fun _ => 0))), (q2, .inl (g.2.1, 96, .inl (fun _ => 0))), (q3, .inl (g.2.1, 24, .inl (fun _ => 0))), (q4, .inl (g.2.1, 24, .inl (fun _ => 0))), (q5, .inl (g.2.1, 24, .inl (fun _ => 0)))]) := hD
    refine W.widen (k := 6) (n := 216) (by omega) (by omega) ?_
    refine va_putF (D := g.1) (ci := 0) (fs := [.int 0, .int 0, .int 0, .int 0, .ref q0, .ref q1, .ref q2, .ref q3, .ref q4, .null, .null, .null, .null, .null]) (v := .ref q5) (ty := .array .int) (C := RX0) (T := TX0) (N := 14) hx hb htu hinX0 tyX0 tyX0_ok nmX0 hown hK hP hD hS 0 rfl rfl 9 (by decide) k_1_80 (fun _ h9 => h9) rfl hin rfl (by decide +kernel) rfl rfl (Nat.le_of_ble_eq_true rfl) dX0_init_49 (fun H locs hP hD hS => ?_)
    have hP : va_P g.1 vwCl ([(a0, .inr (0, [.int 0, .int 0, .int 0, .int 0, .ref q0, .ref q1, .ref q2, .ref q3, .ref q4, .ref q5, .null, .null, .null, .null])), (q0, .inl (g.2.1, 24, .inl (fun _ => 0))), (q1, .inl (g.2.1, 24, .inl (fun _ => 0))), (q2, .inl (g.2.1, 96, .inl (fun _ => 0))), (q3, .inl (g.2.1, 24, .inl (fun _ => 0))), (q4, .inl (g.2.1, 24, .inl (fun _ => 0))), (q5, .inl (g.2.1, 24, .inl (fun _ => 0)))]) H := hP
    have hD : va_D A ([(a0, .inr (0, [.int 0, .int 0, .int 0, .int 0, .ref q0, .ref q1, .ref q2, .ref q3, .ref q4, .ref q5, .null, .null, .null, .null])), (q0, .inl (g.2.1, 24, .inl (fun _ => 0))), (q1, .inl (g.2.1, 24, .inl (fun _ => 0))), (q2, .inl (g.2.1, 96, .inl (fun _ => 0))), (q3, .inl (g.2.1, 24, .inl (fun _ => 0))), (q4, .inl (g.2.1, 24, .inl (fun _ => 0))), (q5, .inl (g.2.1, 24, .inl (fun _ => 0)))]) := hD
    refine lv_aload_n hx hb dX0_init_52 rfl (lv_at hl 0 rfl) ?_
    refine lv_bipush (v := (6 : Int32)) hx hb dX0_init_53 (by decide) ?_
    refine k_newI (N' := 6) hx hb k_1_119 hK hP hD hS hA (by decide) (by decide) (by decide) (Nat.le_of_ble_eq_true rfl) (Nat.le_of_ble_eq_true rfl) dX0_init_55 (fun q6 H hP hD hS => ?_)
    have hP : va_P g.1 vwCl ([(a0, .inr (0, [.int 0, .int 0, .int 0, .int 0, .ref q0, .ref q1, .ref q2, .ref q3, .ref q4, .ref q5, .null, .null, .null, .null])), (q0, .inl (g.2.1, 24, .inl (fun _ => 0))), (q1, .inl (g.2.1, 24, .inl (fun _ => 0))), (q2, .inl (g.2.1, 96, .inl (fun _ => 0))), (q3, .inl (g.2.1, 24, .inl (fun _ => 0))), (q4, .inl (g.2.1, 24, .inl (fun _ => 0))), (q5, .inl (g.2.1, 24, .inl (fun _ => 0))), (q6, .inl (g.2.1, 6, .inl (fun _ => 0)))]) H := hP
    have hD : va_D A ([(a0, .inr (0, [.int 0, .int 0, .int 0, .int 0, .ref q0, .ref q1, .ref q2, .ref q3, .ref q4, .ref q5, .null, .null, .null, .null])), (q0, .inl (g.2.1, 24, .inl (fun _ => 0))), (q1, .inl (g.2.1, 24, .inl (fun _ => 0))), (q2, .inl (g.2.1, 96, .inl (fun _ => 0))), (q3, .inl (g.2.1, 24, .inl (fun _ => 0))), (q4, .inl (g.2.1, 24, .inl (fun _ => 0))), (q5, .inl (g.2.1, 24, .inl (fun _ => 0))), (q6, .inl (g.2.1, 6, .inl (fun _ => 0)))]) := hD
    refine W.widen (k := 7) (n := 222) (by omega) (by omega) ?_
    refine va_putF (D := g.1) (ci := 0) (fs := [.int 0, .int 0, .int 0, .int 0, .ref q0, .ref q1, .ref q2, .ref q3, .ref q4, .ref q5, .null, .null, .null, .null]) (v := .ref q6) (ty := .array .int) (C := RX0) (T := TX0) (N := 14) hx hb htu hinX0 tyX0 tyX0_ok nmX0 hown hK hP hD hS 0 rfl rfl 10 (by decide) k_1_82 (fun _ h9 => h9) rfl hin rfl (by decide +kernel) rfl rfl (Nat.le_of_ble_eq_true rfl) dX0_init_57 (fun H locs hP hD hS => ?_)
    have hP : va_P g.1 vwCl ([(a0, .inr (0, [.int 0, .int 0, .int 0, .int 0, .ref q0, .ref q1, .ref q2, .ref q3, .ref q4, .ref q5, .ref q6, .null, .null, .null])), (q0, .inl (g.2.1, 24, .inl (fun _ => 0))), (q1, .inl (g.2.1, 24, .inl (fun _ => 0))), (q2, .inl (g.2.1, 96, .inl (fun _ => 0))), (q3, .inl (g.2.1, 24, .inl (fun _ => 0))), (q4, .inl (g.2.1, 24, .inl (fun _ => 0))), (q5, .inl (g.2.1, 24, .inl (fun _ => 0))), (q6, .inl (g.2.1, 6, .inl (fun _ => 0)))]) H := hP
    have hD : va_D A ([(a0, .inr (0, [.int 0, .int 0, .int 0, .int 0, .ref q0, .ref q1, .ref q2, .ref q3, .ref q4, .ref q5, .ref q6, .null, .null, .null])), (q0, .inl (g.2.1, 24, .inl (fun _ => 0))), (q1, .inl (g.2.1, 24, .inl (fun _ => 0))), (q2, .inl (g.2.1, 96, .inl (fun _ => 0))), (q3, .inl (g.2.1, 24, .inl (fun _ => 0))), (q4, .inl (g.2.1, 24, .inl (fun _ => 0))), (q5, .inl (g.2.1, 24, .inl (fun _ => 0))), (q6, .inl (g.2.1, 6, .inl (fun _ => 0)))]) := hD
    refine lv_aload_n hx hb dX0_init_60 rfl (lv_at hl 0 rfl) ?_
    refine lv_bipush (v := (8 : Int32)) hx hb dX0_init_61 (by decide) ?_
    refine k_newI (N' := 8) hx hb k_1_119 hK hP hD hS hA (by decide) (by decide) (by decide) (Nat.le_of_ble_eq_true rfl) (Nat.le_of_ble_eq_true rfl) dX0_init_63 (fun q7 H hP hD hS => ?_)
    have hP : va_P g.1 vwCl ([(a0, .inr (0, [.int 0, .int 0, .int 0, .int 0, .ref q0, .ref q1, .ref q2, .ref q3, .ref q4, .ref q5, .ref q6, .null, .null, .null])), (q0, .inl (g.2.1, 24, .inl (fun _ => 0))), (q1, .inl (g.2.1, 24, .inl (fun _ => 0))), (q2, .inl (g.2.1, 96, .inl (fun _ => 0))), (q3, .inl (g.2.1, 24, .inl (fun _ => 0))), (q4, .inl (g.2.1, 24, .inl (fun _ => 0))), (q5, .inl (g.2.1, 24, .inl (fun _ => 0))), (q6, .inl (g.2.1, 6, .inl (fun _ => 0))), (q7, .inl (g.2.1, 8, .inl (fun _ => 0)))]) H := hP
    have hD : va_D A ([(a0, .inr (0, [.int 0, .int 0, .int 0, .int 0, .ref q0, .ref q1, .ref q2, .ref q3, .ref q4, .ref q5, .ref q6, .null, .null, .null])), (q0, .inl (g.2.1, 24, .inl (fun _ => 0))), (q1, .inl (g.2.1, 24, .inl (fun _ => 0))), (q2, .inl (g.2.1, 96, .inl (fun _ => 0))), (q3, .inl (g.2.1, 24, .inl (fun _ => 0))), (q4, .inl (g.2.1, 24, .inl (fun _ => 0))), (q5, .inl (g.2.1, 24, .inl (fun _ => 0))), (q6, .inl (g.2.1, 6, .inl (fun _ => 0))), (q7, .inl (g.2.1, 8, .inl (fun _ => 0)))]) := hD
    refine W.widen (k := 8) (n := 230) (by omega) (by omega) ?_
    refine va_putF (D := g.1) (ci := 0) (fs := [.int 0, .int 0, .int 0, .int 0, .ref q0, .ref q1, .ref q2, .ref q3, .ref q4, .ref q5, .ref q6, .null, .null, .null]) (v := .ref q7) (ty := .array .int) (C := RX0) (T := TX0) (N := 14) hx hb htu hinX0 tyX0 tyX0_ok nmX0 hown hK hP hD hS 0 rfl rfl 11 (by decide) k_1_84 (fun _ h9 => h9) rfl hin rfl (by decide +kernel) rfl rfl (Nat.le_of_ble_eq_true rfl) dX0_init_65 (fun H locs hP hD hS => ?_)
    have hP : va_P g.1 vwCl ([(a0, .inr (0, [.int 0, .int 0, .int 0, .int 0, .ref q0, .ref q1, .ref q2, .ref q3, .ref q4, .ref q5, .ref q6, .ref q7, .null, .null])), (q0, .inl (g.2.1, 24, .inl (fun _ => 0))), (q1, .inl (g.2.1, 24, .inl (fun _ => 0))), (q2, .inl (g.2.1, 96, .inl (fun _ => 0))), (q3, .inl (g.2.1, 24, .inl (fun _ => 0))), (q4, .inl (g.2.1, 24, .inl (fun _ => 0))), (q5, .inl (g.2.1, 24, .inl (fun _ => 0))), (q6, .inl (g.2.1, 6, .inl (fun _ => 0))), (q7, .inl (g.2.1, 8, .inl (fun _ => 0)))]) H := hP
    have hD : va_D A ([(a0, .inr (0, [.int 0, .int 0, .int 0, .int 0, .ref q0, .ref q1, .ref q2, .ref q3, .ref q4, .ref q5, .ref q6, .ref q7, .null, .null])), (q0, .inl (g.2.1, 24, .inl (fun _ => 0))), (q1, .inl (g.2.1, 24, .inl (fun _ => 0))), (q2, .inl (g.2.1, 96, .inl (fun _ => 0))), (q3, .inl (g.2.1, 24, .inl (fun _ => 0))), (q4, .inl (g.2.1, 24, .inl (fun _ => 0))), (q5, .inl (g.2.1, 24, .inl (fun _ => 0))), (q6, .inl (g.2.1, 6, .inl (fun _ => 0))), (q7, .inl (g.2.1, 8, .inl (fun _ => 0)))]) := hD
    refine lv_aload_n hx hb dX0_init_68 rfl (lv_at hl 0 rfl) ?_
    refine lv_bipush (v := (8 : Int32)) hx hb dX0_init_69 (by decide) ?_
    refine k_newI (N' := 8) hx hb k_1_119 hK hP hD hS hA (by decide) (by decide) (by decide) (Nat.le_of_ble_eq_true rfl) (Nat.le_of_ble_eq_true rfl) dX0_init_71 (fun q8 H hP hD hS => ?_)
    have hP : va_P g.1 vwCl ([(a0, .inr (0, [.int 0, .int 0, .int 0, .int 0, .ref q0, .ref q1, .ref q2, .ref q3, .ref q4, .ref q5, .ref q6, .ref q7, .null, .null])), (q0, .inl (g.2.1, 24, .inl (fun _ => 0))), (q1, .inl (g.2.1, 24, .inl (fun _ => 0))), (q2, .inl (g.2.1, 96, .inl (fun _ => 0))), (q3, .inl (g.2.1, 24, .inl (fun _ => 0))), (q4, .inl (g.2.1, 24, .inl (fun _ => 0))), (q5, .inl (g.2.1, 24, .inl (fun _ => 0))), (q6, .inl (g.2.1, 6, .inl (fun _ => 0))), (q7, .inl (g.2.1, 8, .inl (fun _ => 0))), (q8, .inl (g.2.1, 8, .inl (fun _ => 0)))]) H := hP
    have hD : va_D A ([(a0, .inr (0, [.int 0, .int 0, .int 0, .int 0, .ref q0, .ref q1, .ref q2, .ref q3, .ref q4, .ref q5, .ref q6, .ref q7, .null, .null])), (q0, .inl (g.2.1, 24, .inl (fun _ => 0))), (q1, .inl (g.2.1, 24, .inl (fun _ => 0))), (q2, .inl (g.2.1, 96, .inl (fun _ => 0))), (q3, .inl (g.2.1, 24, .inl (fun _ => 0))), (q4, .inl (g.2.1, 24, .inl (fun _ => 0))), (q5, .inl (g.2.1, 24, .inl (fun _ => 0))), (q6, .inl (g.2.1, 6, .inl (fun _ => 0))), (q7, .inl (g.2.1, 8, .inl (fun _ => 0))), (q8, .inl (g.2.1, 8, .inl (fun _ => 0)))]) := hD
    refine W.widen (k := 9) (n := 238) (by omega) (by omega) ?_
    refine va_putF (D := g.1) (ci := 0) (fs := [.int 0, .int 0, .int 0, .int 0, .ref q0, .ref q1, .ref q2, .ref q3, .ref q4, .ref q5, .ref q6, .ref q7, .null, .null]) (v := .ref q8) (ty := .array .int) (C := RX0) (T := TX0) (N := 14) hx hb htu hinX0 tyX0 tyX0_ok nmX0 hown hK hP hD hS 0 rfl rfl 12 (by decide) k_1_86 (fun _ h9 => h9) rfl hin rfl (by decide +kernel) rfl rfl (Nat.le_of_ble_eq_true rfl) dX0_init_73 (fun H locs hP hD hS => ?_)
    have hP : va_P g.1 vwCl ([(a0, .inr (0, [.int 0, .int 0, .int 0, .int 0, .ref q0, .ref q1, .ref q2, .ref q3, .ref q4, .ref q5, .ref q6, .ref q7, .ref q8, .null])), (q0, .inl (g.2.1, 24, .inl (fun _ => 0))), (q1, .inl (g.2.1, 24, .inl (fun _ => 0))), (q2, .inl (g.2.1, 96, .inl (fun _ => 0))), (q3, .inl (g.2.1, 24, .inl (fun _ => 0))), (q4, .inl (g.2.1, 24, .inl (fun _ => 0))), (q5, .inl (g.2.1, 24, .inl (fun _ => 0))), (q6, .inl (g.2.1, 6, .inl (fun _ => 0))), (q7, .inl (g.2.1, 8, .inl (fun _ => 0))), (q8, .inl (g.2.1, 8, .inl (fun _ => 0)))]) H := hP
    have hD : va_D A ([(a0, .inr (0, [.int 0, .int 0, .int 0, .int 0, .ref q0, .ref q1, .ref q2, .ref q3, .ref q4, .ref q5, .ref q6, .ref q7, .ref q8, .null])), (q0, .inl (g.2.1, 24, .inl (fun _ => 0))), (q1, .inl (g.2.1, 24, .inl (fun _ => 0))), (q2, .inl (g.2.1, 96, .inl (fun _ => 0))), (q3, .inl (g.2.1, 24, .inl (fun _ => 0))), (q4, .inl (g.2.1, 24, .inl (fun _ => 0))), (q5, .inl (g.2.1, 24, .inl (fun _ => 0))), (q6, .inl (g.2.1, 6, .inl (fun _ => 0))), (q7, .inl (g.2.1, 8, .inl (fun _ => 0))), (q8, .inl (g.2.1, 8, .inl (fun _ => 0)))]) := hD
    refine lv_aload_n hx hb dX0_init_76 rfl (lv_at hl 0 rfl) ?_
    refine lv_bipush (v := (8 : Int32)) hx hb dX0_init_77 (by decide) ?_
    refine k_newI (N' := 8) hx hb k_1_119 hK hP hD hS hA (by decide) (by decide) (by decide) (Nat.le_of_ble_eq_true rfl) (Nat.le_of_ble_eq_true rfl) dX0_init_79 (fun q9 H hP hD hS => ?_)
    have hP : va_P g.1 vwCl ([(a0, .inr (0, [.int 0, .int 0, .int 0, .int 0, .ref q0, .ref q1, .ref q2, .ref q3, .ref q4, .ref q5, .ref q6, .ref q7, .ref q8, .null])), (q0, .inl (g.2.1, 24, .inl (fun _ => 0))), (q1, .inl (g.2.1, 24, .inl (fun _ => 0))), (q2, .inl (g.2.1, 96, .inl (fun _ => 0))), (q3, .inl (g.2.1, 24, .inl (fun _ => 0))), (q4, .inl (g.2.1, 24, .inl (fun _ => 0))), (q5, .inl (g.2.1, 24, .inl (fun _ => 0))), (q6, .inl (g.2.1, 6, .inl (fun _ => 0))), (q7, .inl (g.2.1, 8, .inl (fun _ => 0))), (q8, .inl (g.2.1, 8, .inl (fun _ => 0))), (q9, .inl (g.2.1, 8, .inl (fun _ => 0)))]) H := hP
    have hD : va_D A ([(a0, .inr (0, [.int 0, .int 0, .int 0, .int 0, .ref q0, .ref q1, .ref q2, .ref q3, .ref q4, .ref q5, .ref q6, .ref q7, .ref q8, .null])), (q0, .inl (g.2.1, 24, .inl (fun _ => 0))), (q1, .inl (g.2.1, 24, .inl (fun _ => 0))), (q2, .inl (g.2.1, 96, .inl (fun _ => 0))), (q3, .inl (g.2.1, 24, .inl (fun _ => 0))), (q4, .inl (g.2.1, 24, .inl (fun _ => 0))), (q5, .inl (g.2.1, 24, .inl (fun _ => 0))), (q6, .inl (g.2.1, 6, .inl (fun _ => 0))), (q7, .inl (g.2.1, 8, .inl (fun _ => 0))), (q8, .inl (g.2.1, 8, .inl (fun _ => 0))), (q9, .inl (g.2.1, 8, .inl (fun _ => 0)))]) := hD
    refine W.widen (k := 10) (n := 246) (by omega) (by omega) ?_
    refine va_putF (D := g.1) (ci := 0) (fs := [.int 0, .int 0, .int 0, .int 0, .ref q0, .ref q1, .ref q2, .ref q3, .ref q4, .ref q5, .ref q6, .ref q7, .ref q8, .null]) (v := .ref q9) (ty := .array .int) (C := RX0) (T := TX0) (N := 14) hx hb htu hinX0 tyX0 tyX0_ok nmX0 hown hK hP hD hS 0 rfl rfl 13 (by decide) k_1_88 (fun _ h9 => h9) rfl hin rfl (by decide +kernel) rfl rfl (Nat.le_of_ble_eq_true rfl) dX0_init_81 (fun H locs hP hD hS => ?_)
    have hP : va_P g.1 vwCl ([(a0, .inr (0, [.int 0, .int 0, .int 0, .int 0, .ref q0, .ref q1, .ref q2, .ref q3, .ref q4, .ref q5, .ref q6, .ref q7, .ref q8, .ref q9])), (q0, .inl (g.2.1, 24, .inl (fun _ => 0))), (q1, .inl (g.2.1, 24, .inl (fun _ => 0))), (q2, .inl (g.2.1, 96, .inl (fun _ => 0))), (q3, .inl (g.2.1, 24, .inl (fun _ => 0))), (q4, .inl (g.2.1, 24, .inl (fun _ => 0))), (q5, .inl (g.2.1, 24, .inl (fun _ => 0))), (q6, .inl (g.2.1, 6, .inl (fun _ => 0))), (q7, .inl (g.2.1, 8, .inl (fun _ => 0))), (q8, .inl (g.2.1, 8, .inl (fun _ => 0))), (q9, .inl (g.2.1, 8, .inl (fun _ => 0)))]) H := hP
    have hD : va_D A ([(a0, .inr (0, [.int 0, .int 0, .int 0, .int 0, .ref q0, .ref q1, .ref q2, .ref q3, .ref q4, .ref q5, .ref q6, .ref q7, .ref q8, .ref q9])), (q0, .inl (g.2.1, 24, .inl (fun _ => 0))), (q1, .inl (g.2.1, 24, .inl (fun _ => 0))), (q2, .inl (g.2.1, 96, .inl (fun _ => 0))), (q3, .inl (g.2.1, 24, .inl (fun _ => 0))), (q4, .inl (g.2.1, 24, .inl (fun _ => 0))), (q5, .inl (g.2.1, 24, .inl (fun _ => 0))), (q6, .inl (g.2.1, 6, .inl (fun _ => 0))), (q7, .inl (g.2.1, 8, .inl (fun _ => 0))), (q8, .inl (g.2.1, 8, .inl (fun _ => 0))), (q9, .inl (g.2.1, 8, .inl (fun _ => 0)))]) := hD
    obtain ⟨b, hb0, hP9, hD9⟩ : ∃ b : Nat → Nat, b 0 = a0 ∧ va_P g.1 vwCl (cC g b zV) H ∧ va_D A (cC g b zV) := ⟨(fun j => ([a0, 0, 0, 0, 0, q0, q1, q2, q3, q4, q5, q6, q7, q8, q9] : List Nat).getD j 0), rfl, hP, hD⟩
    subst hb0
    have hP := hP9
    have hD := hD9
    refine lv_aload_n hx hb dX0_init_84 rfl (lv_at hl 0 rfl) ?_
    refine lv_iconst (v := (1 : Int32)) hx hb dX0_init_85 (by decide) ?_
    refine k_vvW ⟨hx, hb, hml, hown, htu⟩ hK hP hD hS hA hG (c_X0_clear l g b zV 1 cV1 cl_eq) (cwV 1 htu (gU_V mw_1_55 hcX0_clear) rfl rfl rfl hdX0_clear ⟨Nat.le_of_ble_eq_true rfl, Nat.le_of_ble_eq_true rfl⟩) (q0 := 0) (ci := 0) (fs := fcC b zV) (q := (RX0, TX0, 14)) rfl rfl rfl (As := [.int (1 : Int32)]) (rest := []) rfl rfl hl.1 (Nat.le_of_ble_eq_true rfl) dX0_init_86 (k1 := 10) (n1 := 246) rfl rfl ⟨Nat.le_refl _, Nat.le_refl _⟩ (fun H locs hP hD hS => ?_)
    exact k_nret0 (u := b) (w1 := fun (b : Nat → Nat) => cC g b cV1) (pr := fun b9 => b9 0 = b 0) hx hb hr hlocks hK hP hD hS rfl dX0_init_89
  rw [hH, hlo] at hW
  exact hW
