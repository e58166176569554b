abbrev wsX5_init : List Cond := .code yX5_init cX5_init 1 none :: UW
abbrev rmX5_init : Room := { frames := 3, cells := 18, slots := 1111, locals := 62 }
set_option maxHeartbeats 4000000 in
set_option maxRecDepth 100000 in
theorem c_X5_init (l : Launch) (g : Gx) (a0 : Nat) : CtN l yX5_init wsX5_init rmX5_init g [.ref a0] [(a0, .inr (5, [.null, .int 0, .int 0, .null, .int 0, .int 0, .int 0, .int 0, .int 0, .int 0]))] (S := Nat → Nat → Nat) (fun (u : Nat → Nat → Nat) => cD g (u 0) (u 1 0) (sF zV 2 (-1)) ++ (cS g (u 1) (u 2 0) (u 3 0) ++ (cC g (u 2) cV1 ++ cT g (u 3) zV))) (fun (u : Nat → Nat → Nat) => u 0 0 = a0) 18 1111 := by
  unfold CtN
  intro sz
  refine Met.ofW (cc := cX5_init) (maxL := 1) (ret := none) (by decide) rfl ?_
  intro p e s m args below meth c s₁ B hml hv
  obtain ⟨rfl, hsz, hP, hK, hD0, hG⟩ := hv
  have hx := B.exec
  have hb := B.bytes
  have hr := B.returns
  have hts := atoms_spec (ws := wsX5_init) B.pre
  have hown : s.vm.findClass RX5 = some m.cls := findClass_of_methodNamed B.named
  have hlocks := B.notSynchronized
  have hin : meth.name = "<init>" := (name_of_methodNamed B.named B.method).1
  subst hsz
  have hD := hD0.self (sz := s.heap.size)
  generalize hAe : va_A [(a0, .inr (5, [.null, .int 0, .int 0, .null, .int 0, .int 0, .int 0, .int 0, .int 0, .int 0]))] s.heap.size = A at hD hG ⊢
  have hA : ∀ q : Nat, s.heap.size ≤ q → A q := fun q h => by rw [← hAe]; exact Or.inr h
  clear hAe hD0
  have hS : va_S A s.heap s.heap [] := va_S.rf
  have hl := lv_entry ([.ref a0]) (n := 1) (Nat.le_of_ble_eq_true rfl)
  rw [lg_entry_eq]
  generalize (lg_sl ([.ref a0]) ++ List.replicate (1 - (lg_sl ([.ref a0])).length) Slot.unset).toArray = ls at hl ⊢
  have hl : lv_has ls 1 [(0, .ref a0)] := hl
  have htu : ∀ w ∈ UW, w.before _ s = true := fun w h => hts w (List.mem_cons_of_mem _ h)
  have k_1_42 := htu _ mw_1_42
  have k_1_43 := htu _ mw_1_43
  have k_1_44 := htu _ mw_1_44
  have k_1_16 := htu _ mw_1_16
  have k_1_157 := htu _ mw_1_157
  have k_1_159 := htu _ mw_1_159
  have k_1_161 := htu _ mw_1_161
  have k_1_119 := htu _ mw_1_119
  have k_1_162 := htu _ mw_1_162
  have k_1_163 := htu _ mw_1_163
  have k_1_164 := htu _ mw_1_164
  have k_1_165 := htu _ mw_1_165
  have k_1_166 := htu _ mw_1_166
  have k_1_167 := htu _ mw_1_167
  have k_1_168 := htu _ mw_1_168
  obtain ⟨H, hH⟩ : ∃ z, z = s.heap := ⟨_, rfl⟩
  obtain ⟨locs, hlo⟩ : ∃ z : List Loc, z = [] := ⟨_, rfl⟩
  have hS : va_S A s.heap H locs := by rw [hH, hlo]; exact hS
  rw [← hH] at hP
  have hW : W p l e (headSpec wsX5_init rmX5_init).room s m ([.ref a0] : List Value).toArray below meth c H locs 0 0 (MQ below (va_Qv (fun (u : Nat → Nat → Nat) => u 0 0 = a0) (fun (u : Nat → Nat → Nat) => wE g A ((fun (u : Nat → Nat → Nat) => cD g (u 0) (u 1 0) (sF zV 2 (-1)) ++ (cS g (u 1) (u 2 0) (u 3 0) ++ (cC g (u 2) cV1 ++ cT g (u 3) zV))) u)) A) ([.ref a0] : List Value).toArray s 18 1111 A) (F0 m 0 ls []) := by
    refine lv_aload_n hx hb dX5_init_0 rfl (lv_at hl 0 rfl) ?_
    refine W.objInit hx hb hown k_1_42 (htu _ mw_1_35) (htu _ mw_1_36) rfl (by rw [hml]; exact hl.1) rfl dX5_init_1 (Nat.le_of_ble_eq_true rfl) (Nat.le_of_ble_eq_true rfl) ?_
    refine W.eq (g2 := F0 m 4 ls []) rfl ?_
    refine lv_aload_n hx hb dX5_init_4 rfl (lv_at hl 0 rfl) ?_
    refine va_new (D := g.1) (ci := 4) (fs := [.null, .null]) (C := RX4) (T := TX4) (N := 2) hx hb htu hinX4 tyX4 tyX4_ok hown k_1_43 k_1_44 k_1_16 hK hP hD hS hA rfl (fun j hj => by rcases (show j = 0 ∨ j = 1 by omega) with rfl | rfl <;> rfl) (Nat.le_of_ble_eq_true rfl) (Nat.le_of_ble_eq_true rfl) dX5_init_5 (fun q0 H hP hD hS => ?_)
    have hP : va_P g.1 vwCl ([(a0, .inr (5, [.null, .int 0, .int 0, .null, .int 0, .int 0, .int 0, .int 0, .int 0, .int 0])), (q0, .inr (4, [.null, .null]))]) H := hP
    have hD : va_D A ([(a0, .inr (5, [.null, .int 0, .int 0, .null, .int 0, .int 0, .int 0, .int 0, .int 0, .int 0])), (q0, .inr (4, [.null, .null]))]) := hD
    refine W.widen (k := 1) (n := 2) (by omega) (by omega) ?_
    refine lv_dup hx hb dX5_init_8 rfl ?_
    refine k_ctor (host := "FaultTests") ⟨hx, hb, hml, hown, htu⟩ hK hP hD hS hA hG (c_X4_init l g q0) (Or.inr ⟨va_cnB 0 htu (gU_0 mw_1_47) rfl rfl rfl (hG.1.2.2.1 ("FaultTests$SetupReader", 11, yX4_init, "FaultTests") (List.mem_of_getElem? (i := 1) rfl)) (htu _ mw_1_16) hdX4_init ⟨Nat.le_of_ble_eq_true rfl, Nat.le_of_ble_eq_true rfl⟩, rfl, htu _ mw_1_46⟩) (wr := [(a0, .inr (5, [.null, .int 0, .int 0, .null, .int 0, .int 0, .int 0, .int 0, .int 0, .int 0]))]) (e0 := .inr (4, [.null, .null])) rfl (As := []) (rest := [.ref q0, .ref a0]) rfl rfl hl.1 (Nat.le_of_ble_eq_true rfl) dX5_init_9 (k1 := 17) (n1 := 311) rfl rfl ⟨Nat.le_of_ble_eq_true rfl, Nat.le_of_ble_eq_true rfl⟩ (fun u1 H locs hu1 hP9 hD9 hS => ?_)
    subst hu1
    have hP := hP9
    have hD := hD9
    have hP : va_P g.1 vwCl ([(a0, .inr (5, [.null, .int 0, .int 0, .null, .int 0, .int 0, .int 0, .int 0, .int 0, .int 0]))] ++ ((cS g u1.1 (u1.2.1 0) (u1.2.2 0) ++ (cC g u1.2.1 cV1 ++ cT g u1.2.2 zV)))) H := hP
    have hD : va_D A ([(a0, .inr (5, [.null, .int 0, .int 0, .null, .int 0, .int 0, .int 0, .int 0, .int 0, .int 0]))] ++ ((cS g u1.1 (u1.2.1 0) (u1.2.2 0) ++ (cC g u1.2.1 cV1 ++ cT g u1.2.2 zV)))) := hD
    refine va_putF (D := g.1) (ci := 5) (fs := [.null, .int 0, .int 0, .null, .int 0, .int 0, .int 0, .int 0, .int 0, .int 0]) (v := .ref (u1.1 0)) (ty := .object "FaultTests$Setup") (C := RX5) (T := TX5) (N := 10) hx hb htu hinX5 tyX5 tyX5_ok nmX5 hown hK hP hD hS 0 rfl rfl 0 (by decide) k_1_157 (fun _ h9 => h9) rfl hin rfl (by decide +kernel) rfl rfl (Nat.le_of_ble_eq_true rfl) dX5_init_12 (fun H locs hP hD hS => ?_)
    have hP : va_P g.1 vwCl ([(a0, .inr (5, [.ref (u1.1 0), .int 0, .int 0, .null, .int 0, .int 0, .int 0, .int 0, .int 0, .int 0]))] ++ ((cS g u1.1 (u1.2.1 0) (u1.2.2 0) ++ (cC g u1.2.1 cV1 ++ cT g u1.2.2 zV)))) H := hP
    have hD : va_D A ([(a0, .inr (5, [.ref (u1.1 0), .int 0, .int 0, .null, .int 0, .int 0, .int 0, .int 0, .int 0, .int 0]))] ++ ((cS g u1.1 (u1.2.1 0) (u1.2.2 0) ++ (cC g u1.2.1 cV1 ++ cT g u1.2.2 zV)))) := hD
    refine lv_aload_n hx hb dX5_init_15 rfl (lv_at hl 0 rfl) ?_
    refine lv_iconst (v := (0 : Int32)) hx hb dX5_init_16 (by decide) ?_
    refine va_put (D := g.1) (ci := 5) (fs := [.ref (u1.1 0), .int 0, .int 0, .null, .int 0, .int 0, .int 0, .int 0, .int 0, .int 0]) (v := .int (0 : Int32)) (ty := .int) (C := RX5) (T := TX5) (N := 10) hx hb htu hinX5 tyX5 tyX5_ok nmX5 hown hK hP hD hS 0 rfl rfl 1 (by decide) k_1_159 (fun _ h9 => h9) rfl (by decide +kernel) rfl rfl (Nat.le_of_ble_eq_true rfl) dX5_init_17 (fun H locs hP hD hS => ?_)
    have hP : va_P g.1 vwCl ([(a0, .inr (5, [.ref (u1.1 0), .int (0 : Int32), .int 0, .null, .int 0, .int 0, .int 0, .int 0, .int 0, .int 0]))] ++ ((cS g u1.1 (u1.2.1 0) (u1.2.2 0) ++ (cC g u1.2.1 cV1 ++ cT g u1.2.2 zV)))) H := hP
    have hD : va_D A ([(a0, .inr (5, [.ref (u1.1 0), .int (0 : Int32), .int 0, .null, .int 0, .int 0, .int 0, .int 0, .int 0, .int 0]))] ++ ((cS g u1.1 (u1.2.1 0) (u1.2.2 0) ++ (cC g u1.2.1 cV1 ++ cT g u1.2.2 zV)))) := hD
    refine lv_aload_n hx hb dX5_init_20 rfl (lv_at hl 0 rfl) ?_
    refine lv_iconst (v := (-1 : Int32)) hx hb dX5_init_21 (by decide) ?_
    refine va_put (D := g.1) (ci := 5) (fs := [.ref (u1.1 0), .int (0 : Int32), .int 0, .null, .int 0, .int 0, .int 0, .int 0, .int 0, .int 0]) (v := .int (-1 : Int32)) (ty := .int) (C := RX5) (T := TX5) (N := 10) hx hb htu hinX5 tyX5 tyX5_ok nmX5 hown hK hP hD hS 0 rfl rfl 2 (by decide) k_1_161 (fun _ h9 => h9) rfl (by decide +kernel) rfl rfl (Nat.le_of_ble_eq_true rfl) dX5_init_22 (fun H locs hP hD hS => ?_)
    have hP : va_P g.1 vwCl ([(a0, .inr (5, [.ref (u1.1 0), .int (0 : Int32), .int (-1 : Int32), .null, .int 0, .int 0, .int 0, .int 0, .int 0, .int 0]))] ++ ((cS g u1.1 (u1.2.1 0) (u1.2.2 0) ++ (cC g u1.2.1 cV1 ++ cT g u1.2.2 zV)))) H := hP
    have hD : va_D A ([(a0, .inr (5, [.ref (u1.1 0), .int (0 : Int32), .int (-1 : Int32), .null, .int 0, .int 0, .int 0, .int 0, .int 0, .int 0]))] ++ ((cS g u1.1 (u1.2.1 0) (u1.2.2 0) ++ (cC g u1.2.1 cV1 ++ cT g u1.2.2 zV)))) := hD
    refine lv_aload_n hx hb dX5_init_25 rfl (lv_at hl 0 rfl) ?_
    refine lv_sipush (v := (800 : Int32)) hx hb dX5_init_26 (by decide) ?_
    refine k_newI (N' := 800) hx hb k_1_119 hK hP hD hS hA (by decide) (by decide) (by decide) (Nat.le_of_ble_eq_true rfl) (Nat.le_of_ble_eq_true rfl) dX5_init_29 (fun q2 H hP hD hS => ?_)
    have hP : va_P g.1 vwCl ([(a0, .inr (5, [.ref (u1.1 0), .int (0 : Int32), .int (-1 : Int32), .null, .int 0, .int 0, .int 0, .int 0, .int 0, .int 0]))] ++ ((cS g u1.1 (u1.2.1 0) (u1.2.2 0) ++ (cC g u1.2.1 cV1 ++ cT g u1.2.2 zV)) ++ ([(q2, .inl (g.2.1, 800, .inl (fun _ => 0)))]))) H := hP
    have hD : va_D A ([(a0, .inr (5, [.ref (u1.1 0), .int (0 : Int32), .int (-1 : Int32), .null, .int 0, .int 0, .int 0, .int 0, .int 0, .int 0]))] ++ ((cS g u1.1 (u1.2.1 0) (u1.2.2 0) ++ (cC g u1.2.1 cV1 ++ cT g u1.2.2 zV)) ++ ([(q2, .inl (g.2.1, 800, .inl (fun _ => 0)))]))) := hD
    refine W.widen (k := 18) (n := 1111) (by omega) (by omega) ?_
    refine va_putF (D := g.1) (ci := 5) (fs := [.ref (u1.1 0), .int (0 : Int32), .int (-1 : Int32), .null, .int 0, .int 0, .int 0, .int 0, .int 0, .int 0]) (v := .ref q2) (ty := .array .int) (C := RX5) (T := TX5) (N := 10) hx hb htu hinX5 tyX5 tyX5_ok nmX5 hown hK hP hD hS 0 rfl rfl 3 (by decide) k_1_162 (fun _ h9 => h9) rfl hin rfl (by decide +kernel) rfl rfl (Nat.le_of_ble_eq_true rfl) dX5_init_31 (fun H locs hP hD hS => ?_)
    have hP : va_P g.1 vwCl ([(a0, .inr (5, [.ref (u1.1 0), .int (0 : Int32), .int (-1 : Int32), .ref q2, .int 0, .int 0, .int 0, .int 0, .int 0, .int 0]))] ++ ((cS g u1.1 (u1.2.1 0) (u1.2.2 0) ++ (cC g u1.2.1 cV1 ++ cT g u1.2.2 zV)) ++ ([(q2, .inl (g.2.1, 800, .inl (fun _ => 0)))]))) H := hP
    have hD : va_D A ([(a0, .inr (5, [.ref (u1.1 0), .int (0 : Int32), .int (-1 : Int32), .ref q2, .int 0, .int 0, .int 0, .int 0, .int 0, .int 0]))] ++ ((cS g u1.1 (u1.2.1 0) (u1.2.2 0) ++ (cC g u1.2.1 cV1 ++ cT g u1.2.2 zV)) ++ ([(q2, .inl (g.2.1, 800, .inl (fun _ => 0)))]))) := hD
    refine lv_aload_n hx hb dX5_init_34 rfl (lv_at hl 0 rfl) ?_
    refine lv_iconst (v := (0 : Int32)) hx hb dX5_init_35 (by decide) ?_
    refine va_put (D := g.1) (ci := 5) (fs := [.ref (u1.1 0), .int (0 : Int32), .int (-1 : Int32), .ref q2, .int 0, .int 0, .int 0, .int 0, .int 0, .int 0]) (v := .int (0 : Int32)) (ty := .int) (C := RX5) (T := TX5) (N := 10) hx hb htu hinX5 tyX5 tyX5_ok nmX5 hown hK hP hD hS 0 rfl rfl 4 (by decide) k_1_163 (fun _ h9 => h9) rfl (by decide +kernel) rfl rfl (Nat.le_of_ble_eq_true rfl) dX5_init_36 (fun H locs hP hD hS => ?_)
    have hP : va_P g.1 vwCl ([(a0, .inr (5, [.ref (u1.1 0), .int (0 : Int32), .int (-1 : Int32), .ref q2, .int (0 : Int32), .int 0, .int 0, .int 0, .int 0, .int 0]))] ++ ((cS g u1.1 (u1.2.1 0) (u1.2.2 0) ++ (cC g u1.2.1 cV1 ++ cT g u1.2.2 zV)) ++ ([(q2, .inl (g.2.1, 800, .inl (fun _ => 0)))]))) H := hP
    have hD : va_D A ([(a0, .inr (5, [.ref (u1.1 0), .int (0 : Int32), .int (-1 : Int32), .ref q2, .int (0 : Int32), .int 0, .int 0, .int 0, .int 0, .int 0]))] ++ ((cS g u1.1 (u1.2.1 0) (u1.2.2 0) ++ (cC g u1.2.1 cV1 ++ cT g u1.2.2 zV)) ++ ([(q2, .inl (g.2.1, 800, .inl (fun _ => 0)))]))) := hD
    refine lv_aload_n hx hb dX5_init_39 rfl (lv_at hl 0 rfl) ?_
    refine lv_iconst (v := (0 : Int32)) hx hb dX5_init_40 (by decide) ?_
    refine va_put (D := g.1) (ci := 5) (fs := [.ref (u1.1 0), .int (0 : Int32), .int (-1 : Int32), .ref q2, .int (0 : Int32), .int 0, .int 0, .int 0, .int 0, .int 0]) (v := .int (0 : Int32)) (ty := .int) (C := RX5) (T := TX5) (N := 10) hx hb htu hinX5 tyX5 tyX5_ok nmX5 hown hK hP hD hS 0 rfl rfl 5 (by decide) k_1_164 (fun _ h9 => h9) rfl (by decide +kernel) rfl rfl (Nat.le_of_ble_eq_true rfl) dX5_init_41 (fun H locs hP hD hS => ?_)
    have hP : va_P g.1 vwCl ([(a0, .inr (5, [.ref (u1.1 0), .int (0 : Int32), .int (-1 : Int32), .ref q2, .int (0 : Int32), .int (0 : Int32), .int 0, .int 0, .int 0, .int 0]))] ++ ((cS g u1.1 (u1.2.1 0) (u1.2.2 0) ++ (cC g u1.2.1 cV1 ++ cT g u1.2.2 zV)) ++ ([(q2, .inl (g.2.1, 800, .inl (fun _ => 0)))]))) H := hP
    have hD : va_D A ([(a0, .inr (5, [.ref (u1.1 0), .int (0 : Int32), .int (-1 : Int32), .ref q2, .int (0 : Int32), .int (0 : Int32), .int 0, .int 0, .int 0, .int 0]))] ++ ((cS g u1.1 (u1.2.1 0) (u1.2.2 0) ++ (cC g u1.2.1 cV1 ++ cT g u1.2.2 zV)) ++ ([(q2, .inl (g.2.1, 800, .inl (fun _ => 0)))]))) := hD
    refine lv_aload_n hx hb dX5_init_44 rfl (lv_at hl 0 rfl) ?_
    refine lv_iconst (v := (0 : Int32)) hx hb dX5_init_45 (by decide) ?_
    refine va_put (D := g.1) (ci := 5) (fs := [.ref (u1.1 0), .int (0 : Int32), .int (-1 : Int32), .ref q2, .int (0 : Int32), .int (0 : Int32), .int 0, .int 0, .int 0, .int 0]) (v := .int (0 : Int32)) (ty := .int) (C := RX5) (T := TX5) (N := 10) hx hb htu hinX5 tyX5 tyX5_ok nmX5 hown hK hP hD hS 0 rfl rfl 6 (by decide) k_1_165 (fun _ h9 => h9) rfl (by decide +kernel) rfl rfl (Nat.le_of_ble_eq_true rfl) dX5_init_46 (fun H locs hP hD hS => ?_)
    have hP : va_P g.1 vwCl ([(a0, .inr (5, [.ref (u1.1 0), .int (0 : Int32), .int (-1 : Int32), .ref q2, .int (0 : Int32), .int (0 : Int32), .int (0 : Int32), .int 0, .int 0, .int 0]))] ++ ((cS g u1.1 (u1.2.1 0) (u1.2.2 0) ++ (cC g u1.2.1 cV1 ++ cT g u1.2.2 zV)) ++ ([(q2, .inl (g.2.1, 800, .inl (fun _ => 0)))]))) H := hP
    have hD : va_D A ([(a0, .inr (5, [.ref (u1.1 0), .int (0 : Int32), .int (-1 : Int32), .ref q2, .int (0 : Int32), .int (0 : Int32), .int (0 : Int32), .int 0, .int 0, .int 0]))] ++ ((cS g u1.1 (u1.2.1 0) (u1.2.2 0) ++ (cC g u1.2.1 cV1 ++ cT g u1.2.2 zV)) ++ ([(q2, .inl (g.2.1, 800, .inl (fun _ => 0)))]))) := hD
    refine lv_aload_n hx hb dX5_init_49 rfl (lv_at hl 0 rfl) ?_
    refine lv_iconst (v := (0 : Int32)) hx hb dX5_init_50 (by decide) ?_
    refine va_put (D := g.1) (ci := 5) (fs := [.ref (u1.1 0), .int (0 : Int32), .int (-1 : Int32), .ref q2, .int (0 : Int32), .int (0 : Int32), .int (0 : Int32), .int 0, .int 0, .int 0]) (v := .int (0 : Int32)) (ty := .int) (C := RX5) (T := TX5) (N := 10) hx hb htu hinX5 tyX5 tyX5_ok nmX5 hown hK hP hD hS 0 rfl rfl 7 (by decide) k_1_166 (fun _ h9 => h9) rfl (by decide +kernel) rfl rfl (Nat.le_of_ble_eq_true rfl) dX5_init_51 (fun H locs hP hD hS => ?_)
    have hP : va_P g.1 vwCl ([(a0, .inr (5, [.ref (u1.1 0), .int (0 : Int32), .int (-1 : Int32), .ref q2, .int (0 : Int32), .int (0 : Int32), .int (0 : Int32), .int (0 : Int32), .int 0, .int 0]))] ++ ((cS g u1.1 (u1.2.1 0) (u1.2.2 0) ++ (cC g u1.2.1 cV1 ++ cT g u1.2.2 zV)) ++ ([(q2, .inl (g.2.1, 800, .inl (fun _ => 0)))]))) H := hP
    have hD : va_D A ([(a0, .inr (5, [.ref (u1.1 0), .int (0 : Int32), .int (-1 : Int32), .ref q2, .int (0 : Int32), .int (0 : Int32), .int (0 : Int32), .int (0 : Int32), .int 0, .int 0]))] ++ ((cS g u1.1 (u1.2.1 0) (u1.2.2 0) ++ (cC g u1.2.1 cV1 ++ cT g u1.2.2 zV)) ++ ([(q2, .inl (g.2.1, 800, .inl (fun _ => 0)))]))) := hD
    refine lv_aload_n hx hb dX5_init_54 rfl (lv_at hl 0 rfl) ?_
    refine lv_iconst (v := (0 : Int32)) hx hb dX5_init_55 (by decide) ?_
    refine va_put (D := g.1) (ci := 5) (fs := [.ref (u1.1 0), .int (0 : Int32), .int (-1 : Int32), .ref q2, .int (0 : Int32), .int (0 : Int32), .int (0 : Int32), .int (0 : Int32), .int 0, .int 0]) (v := .int (0 : Int32)) (ty := .int) (C := RX5) (T := TX5) (N := 10) hx hb htu hinX5 tyX5 tyX5_ok nmX5 hown hK hP hD hS 0 rfl rfl 8 (by decide) k_1_167 (fun _ h9 => h9) rfl (by decide +kernel) rfl rfl (Nat.le_of_ble_eq_true rfl) dX5_init_56 (fun H locs hP hD hS => ?_)
    have hP : va_P g.1 vwCl ([(a0, .inr (5, [.ref (u1.1 0), .int (0 : Int32), .int (-1 : Int32), .ref q2, .int (0 : Int32), .int (0 : Int32), .int (0 : Int32), .int (0 : Int32), .int (0 : Int32), .int 0]))] ++ ((cS g u1.1 (u1.2.1 0) (u1.2.2 0) ++ (cC g u1.2.1 cV1 ++ cT g u1.2.2 zV)) ++ ([(q2, .inl (g.2.1, 800, .inl (fun _ => 0)))]))) H := hP
    have hD : va_D A ([(a0, .inr (5, [.ref (u1.1 0), .int (0 : Int32), .int (-1 : Int32), .ref q2, .int (0 : Int32), .int (0 : Int32), .int (0 : Int32), .int (0 : Int32), .int (0 : Int32), .int 0]))] ++ ((cS g u1.1 (u1.2.1 0) (u1.2.2 0) ++ (cC g u1.2.1 cV1 ++ cT g u1.2.2 zV)) ++ ([(q2, .inl (g.2.1, 800, .inl (fun _ => 0)))]))) := hD
    refine lv_aload_n hx hb dX5_init_59 rfl (lv_at hl 0 rfl) ?_
    refine lv_iconst (v := (0 : Int32)) hx hb dX5_init_60 (by decide) ?_
    refine va_put (D := g.1) (ci := 5) (fs := [.ref (u1.1 0), .int (0 : Int32), .int (-1 : Int32), .ref q2, .int (0 : Int32), .int (0 : Int32), .int (0 : Int32), .int (0 : Int32), .int (0 : Int32), .int 0]) (v := .int (0 : Int32)) (ty := .int) (C := RX5) (T := TX5) (N := 10) hx hb htu hinX5 tyX5 tyX5_ok nmX5 hown hK hP hD hS 0 rfl rfl 9 (by decide) k_1_168 (fun _ h9 => h9) rfl (by decide +kernel) rfl rfl (Nat.le_of_ble_eq_true rfl) dX5_init_61 (fun H locs hP hD hS => ?_)
    have hP : va_P g.1 vwCl ([(a0, .inr (5, [.ref (u1.1 0), .int (0 : Int32), .int (-1 : Int32), .ref q2, .int (0 : Int32), .int (0 : Int32), .int (0 : Int32), .int (0 : Int32), .int (0 : Int32), .int (0 : Int32)]))] ++ ((cS g u1.1 (u1.2.1 0) (u1.2.2 0) ++ (cC g u1.2.1 cV1 ++ cT g u1.2.2 zV)) ++ ([(q2, .inl (g.2.1, 800, .inl (fun _ => 0)))]))) H := hP
    have hD : va_D A ([(a0, .inr (5, [.ref (u1.1 0), .int (0 : Int32), .int (-1 : Int32), .ref q2, .int (0 : Int32), .int (0 : Int32), .int (0 : Int32), .int (0 : Int32), .int (0 : Int32), .int (0 : Int32)]))] ++ ((cS g u1.1 (u1.2.1 0) (u1.2.2 0) ++ (cC g u1.2.1 cV1 ++ cT g u1.2.2 zV)) ++ ([(q2, .inl (g.2.1, 800, .inl (fun _ => 0)))]))) := hD
    have hp : (([(a0, .inr (5, [.ref (u1.1 0), .int (0 : Int32), .int (-1 : Int32), .ref q2, .int (0 : Int32), .int (0 : Int32), .int (0 : Int32), .int (0 : Int32), .int (0 : Int32), .int (0 : Int32)]))] ++ ((cS g u1.1 (u1.2.1 0) (u1.2.2 0) ++ (cC g u1.2.1 cV1 ++ cT g u1.2.2 zV)) ++ ([(q2, .inl (g.2.1, 800, .inl (fun _ => 0)))]))) : va_W).Perm ((([(a0, .inr (5, [.ref (u1.1 0), .int (0 : Int32), .int (-1 : Int32), .ref q2, .int (0 : Int32), .int (0 : Int32), .int (0 : Int32), .int (0 : Int32), .int (0 : Int32), .int (0 : Int32)]))] ++ [(q2, .inl (g.2.1, 800, .inl (fun _ => 0)))]) ++ (cS g u1.1 (u1.2.1 0) (u1.2.2 0) ++ (cC g u1.2.1 cV1 ++ cT g u1.2.2 zV))) : va_W) := kpc (fun P => by simp only [List.countP_append] <;> omega)
    have hP := hP.perm hp
    have hD := hD.perm hp
    exact k_nret0 (u := (fun i => if i = 0 then (fun j => if j = 0 then a0 else if j = 4 then q2 else 0) else if i = 1 then u1.1 else if i = 2 then u1.2.1 else u1.2.2)) (w1 := fun (u : Nat → Nat → Nat) => cD g (u 0) (u 1 0) (sF zV 2 (-1)) ++ (cS g (u 1) (u 2 0) (u 3 0) ++ (cC g (u 2) cV1 ++ cT g (u 3) zV))) (pr := fun (u : Nat → Nat → Nat) => u 0 0 = a0) hx hb hr hlocks hK hP hD hS rfl dX5_init_64
  rw [hH, hlo] at hW
  exact hW
