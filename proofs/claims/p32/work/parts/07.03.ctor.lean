abbrev wsX4_init : List Cond := .code yX4_init cX4_init 1 none :: UW
abbrev rmX4_init : Room := { frames := 2, cells := 16, slots := 309, locals := 42 }
set_option maxHeartbeats 4000000 in
set_option maxRecDepth 100000 in
theorem c_X4_init (l : Launch) (g : Gx) (a0 : Nat) : CtN l yX4_init wsX4_init rmX4_init g [.ref a0] [(a0, .inr (4, [.null, .null]))] (S := (Nat → Nat) × (Nat → Nat) × (Nat → Nat)) (fun (u : (Nat → Nat) × (Nat → Nat) × (Nat → Nat)) => cS g u.1 (u.2.1 0) (u.2.2 0) ++ (cC g u.2.1 cV1 ++ cT g u.2.2 zV)) (fun (u : (Nat → Nat) × (Nat → Nat) × (Nat → Nat)) => u.1 0 = a0) 16 309 := by
  unfold CtN
  intro sz
  refine Met.ofW (cc := cX4_init) (maxL := 1) (ret := none) (by decide) rfl ?_
  intro p e s m args below meth c s₁ B hml hv
  obtain ⟨rfl, hsz, hP, hK, hD0, hG⟩ := hv
  have hx := B.exec
  have hb := B.bytes
  have hr := B.returns
  have hts := atoms_spec (ws := wsX4_init) B.pre
  have hown : s.vm.findClass RX4 = some m.cls := findClass_of_methodNamed B.named
  have hlocks := B.notSynchronized
  have hin : meth.name = "<init>" := (name_of_methodNamed B.named B.method).1
  subst hsz
  have hD := hD0.self (sz := s.heap.size)
  generalize hAe : va_A [(a0, .inr (4, [.null, .null]))] s.heap.size = A at hD hG ⊢
  have hA : ∀ q : Nat, s.heap.size ≤ q → A q := fun q h => by rw [← hAe]; exact Or.inr h
  clear hAe hD0
  have hS : va_S A s.heap s.heap [] := va_S.rf
  have hl := lv_entry ([.ref a0]) (n := 1) (Nat.le_of_ble_eq_true rfl)
  rw [lg_entry_eq]
  generalize (lg_sl ([.ref a0]) ++ List.replicate (1 - (lg_sl ([.ref a0])).length) Slot.unset).toArray = ls at hl ⊢
  have hl : lv_has ls 1 [(0, .ref a0)] := hl
  have htu : ∀ w ∈ UW, w.before _ s = true := fun w h => hts w (List.mem_cons_of_mem _ h)
  have k_1_48 := htu _ mw_1_48
  have k_1_49 := htu _ mw_1_49
  have k_1_50 := htu _ mw_1_50
  have k_1_17 := htu _ mw_1_17
  have k_1_146 := htu _ mw_1_146
  have k_1_120 := htu _ mw_1_120
  have k_1_121 := htu _ mw_1_121
  have k_1_18 := htu _ mw_1_18
  have k_1_149 := htu _ mw_1_149
  obtain ⟨H, hH⟩ : ∃ z, z = s.heap := ⟨_, rfl⟩
  obtain ⟨locs, hlo⟩ : ∃ z : List Loc, z = [] := ⟨_, rfl⟩
  have hS : va_S A s.heap H locs := by rw [hH, hlo]; exact hS
  rw [← hH] at hP
  have hW : W p l e (headSpec wsX4_init rmX4_init).room s m ([.ref a0] : List Value).toArray below meth c H locs 0 0 (MQ below (va_Qv (fun (u : (Nat → Nat) × (Nat → Nat) × (Nat → Nat)) => u.1 0 = a0) (fun (u : (Nat → Nat) × (Nat → Nat) × (Nat → Nat)) => wE g A ((fun (u : (Nat → Nat) × (Nat → Nat) × (Nat → Nat)) => cS g u.1 (u.2.1 0) (u.2.2 0) ++ (cC g u.2.1 cV1 ++ cT g u.2.2 zV)) u)) A) ([.ref a0] : List Value).toArray s 16 309 A) (F0 m 0 ls []) := by
    refine lv_aload_n hx hb dX4_init_0 rfl (lv_at hl 0 rfl) ?_
    refine W.objInit hx hb hown k_1_48 (htu _ mw_1_35) (htu _ mw_1_36) rfl (by rw [hml]; exact hl.1) rfl dX4_init_1 (Nat.le_of_ble_eq_true rfl) (Nat.le_of_ble_eq_true rfl) ?_
    refine W.eq (g2 := F0 m 4 ls []) rfl ?_
    refine lv_aload_n hx hb dX4_init_4 rfl (lv_at hl 0 rfl) ?_
    refine va_new (D := g.1) (ci := 0) (fs := [.int 0, .int 0, .int 0, .int 0, .null, .null, .null, .null, .null, .null, .null, .null, .null, .null]) (C := RX0) (T := TX0) (N := 14) hx hb htu hinX0 tyX0 tyX0_ok hown k_1_49 k_1_50 k_1_17 hK hP hD hS hA rfl (fun j hj => by rcases (show j = 0 ∨ j = 1 ∨ j = 2 ∨ j = 3 ∨ j = 4 ∨ j = 5 ∨ j = 6 ∨ j = 7 ∨ j = 8 ∨ j = 9 ∨ j = 10 ∨ j = 11 ∨ j = 12 ∨ j = 13 by omega) with rfl | rfl | rfl | rfl | rfl | rfl | rfl | rfl | rfl | rfl | rfl | rfl | rfl | rfl <;> rfl) (Nat.le_of_ble_eq_true rfl) (Nat.le_of_ble_eq_true rfl) dX4_init_5 (fun q0 H hP hD hS => ?_)
    have hP : va_P g.1 vwCl ([(a0, .inr (4, [.null, .null])), (q0, .inr (0, [.int 0, .int 0, .int 0, .int 0, .null, .null, .null, .null, .null, .null, .null, .null, .null, .null]))]) H := hP
    have hD : va_D A ([(a0, .inr (4, [.null, .null])), (q0, .inr (0, [.int 0, .int 0, .int 0, .int 0, .null, .null, .null, .null, .null, .null, .null, .null, .null, .null]))]) := hD
    refine W.widen (k := 1) (n := 14) (by omega) (by omega) ?_
    refine lv_dup hx hb dX4_init_8 rfl ?_
    refine k_ctor (host := "FaultTests") ⟨hx, hb, hml, hown, htu⟩ hK hP hD hS hA hG (c_X0_init l g q0) (Or.inl (cwI 0 htu (gU_0 mw_1_53) rfl rfl rfl (htu _ mw_1_17) (htu _ mw_1_51) (htu _ mw_1_52) rfl hdX0_init ⟨Nat.le_of_ble_eq_true rfl, Nat.le_of_ble_eq_true rfl⟩)) (wr := [(a0, .inr (4, [.null, .null]))]) (e0 := .inr (0, [.int 0, .int 0, .int 0, .int 0, .null, .null, .null, .null, .null, .null, .null, .null, .null, .null])) rfl (As := []) (rest := [.ref q0, .ref a0]) rfl rfl hl.1 (Nat.le_of_ble_eq_true rfl) dX4_init_9 (k1 := 11) (n1 := 260) rfl rfl ⟨Nat.le_of_ble_eq_true rfl, Nat.le_of_ble_eq_true rfl⟩ (fun u1 H locs hu1 hP9 hD9 hS => ?_)
    subst hu1
    have hP := hP9
    have hD := hD9
    have hP : va_P g.1 vwCl ([(a0, .inr (4, [.null, .null]))] ++ ((cC g u1 cV1))) H := hP
    have hD : va_D A ([(a0, .inr (4, [.null, .null]))] ++ ((cC g u1 cV1))) := hD
    refine va_putF (D := g.1) (ci := 4) (fs := [.null, .null]) (v := .ref (u1 0)) (ty := .object "FaultTests$Circuit") (C := RX4) (T := TX4) (N := 2) hx hb htu hinX4 tyX4 tyX4_ok nmX4 hown hK hP hD hS 0 rfl rfl 0 (by decide) k_1_146 (fun _ h9 => h9) rfl hin rfl (by decide +kernel) rfl rfl (Nat.le_of_ble_eq_true rfl) dX4_init_12 (fun H locs hP hD hS => ?_)
    have hP : va_P g.1 vwCl ([(a0, .inr (4, [.ref (u1 0), .null]))] ++ ((cC g u1 cV1))) H := hP
    have hD : va_D A ([(a0, .inr (4, [.ref (u1 0), .null]))] ++ ((cC g u1 cV1))) := hD
    refine lv_aload_n hx hb dX4_init_15 rfl (lv_at hl 0 rfl) ?_
    refine va_new (D := g.1) (ci := 6) (fs := [.int 0, .null, .null, .null, .null]) (C := RX6) (T := TX6) (N := 5) hx hb htu hinX6 tyX6 tyX6_ok hown k_1_120 k_1_121 k_1_18 hK hP hD hS hA rfl (fun j hj => by rcases (show j = 0 ∨ j = 1 ∨ j = 2 ∨ j = 3 ∨ j = 4 by omega) with rfl | rfl | rfl | rfl | rfl <;> rfl) (Nat.le_of_ble_eq_true rfl) (Nat.le_of_ble_eq_true rfl) dX4_init_16 (fun q2 H hP hD hS => ?_)
    have hP : va_P g.1 vwCl ([(a0, .inr (4, [.ref (u1 0), .null]))] ++ ((cC g u1 cV1) ++ ([(q2, .inr (6, [.int 0, .null, .null, .null, .null]))]))) H := hP
    have hD : va_D A ([(a0, .inr (4, [.ref (u1 0), .null]))] ++ ((cC g u1 cV1) ++ ([(q2, .inr (6, [.int 0, .null, .null, .null, .null]))]))) := hD
    refine W.widen (k := 12) (n := 265) (by omega) (by omega) ?_
    refine lv_dup hx hb dX4_init_19 rfl ?_
    refine k_ctor (host := "FaultTests") ⟨hx, hb, hml, hown, htu⟩ hK hP hD hS hA hG (c_X6_init l g q2) (Or.inr ⟨va_cnB 0 htu (gU_0 mw_1_124) rfl rfl rfl (hG.1.2.2.1 ("FaultTests$Setup", 18, yX6_init, "FaultTests") (List.mem_of_getElem? (i := 2) rfl)) (htu _ mw_1_18) hdX6_init ⟨Nat.le_of_ble_eq_true rfl, Nat.le_of_ble_eq_true rfl⟩, rfl, htu _ mw_1_123⟩) (wr := [(a0, .inr (4, [.ref (u1 0), .null]))] ++ ((cC g u1 cV1))) (e0 := .inr (6, [.int 0, .null, .null, .null, .null])) rfl (As := []) (rest := [.ref q2, .ref a0]) rfl rfl hl.1 (Nat.le_of_ble_eq_true rfl) dX4_init_20 (k1 := 16) (n1 := 309) rfl rfl ⟨Nat.le_of_ble_eq_true rfl, Nat.le_of_ble_eq_true rfl⟩ (fun u3 H locs hu3 hP9 hD9 hS => ?_)
    subst hu3
    have hP := hP9
    have hD := hD9
    have hP : va_P g.1 vwCl ([(a0, .inr (4, [.ref (u1 0), .null]))] ++ ((cC g u1 cV1) ++ ((cT g u3 zV)))) H := hP
    have hD : va_D A ([(a0, .inr (4, [.ref (u1 0), .null]))] ++ ((cC g u1 cV1) ++ ((cT g u3 zV)))) := hD
    refine va_putF (D := g.1) (ci := 4) (fs := [.ref (u1 0), .null]) (v := .ref (u3 0)) (ty := .object "FaultTests$TestList") (C := RX4) (T := TX4) (N := 2) hx hb htu hinX4 tyX4 tyX4_ok nmX4 hown hK hP hD hS 0 rfl rfl 1 (by decide) k_1_149 (fun _ h9 => h9) rfl hin rfl (by decide +kernel) rfl rfl (Nat.le_of_ble_eq_true rfl) dX4_init_23 (fun H locs hP hD hS => ?_)
    have hP : va_P g.1 vwCl ([(a0, .inr (4, [.ref (u1 0), .ref (u3 0)]))] ++ ((cC g u1 cV1) ++ ((cT g u3 zV)))) H := hP
    have hD : va_D A ([(a0, .inr (4, [.ref (u1 0), .ref (u3 0)]))] ++ ((cC g u1 cV1) ++ ((cT g u3 zV)))) := hD
    exact k_nret0 (u := ((fun _ => a0), u1, u3)) (w1 := fun (u : (Nat → Nat) × (Nat → Nat) × (Nat → Nat)) => cS g u.1 (u.2.1 0) (u.2.2 0) ++ (cC g u.2.1 cV1 ++ cT g u.2.2 zV)) (pr := fun (u : (Nat → Nat) × (Nat → Nat) × (Nat → Nat)) => u.1 0 = a0) hx hb hr hlocks hK hP hD hS rfl dX4_init_26
  rw [hH, hlo] at hW
  exact hW
