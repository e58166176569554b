abbrev rmX3_init_1 : Room := { frames := 2, cells := 8, slots := 784, locals := 32 }
set_option maxHeartbeats 4000000 in
set_option maxRecDepth 100000 in
theorem c_X3_init_1 (l : Launch) (g : Gx) (a0 : Nat) : CtN l yX3_init wsX3_init rmX3_init_1 g [.ref a0, .int (1 : Int32)] [(a0, .inr (3, [.null, .null, .null, .null, .int 0]))] (S := Nat → Nat → Nat) (fun (u : Nat → Nat → Nat) => cR g (u 0) 342 (u 1 0) (u 2 0) (sF zV 4 1) ++ (cL g (u 1) zV ++ cL g (u 2) zV)) (fun (u : Nat → Nat → Nat) => u 0 0 = a0) 8 784 := by
  unfold CtN
  intro sz
  refine Met.ofW (cc := cX3_init) (maxL := 2) (ret := none) (by decide) rfl ?_
  intro p e s m args below meth c s₁ B hml hv
  obtain ⟨rfl, hsz, hP, hK, hD0, hG⟩ := hv
  have hx := B.exec
  have hb := B.bytes
  have hr := B.returns
  have hts := atoms_spec (ws := wsX3_init) B.pre
  have hown : s.vm.findClass RX3 = some m.cls := findClass_of_methodNamed B.named
  have hlocks := B.notSynchronized
  have hin : meth.name = "<init>" := (name_of_methodNamed B.named B.method).1
  subst hsz
  have hD := hD0.self (sz := s.heap.size)
  generalize hAe : va_A [(a0, .inr (3, [.null, .null, .null, .null, .int 0]))] s.heap.size = A at hD hG ⊢
  have hA : ∀ q : Nat, s.heap.size ≤ q → A q := fun q h => by rw [← hAe]; exact Or.inr h
  clear hAe hD0
  have hS : va_S A s.heap s.heap [] := va_S.rf
  have hl := lv_entry ([.ref a0, .int (1 : Int32)]) (n := 2) (Nat.le_of_ble_eq_true rfl)
  rw [lg_entry_eq]
  generalize (lg_sl ([.ref a0, .int (1 : Int32)]) ++ List.replicate (2 - (lg_sl ([.ref a0, .int (1 : Int32)])).length) Slot.unset).toArray = ls at hl ⊢
  have hl : lv_has ls 2 [(0, .ref a0), (1, .int (1 : Int32))] := hl
  have htu : ∀ w ∈ UW, w.before _ s = true := fun w h => hts w (List.mem_cons_of_mem _ h)
  have k_1_216 := htu _ mw_1_216
  have k_1_217 := htu _ mw_1_217
  have k_1_218 := htu _ mw_1_218
  have k_1_21 := htu _ mw_1_21
  have k_1_233 := htu _ mw_1_233
  have k_1_235 := htu _ mw_1_235
  have k_1_239 := htu _ mw_1_239
  have k_1_232 := htu _ mw_1_232
  have k_1_237 := htu _ mw_1_237
  have k_1_238 := htu _ mw_1_238
  obtain ⟨H, hH⟩ : ∃ z, z = s.heap := ⟨_, rfl⟩
  obtain ⟨locs, hlo⟩ : ∃ z : List Loc, z = [] := ⟨_, rfl⟩
  have hS : va_S A s.heap H locs := by rw [hH, hlo]; exact hS
  rw [← hH] at hP
  have hW : W p l e (headSpec wsX3_init rmX3_init_1).room s m ([.ref a0, .int (1 : Int32)] : List Value).toArray below meth c H locs 0 0 (MQ below (va_Qv (fun (u : Nat → Nat → Nat) => u 0 0 = a0) (fun (u : Nat → Nat → Nat) => wE g A ((fun (u : Nat → Nat → Nat) => cR g (u 0) 342 (u 1 0) (u 2 0) (sF zV 4 1) ++ (cL g (u 1) zV ++ cL g (u 2) zV)) u)) A) ([.ref a0, .int (1 : Int32)] : List Value).toArray s 8 784 A) (F0 m 0 ls []) := by
    refine lv_aload_n hx hb dX3_init_0 rfl (lv_at hl 0 rfl) ?_
    refine W.objInit hx hb hown k_1_216 (htu _ mw_1_35) (htu _ mw_1_36) rfl (by rw [hml]; exact hl.1) rfl dX3_init_1 (Nat.le_of_ble_eq_true rfl) (Nat.le_of_ble_eq_true rfl) ?_
    refine W.eq (g2 := F0 m 4 ls []) rfl ?_
    refine lv_aload_n hx hb dX3_init_4 rfl (lv_at hl 0 rfl) ?_
    refine va_new (D := g.1) (ci := 2) (fs := [.null, .null]) (C := RX2) (T := TX2) (N := 2) hx hb htu hinX2 tyX2 tyX2_ok hown k_1_217 k_1_218 k_1_21 hK hP hD hS hA rfl (fun j hj => by rcases (show j = 0 ∨ j = 1 by omega) with rfl | rfl <;> rfl) (Nat.le_of_ble_eq_true rfl) (Nat.le_of_ble_eq_true rfl) dX3_init_5 (fun q0 H hP hD hS => ?_)
    have hP : va_P g.1 vwCl ([(a0, .inr (3, [.null, .null, .null, .null, .int 0])), (q0, .inr (2, [.null, .null]))]) H := hP
    have hD : va_D A ([(a0, .inr (3, [.null, .null, .null, .null, .int 0])), (q0, .inr (2, [.null, .null]))]) := hD
    refine W.widen (k := 1) (n := 2) (by omega) (by omega) ?_
    refine lv_dup hx hb dX3_init_8 rfl ?_
    refine k_ctor (host := "FaultTests") ⟨hx, hb, hml, hown, htu⟩ hK hP hD hS hA hG (c_X2_init l g q0) (Or.inr ⟨va_cnB 0 htu (gU_0 mw_1_221) rfl rfl rfl (hG.1.2.2.1 ("FaultTests$Rows", 11, yX2_init, "FaultTests") (List.mem_of_getElem? (i := 5) rfl)) (htu _ mw_1_21) hdX2_init ⟨Nat.le_of_ble_eq_true rfl, Nat.le_of_ble_eq_true rfl⟩, rfl, htu _ mw_1_220⟩) (wr := [(a0, .inr (3, [.null, .null, .null, .null, .int 0]))]) (e0 := .inr (2, [.null, .null])) rfl (As := []) (rest := [.ref q0, .ref a0]) rfl rfl hl.1 (Nat.le_of_ble_eq_true rfl) dX3_init_9 (k1 := 3) (n1 := 50) rfl rfl ⟨Nat.le_of_ble_eq_true rfl, Nat.le_of_ble_eq_true rfl⟩ (fun u1 H locs hu1 hP9 hD9 hS => ?_)
    subst hu1
    have hP := hP9
    have hD := hD9
    have hP : va_P g.1 vwCl ([(a0, .inr (3, [.null, .null, .null, .null, .int 0]))] ++ ((cL g u1 zV))) H := hP
    have hD : va_D A ([(a0, .inr (3, [.null, .null, .null, .null, .int 0]))] ++ ((cL g u1 zV))) := hD
    refine va_putF (D := g.1) (ci := 3) (fs := [.null, .null, .null, .null, .int 0]) (v := .ref (u1 0)) (ty := .object "FaultTests$Lanes") (C := RX3) (T := TX3) (N := 5) hx hb htu hinX3 tyX3 tyX3_ok nmX3 hown hK hP hD hS 0 rfl rfl 0 (by decide) k_1_233 (fun _ h9 => h9) rfl hin rfl (by decide +kernel) rfl rfl (Nat.le_of_ble_eq_true rfl) dX3_init_12 (fun H locs hP hD hS => ?_)
    have hP : va_P g.1 vwCl ([(a0, .inr (3, [.ref (u1 0), .null, .null, .null, .int 0]))] ++ ((cL g u1 zV))) H := hP
    have hD : va_D A ([(a0, .inr (3, [.ref (u1 0), .null, .null, .null, .int 0]))] ++ ((cL g u1 zV))) := hD
    refine lv_aload_n hx hb dX3_init_15 rfl (lv_at hl 0 rfl) ?_
    refine va_new (D := g.1) (ci := 2) (fs := [.null, .null]) (C := RX2) (T := TX2) (N := 2) hx hb htu hinX2 tyX2 tyX2_ok hown k_1_217 k_1_218 k_1_21 hK hP hD hS hA rfl (fun j hj => by rcases (show j = 0 ∨ j = 1 by omega) with rfl | rfl <;> rfl) (Nat.le_of_ble_eq_true rfl) (Nat.le_of_ble_eq_true rfl) dX3_init_16 (fun q2 H hP hD hS => ?_)
    have hP : va_P g.1 vwCl ([(a0, .inr (3, [.ref (u1 0), .null, .null, .null, .int 0]))] ++ ((cL g u1 zV) ++ ([(q2, .inr (2, [.null, .null]))]))) H := hP
    have hD : va_D A ([(a0, .inr (3, [.ref (u1 0), .null, .null, .null, .int 0]))] ++ ((cL g u1 zV) ++ ([(q2, .inr (2, [.null, .null]))]))) := hD
    refine W.widen (k := 4) (n := 52) (by omega) (by omega) ?_
    refine lv_dup hx hb dX3_init_19 rfl ?_
    refine k_ctor (host := "FaultTests") ⟨hx, hb, hml, hown, htu⟩ hK hP hD hS hA hG (c_X2_init l g q2) (Or.inr ⟨va_cnB 0 htu (gU_0 mw_1_221) rfl rfl rfl (hG.1.2.2.1 ("FaultTests$Rows", 11, yX2_init, "FaultTests") (List.mem_of_getElem? (i := 5) rfl)) (htu _ mw_1_21) hdX2_init ⟨Nat.le_of_ble_eq_true rfl, Nat.le_of_ble_eq_true rfl⟩, rfl, htu _ mw_1_220⟩) (wr := [(a0, .inr (3, [.ref (u1 0), .null, .null, .null, .int 0]))] ++ ((cL g u1 zV))) (e0 := .inr (2, [.null, .null])) rfl (As := []) (rest := [.ref q2, .ref a0]) rfl rfl hl.1 (Nat.le_of_ble_eq_true rfl) dX3_init_20 (k1 := 6) (n1 := 100) rfl rfl ⟨Nat.le_of_ble_eq_true rfl, Nat.le_of_ble_eq_true rfl⟩ (fun u3 H locs hu3 hP9 hD9 hS => ?_)
    subst hu3
    have hP := hP9
    have hD := hD9
    have hP : va_P g.1 vwCl ([(a0, .inr (3, [.ref (u1 0), .null, .null, .null, .int 0]))] ++ ((cL g u1 zV) ++ ((cL g u3 zV)))) H := hP
    have hD : va_D A ([(a0, .inr (3, [.ref (u1 0), .null, .null, .null, .int 0]))] ++ ((cL g u1 zV) ++ ((cL g u3 zV)))) := hD
    refine va_putF (D := g.1) (ci := 3) (fs := [.ref (u1 0), .null, .null, .null, .int 0]) (v := .ref (u3 0)) (ty := .object "FaultTests$Lanes") (C := RX3) (T := TX3) (N := 5) hx hb htu hinX3 tyX3 tyX3_ok nmX3 hown hK hP hD hS 0 rfl rfl 1 (by decide) k_1_235 (fun _ h9 => h9) rfl hin rfl (by decide +kernel) rfl rfl (Nat.le_of_ble_eq_true rfl) dX3_init_23 (fun H locs hP hD hS => ?_)
    have hP : va_P g.1 vwCl ([(a0, .inr (3, [.ref (u1 0), .ref (u3 0), .null, .null, .int 0]))] ++ ((cL g u1 zV) ++ ((cL g u3 zV)))) H := hP
    have hD : va_D A ([(a0, .inr (3, [.ref (u1 0), .ref (u3 0), .null, .null, .int 0]))] ++ ((cL g u1 zV) ++ ((cL g u3 zV)))) := hD
    refine lv_aload_n hx hb dX3_init_26 rfl (lv_at hl 0 rfl) ?_
    refine lv_iload_n hx hb dX3_init_27 rfl (lv_at hl 1 rfl) ?_
    refine va_putF (D := g.1) (ci := 3) (fs := [.ref (u1 0), .ref (u3 0), .null, .null, .int 0]) (v := .int (1 : Int32)) (ty := .int) (C := RX3) (T := TX3) (N := 5) hx hb htu hinX3 tyX3 tyX3_ok nmX3 hown hK hP hD hS 0 rfl rfl 4 (by decide) k_1_239 (fun _ h9 => h9) rfl hin rfl (by decide +kernel) rfl rfl (Nat.le_of_ble_eq_true rfl) dX3_init_28 (fun H locs hP hD hS => ?_)
    have hP : va_P g.1 vwCl ([(a0, .inr (3, [.ref (u1 0), .ref (u3 0), .null, .null, .int (1 : Int32)]))] ++ ((cL g u1 zV) ++ ((cL g u3 zV)))) H := hP
    have hD : va_D A ([(a0, .inr (3, [.ref (u1 0), .ref (u3 0), .null, .null, .int (1 : Int32)]))] ++ ((cL g u1 zV) ++ ((cL g u3 zV)))) := hD
    refine lv_aload_n hx hb dX3_init_31 rfl (lv_at hl 0 rfl) ?_
    refine lv_sipush (v := (342 : Int32)) hx hb dX3_init_32 (by decide) ?_
    refine lv_iload_n hx hb dX3_init_35 rfl (lv_at hl 1 rfl) ?_
    refine lv_imul hx hb dX3_init_36 ?_
    refine k_newJ (N' := 342) hx hb k_1_232 hK hP hD hS hA (by decide) (by decide) (by decide) (Nat.le_of_ble_eq_true rfl) (Nat.le_of_ble_eq_true rfl) dX3_init_37 (fun q4 H hP hD hS => ?_)
    have hP : va_P g.1 vwCl ([(a0, .inr (3, [.ref (u1 0), .ref (u3 0), .null, .null, .int (1 : Int32)]))] ++ ((cL g u1 zV) ++ ((cL g u3 zV) ++ ([(q4, .inl (g.2.2.1, 342, .inr (.inl (fun _ => 0))))])))) H := hP
    have hD : va_D A ([(a0, .inr (3, [.ref (u1 0), .ref (u3 0), .null, .null, .int (1 : Int32)]))] ++ ((cL g u1 zV) ++ ((cL g u3 zV) ++ ([(q4, .inl (g.2.2.1, 342, .inr (.inl (fun _ => 0))))])))) := hD
    refine W.widen (k := 7) (n := 442) (by omega) (by omega) ?_
    refine va_putF (D := g.1) (ci := 3) (fs := [.ref (u1 0), .ref (u3 0), .null, .null, .int (1 : Int32)]) (v := .ref q4) (ty := .array .long) (C := RX3) (T := TX3) (N := 5) hx hb htu hinX3 tyX3 tyX3_ok nmX3 hown hK hP hD hS 0 rfl rfl 2 (by decide) k_1_237 (fun _ h9 => h9) rfl hin rfl (by decide +kernel) rfl rfl (Nat.le_of_ble_eq_true rfl) dX3_init_39 (fun H locs hP hD hS => ?_)
    have hP : va_P g.1 vwCl ([(a0, .inr (3, [.ref (u1 0), .ref (u3 0), .ref q4, .null, .int (1 : Int32)]))] ++ ((cL g u1 zV) ++ ((cL g u3 zV) ++ ([(q4, .inl (g.2.2.1, 342, .inr (.inl (fun _ => 0))))])))) H := hP
    have hD : va_D A ([(a0, .inr (3, [.ref (u1 0), .ref (u3 0), .ref q4, .null, .int (1 : Int32)]))] ++ ((cL g u1 zV) ++ ((cL g u3 zV) ++ ([(q4, .inl (g.2.2.1, 342, .inr (.inl (fun _ => 0))))])))) := hD
    refine lv_aload_n hx hb dX3_init_42 rfl (lv_at hl 0 rfl) ?_
    refine lv_sipush (v := (342 : Int32)) hx hb dX3_init_43 (by decide) ?_
    refine lv_iload_n hx hb dX3_init_46 rfl (lv_at hl 1 rfl) ?_
    refine lv_imul hx hb dX3_init_47 ?_
    refine k_newJ (N' := 342) hx hb k_1_232 hK hP hD hS hA (by decide) (by decide) (by decide) (Nat.le_of_ble_eq_true rfl) (Nat.le_of_ble_eq_true rfl) dX3_init_48 (fun q5 H hP hD hS => ?_)
    have hP : va_P g.1 vwCl ([(a0, .inr (3, [.ref (u1 0), .ref (u3 0), .ref q4, .null, .int (1 : Int32)]))] ++ ((cL g u1 zV) ++ ((cL g u3 zV) ++ ([(q4, .inl (g.2.2.1, 342, .inr (.inl (fun _ => 0)))), (q5, .inl (g.2.2.1, 342, .inr (.inl (fun _ => 0))))])))) H := hP
    have hD : va_D A ([(a0, .inr (3, [.ref (u1 0), .ref (u3 0), .ref q4, .null, .int (1 : Int32)]))] ++ ((cL g u1 zV) ++ ((cL g u3 zV) ++ ([(q4, .inl (g.2.2.1, 342, .inr (.inl (fun _ => 0)))), (q5, .inl (g.2.2.1, 342, .inr (.inl (fun _ => 0))))])))) := hD
    refine W.widen (k := 8) (n := 784) (by omega) (by omega) ?_
    refine va_putF (D := g.1) (ci := 3) (fs := [.ref (u1 0), .ref (u3 0), .ref q4, .null, .int (1 : Int32)]) (v := .ref q5) (ty := .array .long) (C := RX3) (T := TX3) (N := 5) hx hb htu hinX3 tyX3 tyX3_ok nmX3 hown hK hP hD hS 0 rfl rfl 3 (by decide) k_1_238 (fun _ h9 => h9) rfl hin rfl (by decide +kernel) rfl rfl (Nat.le_of_ble_eq_true rfl) dX3_init_50 (fun H locs hP hD hS => ?_)
    have hP : va_P g.1 vwCl ([(a0, .inr (3, [.ref (u1 0), .ref (u3 0), .ref q4, .ref q5, .int (1 : Int32)]))] ++ ((cL g u1 zV) ++ ((cL g u3 zV) ++ ([(q4, .inl (g.2.2.1, 342, .inr (.inl (fun _ => 0)))), (q5, .inl (g.2.2.1, 342, .inr (.inl (fun _ => 0))))])))) H := hP
    have hD : va_D A ([(a0, .inr (3, [.ref (u1 0), .ref (u3 0), .ref q4, .ref q5, .int (1 : Int32)]))] ++ ((cL g u1 zV) ++ ((cL g u3 zV) ++ ([(q4, .inl (g.2.2.1, 342, .inr (.inl (fun _ => 0)))), (q5, .inl (g.2.2.1, 342, .inr (.inl (fun _ => 0))))])))) := hD
    have hp : (([(a0, .inr (3, [.ref (u1 0), .ref (u3 0), .ref q4, .ref q5, .int (1 : Int32)]))] ++ ((cL g u1 zV) ++ ((cL g u3 zV) ++ ([(q4, .inl (g.2.2.1, 342, .inr (.inl (fun _ => 0))))] ++ ([(q5, .inl (g.2.2.1, 342, .inr (.inl (fun _ => 0))))]))))) : va_W).Perm ((([(a0, .inr (3, [.ref (u1 0), .ref (u3 0), .ref q4, .ref q5, .int (1 : Int32)]))] ++ ([(q4, .inl (g.2.2.1, 342, .inr (.inl (fun _ => 0))))] ++ [(q5, .inl (g.2.2.1, 342, .inr (.inl (fun _ => 0))))])) ++ ((cL g u1 zV) ++ (cL g u3 zV))) : va_W) := kpc (fun P => by simp only [List.countP_append] <;> omega)
    have hP := hP.perm hp
    have hD := hD.perm hp
    exact k_nret0 (u := (fun i => if i = 0 then (fun j => if j = 0 then a0 else if j = 3 then q4 else if j = 4 then q5 else 0) else if i = 1 then u1 else u3)) (w1 := fun (u : Nat → Nat → Nat) => cR g (u 0) 342 (u 1 0) (u 2 0) (sF zV 4 1) ++ (cL g (u 1) zV ++ cL g (u 2) zV)) (pr := fun (u : Nat → Nat → Nat) => u 0 0 = a0) hx hb hr hlocks hK hP hD hS rfl dX3_init_53
  rw [hH, hlo] at hW
  exact hW
