def f_X8_see (vM : Vs) (x1 : Int32) (x2 : Int32) (x3 : Int32) : Option (Int32 × Vs) :=
  bn (sF vM 0 (0 : Int32)) (fun (vM_1 : Vs) => o2 (f_X8_isTest vM_1 x1) (fun (r2 : Int32) (vM_3 : Vs) => jn (fun (vM_5 : Vs) => some ((0 : Int32), vM_5)) (fun k6 => if r2 = 0 then k6 vM_3 else o1 (f_X8_outputs vM_3) (fun (r12 : Int32) => o1 (f_X8_isIn x2 (0 : Int32) (r12 - (1 : Int32))) (fun (r14 : Int32) => o2 (f_X8_right vM_3 r14 (1 : Int32)) (fun (r16 : Int32) (vM_17 : Vs) => if r16 = 0 then k6 vM_17 else o1 (f_X8_isIn x3 (0 : Int32) (2 : Int32)) (fun (r20 : Int32) => o2 (f_X8_right vM_17 r20 (2 : Int32)) (fun (r22 : Int32) (vM_23 : Vs) => if r22 = 0 then k6 vM_23 else o1 (f_X8_change vM_23) (fun (vM_26 : Vs) => o1 (f_X8_put vM_26 (((310 : Int32) + ((6 : Int32) * x1)) + x2) x3) (fun (vM_28 : Vs) => o2 (f_X8_fitting vM_28) (fun (r30 : Int32) (vM_31 : Vs) => some (r30, vM_31))))))))))))
abbrev wsX8_see : List Cond := .code yX8_see cX8_see 4 (some .int) :: UW
abbrev rmX8_see : Room := { frames := 6, cells := 0, slots := 0, locals := 135 }
set_option maxHeartbeats 4000000 in
set_option maxRecDepth 100000 in
theorem c_X8_see (l : Launch) (g : Gx) (bM : Nat → Nat) (vM : Vs) (x1 : Int32) (x2 : Int32) (x3 : Int32) (r : Int32) (vM1 : Vs) (hf : f_X8_see vM x1 x2 x3 = some (r, vM1)) : CtI l yX8_see wsX8_see rmX8_see g [.ref (bM 0), .int x1, .int x2, .int x3] (cM g bM vM) (cM g bM vM1) r 0 0 := by
  unfold CtI
  intro sz
  refine Met.ofW (cc := cX8_see) (maxL := 4) (ret := (some .int)) (by decide) rfl ?_
  intro p e s m args below meth c s₁ B hml hv
  obtain ⟨rfl, hsz, hP, hK, hD0, hG⟩ := hv
  have hx := B.exec
  have hb := B.bytes
  have hr := B.returns
  have hts := atoms_spec (ws := wsX8_see) B.pre
  have hown : s.vm.findClass RX8 = some m.cls := findClass_of_methodNamed B.named
  have hlocks := B.notSynchronized
  subst hsz
  have hD := hD0.self (sz := s.heap.size)
  generalize hAe : va_A (cM g bM vM) s.heap.size = A at hD hG ⊢
  have hA : ∀ q : Nat, s.heap.size ≤ q → A q := fun q h => by rw [← hAe]; exact Or.inr h
  clear hAe hD0
  have hS : va_S A s.heap s.heap [] := va_S.rf
  have hl := lv_entry ([.ref (bM 0), .int x1, .int x2, .int x3]) (n := 4) (Nat.le_of_ble_eq_true rfl)
  rw [lg_entry_eq]
  generalize (lg_sl ([.ref (bM 0), .int x1, .int x2, .int x3]) ++ List.replicate (4 - (lg_sl ([.ref (bM 0), .int x1, .int x2, .int x3])).length) Slot.unset).toArray = ls at hl ⊢
  have hl : lv_has ls 4 [(0, .ref (bM 0)), (1, .int x1), (2, .int x2), (3, .int x3)] := hl
  have htu : ∀ w ∈ UW, w.before _ s = true := fun w h => hts w (List.mem_cons_of_mem _ h)
  have k_5_72 := htu _ mw_5_72
  unfold f_X8_see at hf
  obtain ⟨H, hH⟩ : ∃ z, z = s.heap := ⟨_, rfl⟩
  obtain ⟨locs, hlo⟩ : ∃ z : List Loc, z = [] := ⟨_, rfl⟩
  have hS : va_S A s.heap H locs := by rw [hH, hlo]; exact hS
  rw [← hH] at hP
  have hW : W p l e (headSpec wsX8_see rmX8_see).room s m ([.ref (bM 0), .int x1, .int x2, .int x3] : List Value).toArray below meth c H locs 0 0 (MQ below (qI g A (cM g bM vM1) r) ([.ref (bM 0), .int x1, .int x2, .int x3] : List Value).toArray s 0 0 A) (F0 m 0 ls []) := by
    refine lv_aload_n hx hb dX8_see_0 rfl (lv_at hl 0 rfl) ?_
    refine lv_iconst (v := (0 : Int32)) hx hb dX8_see_1 (by decide) ?_
    refine va_put (D := g.1) (ci := 8) (fs := fcM bM vM) (v := .int (0 : Int32)) (ty := .int) (C := RX8) (T := TX8) (N := 23) hx hb htu hinX8 tyX8 tyX8_ok nmX8 hown hK hP hD hS 0 rfl rfl 0 (by decide) k_5_72 (fun _ h9 => h9) rfl (by decide +kernel) rfl rfl (Nat.le_of_ble_eq_true rfl) dX8_see_2 (fun H locs hP hD hS => ?_)
    obtain ⟨vM_1, evM_1⟩ : ∃ z, z = sF vM 0 (0 : Int32) := ⟨_, rfl⟩
    have hf := bn_at hf evM_1
    have hP : va_P g.1 vwCl (cM g bM vM_1) H := by rw [evM_1]; exact hP
    have hD : va_D A (cM g bM vM_1) := by rw [evM_1]; exact hD
    refine lv_aload_n hx hb dX8_see_5 rfl (lv_at hl 0 rfl) ?_
    refine lv_iload_n hx hb dX8_see_6 rfl (lv_at hl 1 rfl) ?_
    obtain ⟨r2, vM_3, hg4, hf⟩ := o2_at hf
    refine k_viW ⟨hx, hb, hml, hown, htu⟩ hK hP hD hS hA hG (c_X8_isTest l g bM vM_1 x1 r2 vM_3 hg4) (cwV 1 htu (gU_V mw_6_142 hcX8_isTest) rfl rfl rfl hdX8_isTest ⟨Nat.le_of_ble_eq_true rfl, Nat.le_of_ble_eq_true rfl⟩) (q0 := 0) (ci := 8) (fs := fcM bM vM_1) (q := (RX8, TX8, 23)) rfl rfl rfl (As := [.int x1]) (rest := []) rfl rfl hl.1 (Nat.le_of_ble_eq_true rfl) dX8_see_7 (k1 := 0) (n1 := 0) rfl rfl ⟨Nat.zero_le _, Nat.zero_le _⟩ (fun H locs hP hD hS => ?_)
    obtain ⟨k6, hk10, hf⟩ := jn_at hf
    have hJ7 : ∀ (vM_5 : Vs), k6 vM_5 = some (r, vM1) → ∀ (H : Heap) (locs : List Loc), va_P g.1 vwCl (cM g bM vM_5) H → va_D A (cM g bM vM_5) → va_S A s.heap H locs → ∀ ls : Array Slot, lv_has ls 4 [] → W p l e (headSpec wsX8_see rmX8_see).room s m ([.ref (bM 0), .int x1, .int x2, .int x3] : List Value).toArray below meth c H locs 0 0 (MQ below (qI g A (cM g bM vM1) r) ([.ref (bM 0), .int x1, .int x2, .int x3] : List Value).toArray s 0 0 A) (F0 m 46 ls []) := by
      intro vM_5 hf H locs hP hD hS ls hl
      rw [hk10] at hf
      dsimp only at hf
      clear hk10
      refine lv_iconst (v := (0 : Int32)) hx hb dX8_see_46 (by decide) ?_
      obtain ⟨e8, e9⟩ := kp_2 hf
      rw [e9] at hP hD
      exact k_iret hx hb hr hlocks hK hP hD hS e8 dX8_see_47
    refine lv_if_eq (tgt := 46) hx hb dX8_see_10 (by decide) (fun c11 => ?_) (fun c11 => ?_)
    · have hf := it_t hf c11
      exact hJ7 vM_3 hf H locs hP hD hS _ (lv_sub hl [] rfl)
    · have hf := it_f hf c11
      refine lv_aload_n hx hb dX8_see_13 rfl (lv_at hl 0 rfl) ?_
      refine lv_iload_n hx hb dX8_see_14 rfl (lv_at hl 2 rfl) ?_
      refine lv_iconst (v := (0 : Int32)) hx hb dX8_see_15 (by decide) ?_
      refine lv_aload_n hx hb dX8_see_16 rfl (lv_at hl 0 rfl) ?_
      obtain ⟨r12, hg13, hf⟩ := o1_at hf
      refine k_viW ⟨hx, hb, hml, hown, htu⟩ hK hP hD hS hA hG (c_X8_outputs l g bM vM_3 r12 hg13) (cwV 0 htu (gU_V mw_6_40 hcX8_outputs) rfl rfl rfl hdX8_outputs ⟨Nat.le_of_ble_eq_true rfl, Nat.le_of_ble_eq_true rfl⟩) (q0 := 0) (ci := 8) (fs := fcM bM vM_3) (q := (RX8, TX8, 23)) rfl rfl rfl (As := []) (rest := [.int (0 : Int32), .int x2, .ref (bM 0)]) rfl rfl hl.1 (Nat.le_of_ble_eq_true rfl) dX8_see_17 (k1 := 0) (n1 := 0) rfl rfl ⟨Nat.zero_le _, Nat.zero_le _⟩ (fun H locs hP hD hS => ?_)
      refine lv_iconst (v := (1 : Int32)) hx hb dX8_see_20 (by decide) ?_
      refine lv_isub hx hb dX8_see_21 ?_
      obtain ⟨r14, hg15, hf⟩ := o1_at hf
      refine k_si0 ⟨hx, hb, hml, hown, htu⟩ hK hP hD hS hA hG (c_X8_isIn l g x2 (0 : Int32) (r12 - (1 : Int32)) r14 hg15) (va_cwS 3 htu (gU_S mw_5_163 hcX8_isIn) rfl rfl rfl hdX8_isIn ⟨Nat.le_of_ble_eq_true rfl, Nat.le_of_ble_eq_true rfl⟩) (As := [.int x2, .int (0 : Int32), .int (r12 - (1 : Int32))]) (rest := [.ref (bM 0)]) rfl rfl hl.1 (Nat.le_of_ble_eq_true rfl) dX8_see_22 (k1 := 0) (n1 := 0) rfl rfl ⟨Nat.zero_le _, Nat.zero_le _⟩ (fun H locs hP hD hS => ?_)
      refine lv_iconst (v := (1 : Int32)) hx hb dX8_see_25 (by decide) ?_
      obtain ⟨r16, vM_17, hg18, hf⟩ := o2_at hf
      refine k_viW ⟨hx, hb, hml, hown, htu⟩ hK hP hD hS hA hG (c_X8_right l g bM vM_3 r14 (1 : Int32) r16 vM_17 hg18) (cwV 2 htu (gU_V mw_5_166 hcX8_right) rfl rfl rfl hdX8_right ⟨Nat.le_of_ble_eq_true rfl, Nat.le_of_ble_eq_true rfl⟩) (q0 := 0) (ci := 8) (fs := fcM bM vM_3) (q := (RX8, TX8, 23)) rfl rfl rfl (As := [.int r14, .int (1 : Int32)]) (rest := []) rfl rfl hl.1 (Nat.le_of_ble_eq_true rfl) dX8_see_26 (k1 := 0) (n1 := 0) rfl rfl ⟨Nat.zero_le _, Nat.zero_le _⟩ (fun H locs hP hD hS => ?_)
      refine lv_if_eq (tgt := 46) hx hb dX8_see_29 (by decide) (fun c19 => ?_) (fun c19 => ?_)
      · have hf := it_t hf c19
        exact hJ7 vM_17 hf H locs hP hD hS _ (lv_sub hl [] rfl)
      · have hf := it_f hf c19
        refine lv_aload_n hx hb dX8_see_32 rfl (lv_at hl 0 rfl) ?_
        refine lv_iload_n hx hb dX8_see_33 rfl (lv_at hl 3 rfl) ?_
        refine lv_iconst (v := (0 : Int32)) hx hb dX8_see_34 (by decide) ?_
        refine lv_iconst (v := (2 : Int32)) hx hb dX8_see_35 (by decide) ?_
        obtain ⟨r20, hg21, hf⟩ := o1_at hf
        refine k_si0 ⟨hx, hb, hml, hown, htu⟩ hK hP hD hS hA hG (c_X8_isIn l g x3 (0 : Int32) (2 : Int32) r20 hg21) (va_cwS 3 htu (gU_S mw_5_163 hcX8_isIn) rfl rfl rfl hdX8_isIn ⟨Nat.le_of_ble_eq_true rfl, Nat.le_of_ble_eq_true rfl⟩) (As := [.int x3, .int (0 : Int32), .int (2 : Int32)]) (rest := [.ref (bM 0)]) rfl rfl hl.1 (Nat.le_of_ble_eq_true rfl) dX8_see_36 (k1 := 0) (n1 := 0) rfl rfl ⟨Nat.zero_le _, Nat.zero_le _⟩ (fun H locs hP hD hS => ?_)
        refine lv_iconst (v := (2 : Int32)) hx hb dX8_see_39 (by decide) ?_
        obtain ⟨r22, vM_23, hg24, hf⟩ := o2_at hf
        refine k_viW ⟨hx, hb, hml, hown, htu⟩ hK hP hD hS hA hG (c_X8_right l g bM vM_17 r20 (2 : Int32) r22 vM_23 hg24) (cwV 2 htu (gU_V mw_5_166 hcX8_right) rfl rfl rfl hdX8_right ⟨Nat.le_of_ble_eq_true rfl, Nat.le_of_ble_eq_true rfl⟩) (q0 := 0) (ci := 8) (fs := fcM bM vM_17) (q := (RX8, TX8, 23)) rfl rfl rfl (As := [.int r20, .int (2 : Int32)]) (rest := []) rfl rfl hl.1 (Nat.le_of_ble_eq_true rfl) dX8_see_40 (k1 := 0) (n1 := 0) rfl rfl ⟨Nat.zero_le _, Nat.zero_le _⟩ (fun H locs hP hD hS => ?_)
        refine lv_if_ne (tgt := 48) hx hb dX8_see_43 (by decide) (fun c25 => ?_) (fun c25 => ?_)
        · have hf := it_f hf c25
          refine lv_aload_n hx hb dX8_see_48 rfl (lv_at hl 0 rfl) ?_
          obtain ⟨vM_26, hg27, hf⟩ := o1_at hf
          refine k_vvW ⟨hx, hb, hml, hown, htu⟩ hK hP hD hS hA hG (c_X8_change l g bM vM_23 vM_26 hg27) (cwV 0 htu (gU_V mw_6_16 hcX8_change) rfl rfl rfl hdX8_change ⟨Nat.le_of_ble_eq_true rfl, Nat.le_of_ble_eq_true rfl⟩) (q0 := 0) (ci := 8) (fs := fcM bM vM_23) (q := (RX8, TX8, 23)) rfl rfl rfl (As := []) (rest := []) rfl rfl hl.1 (Nat.le_of_ble_eq_true rfl) dX8_see_49 (k1 := 0) (n1 := 0) rfl rfl ⟨Nat.zero_le _, Nat.zero_le _⟩ (fun H locs hP hD hS => ?_)
          refine lv_aload_n hx hb dX8_see_52 rfl (lv_at hl 0 rfl) ?_
          refine lv_sipush (v := (310 : Int32)) hx hb dX8_see_53 (by decide) ?_
          refine lv_bipush (v := (6 : Int32)) hx hb dX8_see_56 (by decide) ?_
          refine lv_iload_n hx hb dX8_see_58 rfl (lv_at hl 1 rfl) ?_
          refine lv_imul hx hb dX8_see_59 ?_
          refine lv_iadd hx hb dX8_see_60 ?_
          refine lv_iload_n hx hb dX8_see_61 rfl (lv_at hl 2 rfl) ?_
          refine lv_iadd hx hb dX8_see_62 ?_
          refine lv_iload_n hx hb dX8_see_63 rfl (lv_at hl 3 rfl) ?_
          obtain ⟨vM_28, hg29, hf⟩ := o1_at hf
          refine k_vvW ⟨hx, hb, hml, hown, htu⟩ hK hP hD hS hA hG (c_X8_put l g bM vM_26 (((310 : Int32) + ((6 : Int32) * x1)) + x2) x3 vM_28 hg29) (cwV 2 htu (gU_V mw_5_68 hcX8_put) rfl rfl rfl hdX8_put ⟨Nat.le_of_ble_eq_true rfl, Nat.le_of_ble_eq_true rfl⟩) (q0 := 0) (ci := 8) (fs := fcM bM vM_26) (q := (RX8, TX8, 23)) rfl rfl rfl (As := [.int (((310 : Int32) + ((6 : Int32) * x1)) + x2), .int x3]) (rest := []) rfl rfl hl.1 (Nat.le_of_ble_eq_true rfl) dX8_see_64 (k1 := 0) (n1 := 0) rfl rfl ⟨Nat.zero_le _, Nat.zero_le _⟩ (fun H locs hP hD hS => ?_)
          refine lv_aload_n hx hb dX8_see_67 rfl (lv_at hl 0 rfl) ?_
          obtain ⟨r30, vM_31, hg32, hf⟩ := o2_at hf
          refine k_viW ⟨hx, hb, hml, hown, htu⟩ hK hP hD hS hA hG (c_X8_fitting l g bM vM_28 r30 vM_31 hg32) (cwV 0 htu (gU_V mw_7_1 hcX8_fitting) rfl rfl rfl hdX8_fitting ⟨Nat.le_of_ble_eq_true rfl, Nat.le_of_ble_eq_true rfl⟩) (q0 := 0) (ci := 8) (fs := fcM bM vM_28) (q := (RX8, TX8, 23)) rfl rfl rfl (As := []) (rest := []) rfl rfl hl.1 (Nat.le_of_ble_eq_true rfl) dX8_see_68 (k1 := 0) (n1 := 0) rfl rfl ⟨Nat.zero_le _, Nat.zero_le _⟩ (fun H locs hP hD hS => ?_)
          obtain ⟨e33, e34⟩ := kp_2 hf
          rw [e34] at hP hD
          exact k_iret hx hb hr hlocks hK hP hD hS e33 dX8_see_71
        · have hf := it_t hf c25
          exact hJ7 vM_23 hf H locs hP hD hS _ (lv_sub hl [] rfl)
  rw [hH, hlo] at hW
  exact hW
def f_X8_forget_L16 (r4 : Int32) (self8 : Int32 → Vs → Option (Int32 × Vs)) (x2_6 : Int32) (vM_7 : Vs) : Option (Int32 × Vs) :=
  if (96 : Int32) ≤ x2_6 then some (r4, vM_7) else o1 (f_X8_put vM_7 ((310 : Int32) + x2_6) (2 : Int32)) (fun (vM_14 : Vs) => self8 (x2_6 + (1 : Int32)) vM_14)
def f_X8_forget (vM : Vs) : Option (Int32 × Vs) :=
  bn (sF vM 0 (0 : Int32)) (fun (vM_1 : Vs) => o1 (f_X8_change vM_1) (fun (vM_2 : Vs) => o1 (f_X8_seenMany vM_2) (fun (r4 : Int32) => lp (f_X8_forget_L16 r4) (fun _ _ => none) FU (0 : Int32) vM_2)))
abbrev wsX8_forget : List Cond := .code yX8_forget cX8_forget 3 (some .int) :: UW
abbrev rmX8_forget : Room := { frames := 3, cells := 0, slots := 0, locals := 66 }
set_option maxHeartbeats 4000000 in
set_option maxRecDepth 100000 in
theorem c_X8_forget (l : Launch) (g : Gx) (bM : Nat → Nat) (vM : Vs) (r : Int32) (vM1 : Vs) (hf : f_X8_forget vM = some (r, vM1)) : CtI l yX8_forget wsX8_forget rmX8_forget g [.ref (bM 0)] (cM g bM vM) (cM g bM vM1) r 0 0 := by
  unfold CtI
  intro sz
  refine Met.ofW (cc := cX8_forget) (maxL := 3) (ret := (some .int)) (by decide) rfl ?_
  intro p e s m args below meth c s₁ B hml hv
  obtain ⟨rfl, hsz, hP, hK, hD0, hG⟩ := hv
  have hx := B.exec
  have hb := B.bytes
  have hr := B.returns
  have hts := atoms_spec (ws := wsX8_forget) B.pre
  have hown : s.vm.findClass RX8 = some m.cls := findClass_of_methodNamed B.named
  have hlocks := B.notSynchronized
  subst hsz
  have hD := hD0.self (sz := s.heap.size)
  generalize hAe : va_A (cM g bM vM) s.heap.size = A at hD hG ⊢
  have hA : ∀ q : Nat, s.heap.size ≤ q → A q := fun q h => by rw [← hAe]; exact Or.inr h
  clear hAe hD0
  have hS : va_S A s.heap s.heap [] := va_S.rf
  have hl := lv_entry ([.ref (bM 0)]) (n := 3) (Nat.le_of_ble_eq_true rfl)
  rw [lg_entry_eq]
  generalize (lg_sl ([.ref (bM 0)]) ++ List.replicate (3 - (lg_sl ([.ref (bM 0)])).length) Slot.unset).toArray = ls at hl ⊢
  have hl : lv_has ls 3 [(0, .ref (bM 0))] := hl
  have htu : ∀ w ∈ UW, w.before _ s = true := fun w h => hts w (List.mem_cons_of_mem _ h)
  have k_5_72 := htu _ mw_5_72
  unfold f_X8_forget at hf
  obtain ⟨H, hH⟩ : ∃ z, z = s.heap := ⟨_, rfl⟩
  obtain ⟨locs, hlo⟩ : ∃ z : List Loc, z = [] := ⟨_, rfl⟩
  have hS : va_S A s.heap H locs := by rw [hH, hlo]; exact hS
  rw [← hH] at hP
  have hW : W p l e (headSpec wsX8_forget rmX8_forget).room s m ([.ref (bM 0)] : List Value).toArray below meth c H locs 0 0 (MQ below (qI g A (cM g bM vM1) r) ([.ref (bM 0)] : List Value).toArray s 0 0 A) (F0 m 0 ls []) := by
    refine lv_aload_n hx hb dX8_forget_0 rfl (lv_at hl 0 rfl) ?_
    refine lv_iconst (v := (0 : Int32)) hx hb dX8_forget_1 (by decide) ?_
    refine va_put (D := g.1) (ci := 8) (fs := fcM bM vM) (v := .int (0 : Int32)) (ty := .int) (C := RX8) (T := TX8) (N := 23) hx hb htu hinX8 tyX8 tyX8_ok nmX8 hown hK hP hD hS 0 rfl rfl 0 (by decide) k_5_72 (fun _ h9 => h9) rfl (by decide +kernel) rfl rfl (Nat.le_of_ble_eq_true rfl) dX8_forget_2 (fun H locs hP hD hS => ?_)
    obtain ⟨vM_1, evM_1⟩ : ∃ z, z = sF vM 0 (0 : Int32) := ⟨_, rfl⟩
    have hf := bn_at hf evM_1
    have hP : va_P g.1 vwCl (cM g bM vM_1) H := by rw [evM_1]; exact hP
    have hD : va_D A (cM g bM vM_1) := by rw [evM_1]; exact hD
    refine lv_aload_n hx hb dX8_forget_5 rfl (lv_at hl 0 rfl) ?_
    obtain ⟨vM_2, hg3, hf⟩ := o1_at hf
    refine k_vvW ⟨hx, hb, hml, hown, htu⟩ hK hP hD hS hA hG (c_X8_change l g bM vM_1 vM_2 hg3) (cwV 0 htu (gU_V mw_6_16 hcX8_change) rfl rfl rfl hdX8_change ⟨Nat.le_of_ble_eq_true rfl, Nat.le_of_ble_eq_true rfl⟩) (q0 := 0) (ci := 8) (fs := fcM bM vM_1) (q := (RX8, TX8, 23)) rfl rfl rfl (As := []) (rest := []) rfl rfl hl.1 (Nat.le_of_ble_eq_true rfl) dX8_forget_6 (k1 := 0) (n1 := 0) rfl rfl ⟨Nat.zero_le _, Nat.zero_le _⟩ (fun H locs hP hD hS => ?_)
    refine lv_aload_n hx hb dX8_forget_9 rfl (lv_at hl 0 rfl) ?_
    obtain ⟨r4, hg5, hf⟩ := o1_at hf
    refine k_viW ⟨hx, hb, hml, hown, htu⟩ hK hP hD hS hA hG (c_X8_seenMany l g bM vM_2 r4 hg5) (cwV 0 htu (gU_V mw_6_52 hcX8_seenMany) rfl rfl rfl hdX8_seenMany ⟨Nat.le_of_ble_eq_true rfl, Nat.le_of_ble_eq_true rfl⟩) (q0 := 0) (ci := 8) (fs := fcM bM vM_2) (q := (RX8, TX8, 23)) rfl rfl rfl (As := []) (rest := []) rfl rfl hl.1 (Nat.le_of_ble_eq_true rfl) dX8_forget_10 (k1 := 0) (n1 := 0) rfl rfl ⟨Nat.zero_le _, Nat.zero_le _⟩ (fun H locs hP hD hS => ?_)
    refine lv_istore_n (lv' := [(1, .int r4), (0, .ref (bM 0))]) hx hb dX8_forget_13 rfl hl (by decide) rfl (fun ls hl => ?_)
    refine lv_iconst (v := (0 : Int32)) hx hb dX8_forget_14 (by decide) ?_
    refine lv_istore_n (lv' := [(2, .int (0 : Int32)), (1, .int r4), (0, .ref (bM 0))]) hx hb dX8_forget_15 rfl hl (by decide) rfl (fun ls hl => ?_)
    have hL9 : ∀ (x2_6 : Int32) (vM_7 : Vs), lp (f_X8_forget_L16 r4) (fun _ _ => none) FU x2_6 vM_7 = some (r, vM1) → ∀ (H : Heap) (locs : List Loc), va_P g.1 vwCl (cM g bM vM_7) H → va_D A (cM g bM vM_7) → va_S A s.heap H locs → ∀ ls : Array Slot, lv_has ls 3 [(0, .ref (bM 0)), (1, .int r4), (2, .int x2_6)] → W p l e (headSpec wsX8_forget rmX8_forget).room s m ([.ref (bM 0)] : List Value).toArray below meth c H locs 0 0 (MQ below (qI g A (cM g bM vM1) r) ([.ref (bM 0)] : List Value).toArray s 0 0 A) (F0 m 16 ls []) := by
      refine lp_ind (T := Int32 → Vs → Option (Int32 × Vs)) (fun self8 => ∀ (x2_6 : Int32) (vM_7 : Vs), self8 x2_6 vM_7 = some (r, vM1) → ∀ (H : Heap) (locs : List Loc), va_P g.1 vwCl (cM g bM vM_7) H → va_D A (cM g bM vM_7) → va_S A s.heap H locs → ∀ ls : Array Slot, lv_has ls 3 [(0, .ref (bM 0)), (1, .int r4), (2, .int x2_6)] → W p l e (headSpec wsX8_forget rmX8_forget).room s m ([.ref (bM 0)] : List Value).toArray below meth c H locs 0 0 (MQ below (qI g A (cM g bM vM1) r) ([.ref (bM 0)] : List Value).toArray s 0 0 A) (F0 m 16 ls [])) ?_ ?_ FU
      · intro x2_6 vM_7 hf; cases hf
      · intro self8 ih10 x2_6 vM_7 hf H locs hP hD hS ls hl
        unfold f_X8_forget_L16 at hf
        refine lv_iload_n hx hb dX8_forget_16 rfl (lv_at hl 2 rfl) ?_
        refine lv_bipush (v := (96 : Int32)) hx hb dX8_forget_17 (by decide) ?_
        refine lv_icmp_ge (tgt := 38) hx hb dX8_forget_19 (by decide) (fun c11 => ?_) (fun c11 => ?_)
        · have hf := it_t hf c11
          refine lv_iload_n hx hb dX8_forget_38 rfl (lv_at hl 1 rfl) ?_
          obtain ⟨e12, e13⟩ := kp_2 hf
          rw [e13] at hP hD
          exact k_iret hx hb hr hlocks hK hP hD hS e12 dX8_forget_39
        · have hf := it_f hf c11
          refine lv_aload_n hx hb dX8_forget_22 rfl (lv_at hl 0 rfl) ?_
          refine lv_sipush (v := (310 : Int32)) hx hb dX8_forget_23 (by decide) ?_
          refine lv_iload_n hx hb dX8_forget_26 rfl (lv_at hl 2 rfl) ?_
          refine lv_iadd hx hb dX8_forget_27 ?_
          refine lv_iconst (v := (2 : Int32)) hx hb dX8_forget_28 (by decide) ?_
          obtain ⟨vM_14, hg15, hf⟩ := o1_at hf
          refine k_vvW ⟨hx, hb, hml, hown, htu⟩ hK hP hD hS hA hG (c_X8_put l g bM vM_7 ((310 : Int32) + x2_6) (2 : Int32) vM_14 hg15) (cwV 2 htu (gU_V mw_5_68 hcX8_put) rfl rfl rfl hdX8_put ⟨Nat.le_of_ble_eq_true rfl, Nat.le_of_ble_eq_true rfl⟩) (q0 := 0) (ci := 8) (fs := fcM bM vM_7) (q := (RX8, TX8, 23)) rfl rfl rfl (As := [.int ((310 : Int32) + x2_6), .int (2 : Int32)]) (rest := []) rfl rfl hl.1 (Nat.le_of_ble_eq_true rfl) dX8_forget_29 (k1 := 0) (n1 := 0) rfl rfl ⟨Nat.zero_le _, Nat.zero_le _⟩ (fun H locs hP hD hS => ?_)
          refine lv_iinc (v := (x2_6 + (1 : Int32))) (lv' := [(2, .int (x2_6 + (1 : Int32))), (0, .ref (bM 0)), (1, .int r4)]) hx hb dX8_forget_32 hl (k := 2) rfl rfl (by decide) rfl (fun ls hl => ?_)
          refine lv_goto (tgt := 16) hx hb dX8_forget_35 (by decide) ?_
          exact ih10 (x2_6 + (1 : Int32)) vM_14 hf H locs hP hD hS _ (lv_sub hl [1, 2, 0] rfl)
    exact hL9 (0 : Int32) vM_2 hf H locs hP hD hS _ (lv_sub hl [2, 1, 0] rfl)
  rw [hH, hlo] at hW
  exact hW
def f_X8_complete_L170 (x1_8 : Int32) (self11 : Int32 → Int32 → Vs → Option (Int32 × Vs)) (x3_23 : Int32) (t32 : Int32) (self40 : Int32 → Vs → Option (Int32 × Vs)) (x5_38 : Int32) (vM_39 : Vs) : Option (Int32 × Vs) :=
  o1 (f_X8_faults vM_39) (fun (r43 : Int32) => if r43 ≤ x5_38 then self11 (x1_8 + (1 : Int32)) t32 vM_39 else gd (inb (((256 : Int32) * x5_38) + x3_23) 14592) (gd (inb ((14336 : Int32) + x3_23) 14592) (jn (fun (vM_48 : Vs) => self40 (x5_38 + (1 : Int32)) vM_48) (fun k49 => if (vM_39.2.1 10 ((((256 : Int32) * x5_38) + x3_23)).toNatClampNeg) = (vM_39.2.1 10 (((14336 : Int32) + x3_23)).toNatClampNeg) then k49 vM_39 else gd (inb x5_38 56) (bn (sI vM_39 9 (x5_38).toNatClampNeg (1 : Int32)) (fun (vM_54 : Vs) => k49 vM_54))))))
def f_X8_complete_L57 (vM_10 : Vs) (x3_23 : Int32) (x4_24 : Int32) (x5_25 : Int32) (self26 : Int32 → Int32 → Int32 → Option (Int32 × Vs)) (self59 : Int32 → Int32 → Option (Int32 × Vs)) (x6_57 : Int32) (x7_58 : Int32) : Option (Int32 × Vs) :=
  o1 (f_X8_faults vM_10) (fun (r62 : Int32) => if r62 ≤ x7_58 then jn (fun (x3_65 : Int32) (x4_66 : Int32) => self26 x3_65 x4_66 (x5_25 + (1 : Int32))) (fun k67 => if x4_24 < x6_57 then k67 x5_25 x6_57 else k67 x3_23 x4_24) else gd (inb x7_58 56) (jn (fun (t72 : Int32) => self59 (x6_57 + t72) (x7_58 + (1 : Int32))) (fun k73 => jn (k73 (0 : Int32)) (fun k76 => if (vM_10.2.1 9 (x7_58).toNatClampNeg) = 0 then gd (inb (((256 : Int32) * x7_58) + x5_25) 14592) (gd (inb ((14336 : Int32) + x5_25) 14592) (if (vM_10.2.1 10 ((((256 : Int32) * x7_58) + x5_25)).toNatClampNeg) = (vM_10.2.1 10 (((14336 : Int32) + x5_25)).toNatClampNeg) then k76 else k73 (1 : Int32))) else k76))))
def f_X8_complete_L42 (x1_8 : Int32) (vM_10 : Vs) (self11 : Int32 → Int32 → Vs → Option (Int32 × Vs)) (self26 : Int32 → Int32 → Int32 → Option (Int32 × Vs)) (x3_23 : Int32) (x4_24 : Int32) (x5_25 : Int32) : Option (Int32 × Vs) :=
  o1 (f_X8_fulls vM_10) (fun (r29 : Int32) => if r29 ≤ x5_25 then jn (fun (t32 : Int32) => if t32 = 0 then self11 x1_8 t32 vM_10 else o1 (f_X8_adds vM_10 x3_23 (0 : Int32)) (fun (vM_36 : Vs) => lp (f_X8_complete_L170 x1_8 self11 x3_23 t32) (fun _ _ => none) FU (0 : Int32) vM_36)) (fun k33 => if x3_23 = (-1 : Int32) then k33 (0 : Int32) else k33 (1 : Int32)) else lp (f_X8_complete_L57 vM_10 x3_23 x4_24 x5_25 self26) (fun _ _ => none) FU (0 : Int32) (0 : Int32))
def f_X8_complete_L21 (self11 : Int32 → Int32 → Vs → Option (Int32 × Vs)) (x1_8 : Int32) (x2_9 : Int32) (vM_10 : Vs) : Option (Int32 × Vs) :=
  jn (some (x1_8, vM_10)) (fun k14 => if x2_9 = 0 then k14 else o1 (f_X8_tests vM_10) (fun (r20 : Int32) => if (16 : Int32) ≤ r20 then k14 else lp (f_X8_complete_L42 x1_8 vM_10 self11) (fun _ _ _ => none) FU (-1 : Int32) (0 : Int32) (0 : Int32)))
def f_X8_complete (vM : Vs) : Option (Int32 × Vs) :=
  bn (sF vM 0 (0 : Int32)) (fun (vM_1 : Vs) => o1 (f_X8_change vM_1) (fun (vM_2 : Vs) => o1 (f_X8_lays vM_2) (fun (vM_4 : Vs) => o1 (f_X8_finders vM_4) (fun (vM_6 : Vs) => lp f_X8_complete_L21 (fun _ _ _ => none) FU (0 : Int32) (1 : Int32) vM_6))))
abbrev wsX8_complete : List Cond := .code yX8_complete cX8_complete 8 (some .int) :: UW
abbrev rmX8_complete : Room := { frames := 6, cells := 0, slots := 0, locals := 142 }
set_option maxHeartbeats 4000000 in
set_option maxRecDepth 100000 in
theorem c_X8_complete (l : Launch) (g : Gx) (bM : Nat → Nat) (vM : Vs) (r : Int32) (vM1 : Vs) (hf : f_X8_complete vM = some (r, vM1)) : CtI l yX8_complete wsX8_complete rmX8_complete g [.ref (bM 0)] (cM g bM vM) (cM g bM vM1) r 0 0 := by
  unfold CtI
  intro sz
  refine Met.ofW (cc := cX8_complete) (maxL := 8) (ret := (some .int)) (by decide) rfl ?_
  intro p e s m args below meth c s₁ B hml hv
  obtain ⟨rfl, hsz, hP, hK, hD0, hG⟩ := hv
  have hx := B.exec
  have hb := B.bytes
  have hr := B.returns
  have hts := atoms_spec (ws := wsX8_complete) B.pre
  have hown : s.vm.findClass RX8 = some m.cls := findClass_of_methodNamed B.named
  have hlocks := B.notSynchronized
  subst hsz
  have hD := hD0.self (sz := s.heap.size)
  generalize hAe : va_A (cM g bM vM) s.heap.size = A at hD hG ⊢
  have hA : ∀ q : Nat, s.heap.size ≤ q → A q := fun q h => by rw [← hAe]; exact Or.inr h
  clear hAe hD0
  have hS : va_S A s.heap s.heap [] := va_S.rf
  have hl := lv_entry ([.ref (bM 0)]) (n := 8) (Nat.le_of_ble_eq_true rfl)
  rw [lg_entry_eq]
  generalize (lg_sl ([.ref (bM 0)]) ++ List.replicate (8 - (lg_sl ([.ref (bM 0)])).length) Slot.unset).toArray = ls at hl ⊢
  have hl : lv_has ls 8 [(0, .ref (bM 0))] := hl
  have htu : ∀ w ∈ UW, w.before _ s = true := fun w h => hts w (List.mem_cons_of_mem _ h)
  have k_5_72 := htu _ mw_5_72
  have k_5_82 := htu _ mw_5_82
  have k_5_81 := htu _ mw_5_81
  unfold f_X8_complete at hf
  obtain ⟨H, hH⟩ : ∃ z, z = s.heap := ⟨_, rfl⟩
  obtain ⟨locs, hlo⟩ : ∃ z : List Loc, z = [] := ⟨_, rfl⟩
  have hS : va_S A s.heap H locs := by rw [hH, hlo]; exact hS
  rw [← hH] at hP
  have hW : W p l e (headSpec wsX8_complete rmX8_complete).room s m ([.ref (bM 0)] : List Value).toArray below meth c H locs 0 0 (MQ below (qI g A (cM g bM vM1) r) ([.ref (bM 0)] : List Value).toArray s 0 0 A) (F0 m 0 ls []) := by
    refine lv_aload_n hx hb dX8_complete_0 rfl (lv_at hl 0 rfl) ?_
    refine lv_iconst (v := (0 : Int32)) hx hb dX8_complete_1 (by decide) ?_
    refine va_put (D := g.1) (ci := 8) (fs := fcM bM vM) (v := .int (0 : Int32)) (ty := .int) (C := RX8) (T := TX8) (N := 23) hx hb htu hinX8 tyX8 tyX8_ok nmX8 hown hK hP hD hS 0 rfl rfl 0 (by decide) k_5_72 (fun _ h9 => h9) rfl (by decide +kernel) rfl rfl (Nat.le_of_ble_eq_true rfl) dX8_complete_2 (fun H locs hP hD hS => ?_)
    obtain ⟨vM_1, evM_1⟩ : ∃ z, z = sF vM 0 (0 : Int32) := ⟨_, rfl⟩
    have hf := bn_at hf evM_1
    have hP : va_P g.1 vwCl (cM g bM vM_1) H := by rw [evM_1]; exact hP
    have hD : va_D A (cM g bM vM_1) := by rw [evM_1]; exact hD
    refine lv_aload_n hx hb dX8_complete_5 rfl (lv_at hl 0 rfl) ?_
    obtain ⟨vM_2, hg3, hf⟩ := o1_at hf
    refine k_vvW ⟨hx, hb, hml, hown, htu⟩ hK hP hD hS hA hG (c_X8_change l g bM vM_1 vM_2 hg3) (cwV 0 htu (gU_V mw_6_16 hcX8_change) rfl rfl rfl hdX8_change ⟨Nat.le_of_ble_eq_true rfl, Nat.le_of_ble_eq_true rfl⟩) (q0 := 0) (ci := 8) (fs := fcM bM vM_1) (q := (RX8, TX8, 23)) rfl rfl rfl (As := []) (rest := []) rfl rfl hl.1 (Nat.le_of_ble_eq_true rfl) dX8_complete_6 (k1 := 0) (n1 := 0) rfl rfl ⟨Nat.zero_le _, Nat.zero_le _⟩ (fun H locs hP hD hS => ?_)
    refine lv_aload_n hx hb dX8_complete_9 rfl (lv_at hl 0 rfl) ?_
    obtain ⟨vM_4, hg5, hf⟩ := o1_at hf
    refine k_vvW ⟨hx, hb, hml, hown, htu⟩ hK hP hD hS hA hG (c_X8_lays l g bM vM_2 vM_4 hg5) (cwV 0 htu (gU_V mw_6_174 hcX8_lays) rfl rfl rfl hdX8_lays ⟨Nat.le_of_ble_eq_true rfl, Nat.le_of_ble_eq_true rfl⟩) (q0 := 0) (ci := 8) (fs := fcM bM vM_2) (q := (RX8, TX8, 23)) rfl rfl rfl (As := []) (rest := []) rfl rfl hl.1 (Nat.le_of_ble_eq_true rfl) dX8_complete_10 (k1 := 0) (n1 := 0) rfl rfl ⟨Nat.zero_le _, Nat.zero_le _⟩ (fun H locs hP hD hS => ?_)
    refine lv_aload_n hx hb dX8_complete_13 rfl (lv_at hl 0 rfl) ?_
    obtain ⟨vM_6, hg7, hf⟩ := o1_at hf
    refine k_vvW ⟨hx, hb, hml, hown, htu⟩ hK hP hD hS hA hG (c_X8_finders l g bM vM_4 vM_6 hg7) (cwV 0 htu (gU_V mw_6_64 hcX8_finders) rfl rfl rfl hdX8_finders ⟨Nat.le_of_ble_eq_true rfl, Nat.le_of_ble_eq_true rfl⟩) (q0 := 0) (ci := 8) (fs := fcM bM vM_4) (q := (RX8, TX8, 23)) rfl rfl rfl (As := []) (rest := []) rfl rfl hl.1 (Nat.le_of_ble_eq_true rfl) dX8_complete_14 (k1 := 0) (n1 := 0) rfl rfl ⟨Nat.zero_le _, Nat.zero_le _⟩ (fun H locs hP hD hS => ?_)
    refine lv_iconst (v := (0 : Int32)) hx hb dX8_complete_17 (by decide) ?_
    refine lv_istore_n (lv' := [(1, .int (0 : Int32)), (0, .ref (bM 0))]) hx hb dX8_complete_18 rfl hl (by decide) rfl (fun ls hl => ?_)
    refine lv_iconst (v := (1 : Int32)) hx hb dX8_complete_19 (by decide) ?_
    refine lv_istore_n (lv' := [(2, .int (1 : Int32)), (1, .int (0 : Int32)), (0, .ref (bM 0))]) hx hb dX8_complete_20 rfl hl (by decide) rfl (fun ls hl => ?_)
    have hL12 : ∀ (x1_8 : Int32) (x2_9 : Int32) (vM_10 : Vs), lp f_X8_complete_L21 (fun _ _ _ => none) FU x1_8 x2_9 vM_10 = some (r, vM1) → ∀ (H : Heap) (locs : List Loc), va_P g.1 vwCl (cM g bM vM_10) H → va_D A (cM g bM vM_10) → va_S A s.heap H locs → ∀ ls : Array Slot, lv_has ls 8 [(0, .ref (bM 0)), (1, .int x1_8), (2, .int x2_9)] → W p l e (headSpec wsX8_complete rmX8_complete).room s m ([.ref (bM 0)] : List Value).toArray below meth c H locs 0 0 (MQ below (qI g A (cM g bM vM1) r) ([.ref (bM 0)] : List Value).toArray s 0 0 A) (F0 m 21 ls []) := by
      refine lp_ind (T := Int32 → Int32 → Vs → Option (Int32 × Vs)) (fun self11 => ∀ (x1_8 : Int32) (x2_9 : Int32) (vM_10 : Vs), self11 x1_8 x2_9 vM_10 = some (r, vM1) → ∀ (H : Heap) (locs : List Loc), va_P g.1 vwCl (cM g bM vM_10) H → va_D A (cM g bM vM_10) → va_S A s.heap H locs → ∀ ls : Array Slot, lv_has ls 8 [(0, .ref (bM 0)), (1, .int x1_8), (2, .int x2_9)] → W p l e (headSpec wsX8_complete rmX8_complete).room s m ([.ref (bM 0)] : List Value).toArray below meth c H locs 0 0 (MQ below (qI g A (cM g bM vM1) r) ([.ref (bM 0)] : List Value).toArray s 0 0 A) (F0 m 21 ls [])) ?_ ?_ FU
      · intro x1_8 x2_9 vM_10 hf; cases hf
      · intro self11 ih13 x1_8 x2_9 vM_10 hf H locs hP hD hS ls hl
        unfold f_X8_complete_L21 at hf
        refine lv_iload_n hx hb dX8_complete_21 rfl (lv_at hl 2 rfl) ?_
        obtain ⟨k14, hk18, hf⟩ := jn_at hf
        have hJ15 : k14 = some (r, vM1) → ∀ (H : Heap) (locs : List Loc), va_P g.1 vwCl (cM g bM vM_10) H → va_D A (cM g bM vM_10) → va_S A s.heap H locs → ∀ ls : Array Slot, lv_has ls 8 [(1, .int x1_8)] → W p l e (headSpec wsX8_complete rmX8_complete).room s m ([.ref (bM 0)] : List Value).toArray below meth c H locs 0 0 (MQ below (qI g A (cM g bM vM1) r) ([.ref (bM 0)] : List Value).toArray s 0 0 A) (F0 m 225 ls []) := by
          intro hf H locs hP hD hS ls hl
          rw [hk18] at hf
          clear hk18
          refine lv_iload_n hx hb dX8_complete_225 rfl (lv_at hl 0 rfl) ?_
          obtain ⟨e16, e17⟩ := kp_2 hf
          rw [e17] at hP hD
          exact k_iret hx hb hr hlocks hK hP hD hS e16 dX8_complete_226
        refine lv_if_eq (tgt := 225) hx hb dX8_complete_22 (by decide) (fun c19 => ?_) (fun c19 => ?_)
        · have hf := it_t hf c19
          exact hJ15 hf H locs hP hD hS _ (lv_sub hl [1] rfl)
        · have hf := it_f hf c19
          refine lv_aload_n hx hb dX8_complete_25 rfl (lv_at hl 0 rfl) ?_
          obtain ⟨r20, hg21, hf⟩ := o1_at hf
          refine k_viW ⟨hx, hb, hml, hown, htu⟩ hK hP hD hS hA hG (c_X8_tests l g bM vM_10 r20 hg21) (cwV 0 htu (gU_V mw_6_48 hcX8_tests) rfl rfl rfl hdX8_tests ⟨Nat.le_of_ble_eq_true rfl, Nat.le_of_ble_eq_true rfl⟩) (q0 := 0) (ci := 8) (fs := fcM bM vM_10) (q := (RX8, TX8, 23)) rfl rfl rfl (As := []) (rest := []) rfl rfl hl.1 (Nat.le_of_ble_eq_true rfl) dX8_complete_26 (k1 := 0) (n1 := 0) rfl rfl ⟨Nat.zero_le _, Nat.zero_le _⟩ (fun H locs hP hD hS => ?_)
          refine lv_bipush (v := (16 : Int32)) hx hb dX8_complete_29 (by decide) ?_
          refine lv_icmp_ge (tgt := 225) hx hb dX8_complete_31 (by decide) (fun c22 => ?_) (fun c22 => ?_)
          · have hf := it_t hf c22
            exact hJ15 hf H locs hP hD hS _ (lv_sub hl [1] rfl)
          · have hf := it_f hf c22
            refine lv_iconst (v := (-1 : Int32)) hx hb dX8_complete_34 (by decide) ?_
            refine lv_istore_n (lv' := [(3, .int (-1 : Int32)), (0, .ref (bM 0)), (1, .int x1_8), (2, .int x2_9)]) hx hb dX8_complete_35 rfl hl (by decide) rfl (fun ls hl => ?_)
            refine lv_iconst (v := (0 : Int32)) hx hb dX8_complete_36 (by decide) ?_
            refine lv_istore (lv' := [(4, .int (0 : Int32)), (3, .int (-1 : Int32)), (0, .ref (bM 0)), (1, .int x1_8), (2, .int x2_9)]) hx hb dX8_complete_37 hl (by decide) rfl (fun ls hl => ?_)
            refine lv_iconst (v := (0 : Int32)) hx hb dX8_complete_39 (by decide) ?_
            refine lv_istore (lv' := [(5, .int (0 : Int32)), (4, .int (0 : Int32)), (3, .int (-1 : Int32)), (0, .ref (bM 0)), (1, .int x1_8), (2, .int x2_9)]) hx hb dX8_complete_40 hl (by decide) rfl (fun ls hl => ?_)
            have hL27 : ∀ (x3_23 : Int32) (x4_24 : Int32) (x5_25 : Int32), lp (f_X8_complete_L42 x1_8 vM_10 self11) (fun _ _ _ => none) FU x3_23 x4_24 x5_25 = some (r, vM1) → ∀ (H : Heap) (locs : List Loc), va_P g.1 vwCl (cM g bM vM_10) H → va_D A (cM g bM vM_10) → va_S A s.heap H locs → ∀ ls : Array Slot, lv_has ls 8 [(0, .ref (bM 0)), (1, .int x1_8), (3, .int x3_23), (4, .int x4_24), (5, .int x5_25)] → W p l e (headSpec wsX8_complete rmX8_complete).room s m ([.ref (bM 0)] : List Value).toArray below meth c H locs 0 0 (MQ below (qI g A (cM g bM vM1) r) ([.ref (bM 0)] : List Value).toArray s 0 0 A) (F0 m 42 ls []) := by
              refine lp_ind (T := Int32 → Int32 → Int32 → Option (Int32 × Vs)) (fun self26 => ∀ (x3_23 : Int32) (x4_24 : Int32) (x5_25 : Int32), self26 x3_23 x4_24 x5_25 = some (r, vM1) → ∀ (H : Heap) (locs : List Loc), va_P g.1 vwCl (cM g bM vM_10) H → va_D A (cM g bM vM_10) → va_S A s.heap H locs → ∀ ls : Array Slot, lv_has ls 8 [(0, .ref (bM 0)), (1, .int x1_8), (3, .int x3_23), (4, .int x4_24), (5, .int x5_25)] → W p l e (headSpec wsX8_complete rmX8_complete).room s m ([.ref (bM 0)] : List Value).toArray below meth c H locs 0 0 (MQ below (qI g A (cM g bM vM1) r) ([.ref (bM 0)] : List Value).toArray s 0 0 A) (F0 m 42 ls [])) ?_ ?_ FU
              · intro x3_23 x4_24 x5_25 hf; cases hf
              · intro self26 ih28 x3_23 x4_24 x5_25 hf H locs hP hD hS ls hl
                unfold f_X8_complete_L42 at hf
                refine lv_iload hx hb dX8_complete_42 (lv_at hl 4 rfl) ?_
                refine lv_aload_n hx hb dX8_complete_44 rfl (lv_at hl 0 rfl) ?_
                obtain ⟨r29, hg30, hf⟩ := o1_at hf
                refine k_viW ⟨hx, hb, hml, hown, htu⟩ hK hP hD hS hA hG (c_X8_fulls l g bM vM_10 r29 hg30) (cwV 0 htu (gU_V mw_6_178 hcX8_fulls) rfl rfl rfl hdX8_fulls ⟨Nat.le_of_ble_eq_true rfl, Nat.le_of_ble_eq_true rfl⟩) (q0 := 0) (ci := 8) (fs := fcM bM vM_10) (q := (RX8, TX8, 23)) rfl rfl rfl (As := []) (rest := [.int x5_25]) rfl rfl hl.1 (Nat.le_of_ble_eq_true rfl) dX8_complete_45 (k1 := 0) (n1 := 0) rfl rfl ⟨Nat.zero_le _, Nat.zero_le _⟩ (fun H locs hP hD hS => ?_)
                refine lv_icmp_ge (tgt := 143) hx hb dX8_complete_48 (by decide) (fun c31 => ?_) (fun c31 => ?_)
                · have hf := it_t hf c31
                  refine lv_iload_n hx hb dX8_complete_143 rfl (lv_at hl 2 rfl) ?_
                  refine lv_iconst (v := (-1 : Int32)) hx hb dX8_complete_144 (by decide) ?_
                  obtain ⟨k33, hk55, hf⟩ := jn_at hf
                  have hJ34 : ∀ (t32 : Int32), k33 t32 = some (r, vM1) → ∀ (H : Heap) (locs : List Loc), va_P g.1 vwCl (cM g bM vM_10) H → va_D A (cM g bM vM_10) → va_S A s.heap H locs → ∀ ls : Array Slot, lv_has ls 8 [(0, .ref (bM 0)), (1, .int x1_8), (3, .int x3_23)] → W p l e (headSpec wsX8_complete rmX8_complete).room s m ([.ref (bM 0)] : List Value).toArray below meth c H locs 0 0 (MQ below (qI g A (cM g bM vM1) r) ([.ref (bM 0)] : List Value).toArray s 0 0 A) (F0 m 153 ls [.int t32]) := by
                    intro t32 hf H locs hP hD hS ls hl
                    rw [hk55] at hf
                    dsimp only at hf
                    clear hk55
                    refine lv_istore_n (lv' := [(2, .int t32), (0, .ref (bM 0)), (1, .int x1_8), (3, .int x3_23)]) hx hb dX8_complete_153 rfl hl (by decide) rfl (fun ls hl => ?_)
                    refine lv_iload_n hx hb dX8_complete_154 rfl (lv_at hl 0 rfl) ?_
                    refine lv_if_ne (tgt := 161) hx hb dX8_complete_155 (by decide) (fun c35 => ?_) (fun c35 => ?_)
                    · have hf := it_f hf c35
                      refine lv_aload_n hx hb dX8_complete_161 rfl (lv_at hl 1 rfl) ?_
                      refine lv_iload_n hx hb dX8_complete_162 rfl (lv_at hl 3 rfl) ?_
                      refine lv_iconst (v := (0 : Int32)) hx hb dX8_complete_163 (by decide) ?_
                      obtain ⟨vM_36, hg37, hf⟩ := o1_at hf
                      refine k_vvW ⟨hx, hb, hml, hown, htu⟩ hK hP hD hS hA hG (c_X8_adds l g bM vM_10 x3_23 (0 : Int32) vM_36 hg37) (cwV 2 htu (gU_V mw_7_29 hcX8_adds) rfl rfl rfl hdX8_adds ⟨Nat.le_of_ble_eq_true rfl, Nat.le_of_ble_eq_true rfl⟩) (q0 := 0) (ci := 8) (fs := fcM bM vM_10) (q := (RX8, TX8, 23)) rfl rfl rfl (As := [.int x3_23, .int (0 : Int32)]) (rest := []) rfl rfl hl.1 (Nat.le_of_ble_eq_true rfl) dX8_complete_164 (k1 := 0) (n1 := 0) rfl rfl ⟨Nat.zero_le _, Nat.zero_le _⟩ (fun H locs hP hD hS => ?_)
                      refine lv_iconst (v := (0 : Int32)) hx hb dX8_complete_167 (by decide) ?_
                      refine lv_istore (lv' := [(5, .int (0 : Int32)), (2, .int t32), (0, .ref (bM 0)), (1, .int x1_8), (3, .int x3_23)]) hx hb dX8_complete_168 hl (by decide) rfl (fun ls hl => ?_)
                      have hL41 : ∀ (x5_38 : Int32) (vM_39 : Vs), lp (f_X8_complete_L170 x1_8 self11 x3_23 t32) (fun _ _ => none) FU x5_38 vM_39 = some (r, vM1) → ∀ (H : Heap) (locs : List Loc), va_P g.1 vwCl (cM g bM vM_39) H → va_D A (cM g bM vM_39) → va_S A s.heap H locs → ∀ ls : Array Slot, lv_has ls 8 [(0, .ref (bM 0)), (1, .int x1_8), (2, .int t32), (3, .int x3_23), (5, .int x5_38)] → W p l e (headSpec wsX8_complete rmX8_complete).room s m ([.ref (bM 0)] : List Value).toArray below meth c H locs 0 0 (MQ below (qI g A (cM g bM vM1) r) ([.ref (bM 0)] : List Value).toArray s 0 0 A) (F0 m 170 ls []) := by
                        refine lp_ind (T := Int32 → Vs → Option (Int32 × Vs)) (fun self40 => ∀ (x5_38 : Int32) (vM_39 : Vs), self40 x5_38 vM_39 = some (r, vM1) → ∀ (H : Heap) (locs : List Loc), va_P g.1 vwCl (cM g bM vM_39) H → va_D A (cM g bM vM_39) → va_S A s.heap H locs → ∀ ls : Array Slot, lv_has ls 8 [(0, .ref (bM 0)), (1, .int x1_8), (2, .int t32), (3, .int x3_23), (5, .int x5_38)] → W p l e (headSpec wsX8_complete rmX8_complete).room s m ([.ref (bM 0)] : List Value).toArray below meth c H locs 0 0 (MQ below (qI g A (cM g bM vM1) r) ([.ref (bM 0)] : List Value).toArray s 0 0 A) (F0 m 170 ls [])) ?_ ?_ FU
                        · intro x5_38 vM_39 hf; cases hf
                        · intro self40 ih42 x5_38 vM_39 hf H locs hP hD hS ls hl
                          unfold f_X8_complete_L170 at hf
                          refine lv_iload hx hb dX8_complete_170 (lv_at hl 4 rfl) ?_
                          refine lv_aload_n hx hb dX8_complete_172 rfl (lv_at hl 0 rfl) ?_
                          obtain ⟨r43, hg44, hf⟩ := o1_at hf
                          refine k_viW ⟨hx, hb, hml, hown, htu⟩ hK hP hD hS hA hG (c_X8_faults l g bM vM_39 r43 hg44) (cwV 0 htu (gU_V mw_6_44 hcX8_faults) rfl rfl rfl hdX8_faults ⟨Nat.le_of_ble_eq_true rfl, Nat.le_of_ble_eq_true rfl⟩) (q0 := 0) (ci := 8) (fs := fcM bM vM_39) (q := (RX8, TX8, 23)) rfl rfl rfl (As := []) (rest := [.int x5_38]) rfl rfl hl.1 (Nat.le_of_ble_eq_true rfl) dX8_complete_173 (k1 := 0) (n1 := 0) rfl rfl ⟨Nat.zero_le _, Nat.zero_le _⟩ (fun H locs hP hD hS => ?_)
                          refine lv_icmp_ge (tgt := 219) hx hb dX8_complete_176 (by decide) (fun c45 => ?_) (fun c45 => ?_)
                          · have hf := it_t hf c45
                            refine lv_iinc (v := (x1_8 + (1 : Int32))) (lv' := [(1, .int (x1_8 + (1 : Int32))), (0, .ref (bM 0)), (2, .int t32), (3, .int x3_23), (5, .int x5_38)]) hx hb dX8_complete_219 hl (k := 1) rfl rfl (by decide) rfl (fun ls hl => ?_)
                            refine lv_goto (tgt := 21) hx hb dX8_complete_222 (by decide) ?_
                            exact ih13 (x1_8 + (1 : Int32)) t32 vM_39 hf H locs hP hD hS _ (lv_sub hl [1, 0, 2] rfl)
                          · have hf := it_f hf c45
                            refine lv_aload_n hx hb dX8_complete_179 rfl (lv_at hl 0 rfl) ?_
                            refine va_get (D := g.1) (ci := 8) (fs := fcM bM vM_39) (v := .ref (bM 11)) (C := RX8) (T := TX8) (N := 23) hx hb htu hinX8 hown hK hP 0 rfl rfl 10 (by decide) k_5_82 (fun _ h9 => h9) rfl dX8_complete_180 ?_
                            refine lv_sipush (v := (256 : Int32)) hx hb dX8_complete_183 (by decide) ?_
                            refine lv_iload hx hb dX8_complete_186 (lv_at hl 4 rfl) ?_
                            refine lv_imul hx hb dX8_complete_188 ?_
                            refine lv_iload_n hx hb dX8_complete_189 rfl (lv_at hl 3 rfl) ?_
                            refine lv_iadd hx hb dX8_complete_190 ?_
                            obtain ⟨h46, hf⟩ := gd_in hf
                            refine va_iald (D := g.1) (f := (vM_39.2.1 10)) hx hb hK hP 8 0 rfl rfl h46 dX8_complete_191 ?_
                            refine lv_aload_n hx hb dX8_complete_192 rfl (lv_at hl 0 rfl) ?_
                            refine va_get (D := g.1) (ci := 8) (fs := fcM bM vM_39) (v := .ref (bM 11)) (C := RX8) (T := TX8) (N := 23) hx hb htu hinX8 hown hK hP 0 rfl rfl 10 (by decide) k_5_82 (fun _ h9 => h9) rfl dX8_complete_193 ?_
                            refine lv_sipush (v := (14336 : Int32)) hx hb dX8_complete_196 (by decide) ?_
                            refine lv_iload_n hx hb dX8_complete_199 rfl (lv_at hl 3 rfl) ?_
                            refine lv_iadd hx hb dX8_complete_200 ?_
                            obtain ⟨h47, hf⟩ := gd_in hf
                            refine va_iald (D := g.1) (f := (vM_39.2.1 10)) hx hb hK hP 8 0 rfl rfl h47 dX8_complete_201 ?_
                            obtain ⟨k49, hk51, hf⟩ := jn_at hf
                            have hJ50 : ∀ (vM_48 : Vs), k49 vM_48 = some (r, vM1) → ∀ (H : Heap) (locs : List Loc), va_P g.1 vwCl (cM g bM vM_48) H → va_D A (cM g bM vM_48) → va_S A s.heap H locs → ∀ ls : Array Slot, lv_has ls 8 [(0, .ref (bM 0)), (1, .int x1_8), (2, .int t32), (3, .int x3_23), (5, .int x5_38)] → W p l e (headSpec wsX8_complete rmX8_complete).room s m ([.ref (bM 0)] : List Value).toArray below meth c H locs 0 0 (MQ below (qI g A (cM g bM vM1) r) ([.ref (bM 0)] : List Value).toArray s 0 0 A) (F0 m 213 ls []) := by
                              intro vM_48 hf H locs hP hD hS ls hl
                              rw [hk51] at hf
                              dsimp only at hf
                              clear hk51
                              refine lv_iinc (v := (x5_38 + (1 : Int32))) (lv' := [(5, .int (x5_38 + (1 : Int32))), (0, .ref (bM 0)), (1, .int x1_8), (2, .int t32), (3, .int x3_23)]) hx hb dX8_complete_213 hl (k := 4) rfl rfl (by decide) rfl (fun ls hl => ?_)
                              refine lv_goto (tgt := 170) hx hb dX8_complete_216 (by decide) ?_
                              exact ih42 (x5_38 + (1 : Int32)) vM_48 hf H locs hP hD hS _ (lv_sub hl [1, 2, 3, 4, 0] rfl)
                            refine lv_icmp_eq (tgt := 213) hx hb dX8_complete_202 (by decide) (fun c52 => ?_) (fun c52 => ?_)
                            · have hf := it_t hf c52
                              exact hJ50 vM_39 hf H locs hP hD hS _ (lv_sub hl [0, 1, 2, 3, 4] rfl)
                            · have hf := it_f hf c52
                              refine lv_aload_n hx hb dX8_complete_205 rfl (lv_at hl 0 rfl) ?_
                              refine va_get (D := g.1) (ci := 8) (fs := fcM bM vM_39) (v := .ref (bM 10)) (C := RX8) (T := TX8) (N := 23) hx hb htu hinX8 hown hK hP 0 rfl rfl 9 (by decide) k_5_81 (fun _ h9 => h9) rfl dX8_complete_206 ?_
                              refine lv_iload hx hb dX8_complete_209 (lv_at hl 4 rfl) ?_
                              refine lv_iconst (v := (1 : Int32)) hx hb dX8_complete_211 (by decide) ?_
                              obtain ⟨h53, hf⟩ := gd_in hf
                              refine va_iast (D := g.1) (f := (vM_39.2.1 9)) hx hb hK hP hD hS 7 0 rfl rfl h53 dX8_complete_212 (fun H locs hP hD hS => ?_)
                              obtain ⟨vM_54, evM_54⟩ : ∃ z, z = sI vM_39 9 (x5_38).toNatClampNeg (1 : Int32) := ⟨_, rfl⟩
                              have hf := bn_at hf evM_54
                              have hP : va_P g.1 vwCl (cM g bM vM_54) H := by rw [evM_54]; exact hP
                              have hD : va_D A (cM g bM vM_54) := by rw [evM_54]; exact hD
                              exact hJ50 vM_54 hf H locs hP hD hS _ (lv_sub hl [0, 1, 2, 3, 4] rfl)
                      exact hL41 (0 : Int32) vM_36 hf H locs hP hD hS _ (lv_sub hl [2, 3, 1, 4, 0] rfl)
                    · have hf := it_t hf c35
                      refine lv_goto (tgt := 21) hx hb dX8_complete_158 (by decide) ?_
                      exact ih13 x1_8 t32 vM_10 hf H locs hP hD hS _ (lv_sub hl [1, 2, 0] rfl)
                  refine lv_icmp_eq (tgt := 152) hx hb dX8_complete_145 (by decide) (fun c56 => ?_) (fun c56 => ?_)
                  · have hf := it_t hf c56
                    refine lv_iconst (v := (0 : Int32)) hx hb dX8_complete_152 (by decide) ?_
                    exact hJ34 (0 : Int32) hf H locs hP hD hS _ (lv_sub hl [0, 1, 2] rfl)
                  · have hf := it_f hf c56
                    refine lv_iconst (v := (1 : Int32)) hx hb dX8_complete_148 (by decide) ?_
                    refine lv_goto (tgt := 153) hx hb dX8_complete_149 (by decide) ?_
                    exact hJ34 (1 : Int32) hf H locs hP hD hS _ (lv_sub hl [0, 1, 2] rfl)
                · have hf := it_f hf c31
                  refine lv_iconst (v := (0 : Int32)) hx hb dX8_complete_51 (by decide) ?_
                  refine lv_istore (lv' := [(6, .int (0 : Int32)), (0, .ref (bM 0)), (1, .int x1_8), (3, .int x3_23), (4, .int x4_24), (5, .int x5_25)]) hx hb dX8_complete_52 hl (by decide) rfl (fun ls hl => ?_)
                  refine lv_iconst (v := (0 : Int32)) hx hb dX8_complete_54 (by decide) ?_
                  refine lv_istore (lv' := [(7, .int (0 : Int32)), (6, .int (0 : Int32)), (0, .ref (bM 0)), (1, .int x1_8), (3, .int x3_23), (4, .int x4_24), (5, .int x5_25)]) hx hb dX8_complete_55 hl (by decide) rfl (fun ls hl => ?_)
                  have hL60 : ∀ (x6_57 : Int32) (x7_58 : Int32), lp (f_X8_complete_L57 vM_10 x3_23 x4_24 x5_25 self26) (fun _ _ => none) FU x6_57 x7_58 = some (r, vM1) → ∀ (H : Heap) (locs : List Loc), va_P g.1 vwCl (cM g bM vM_10) H → va_D A (cM g bM vM_10) → va_S A s.heap H locs → ∀ ls : Array Slot, lv_has ls 8 [(0, .ref (bM 0)), (1, .int x1_8), (3, .int x3_23), (4, .int x4_24), (5, .int x5_25), (6, .int x6_57), (7, .int x7_58)] → W p l e (headSpec wsX8_complete rmX8_complete).room s m ([.ref (bM 0)] : List Value).toArray below meth c H locs 0 0 (MQ below (qI g A (cM g bM vM1) r) ([.ref (bM 0)] : List Value).toArray s 0 0 A) (F0 m 57 ls []) := by
                    refine lp_ind (T := Int32 → Int32 → Option (Int32 × Vs)) (fun self59 => ∀ (x6_57 : Int32) (x7_58 : Int32), self59 x6_57 x7_58 = some (r, vM1) → ∀ (H : Heap) (locs : List Loc), va_P g.1 vwCl (cM g bM vM_10) H → va_D A (cM g bM vM_10) → va_S A s.heap H locs → ∀ ls : Array Slot, lv_has ls 8 [(0, .ref (bM 0)), (1, .int x1_8), (3, .int x3_23), (4, .int x4_24), (5, .int x5_25), (6, .int x6_57), (7, .int x7_58)] → W p l e (headSpec wsX8_complete rmX8_complete).room s m ([.ref (bM 0)] : List Value).toArray below meth c H locs 0 0 (MQ below (qI g A (cM g bM vM1) r) ([.ref (bM 0)] : List Value).toArray s 0 0 A) (F0 m 57 ls [])) ?_ ?_ FU
                    · intro x6_57 x7_58 hf; cases hf
                    · intro self59 ih61 x6_57 x7_58 hf H locs hP hD hS ls hl
                      unfold f_X8_complete_L57 at hf
                      refine lv_iload hx hb dX8_complete_57 (lv_at hl 6 rfl) ?_
                      refine lv_aload_n hx hb dX8_complete_59 rfl (lv_at hl 0 rfl) ?_
                      obtain ⟨r62, hg63, hf⟩ := o1_at hf
                      refine k_viW ⟨hx, hb, hml, hown, htu⟩ hK hP hD hS hA hG (c_X8_faults l g bM vM_10 r62 hg63) (cwV 0 htu (gU_V mw_6_44 hcX8_faults) rfl rfl rfl hdX8_faults ⟨Nat.le_of_ble_eq_true rfl, Nat.le_of_ble_eq_true rfl⟩) (q0 := 0) (ci := 8) (fs := fcM bM vM_10) (q := (RX8, TX8, 23)) rfl rfl rfl (As := []) (rest := [.int x7_58]) rfl rfl hl.1 (Nat.le_of_ble_eq_true rfl) dX8_complete_60 (k1 := 0) (n1 := 0) rfl rfl ⟨Nat.zero_le _, Nat.zero_le _⟩ (fun H locs hP hD hS => ?_)
                      refine lv_icmp_ge (tgt := 120) hx hb dX8_complete_63 (by decide) (fun c64 => ?_) (fun c64 => ?_)
                      · have hf := it_t hf c64
                        refine lv_iload hx hb dX8_complete_120 (lv_at hl 5 rfl) ?_
                        refine lv_iload hx hb dX8_complete_122 (lv_at hl 3 rfl) ?_
                        obtain ⟨k67, hk69, hf⟩ := jn_at hf
                        have hJ68 : ∀ (x3_65 : Int32) (x4_66 : Int32), k67 x3_65 x4_66 = some (r, vM1) → ∀ (H : Heap) (locs : List Loc), va_P g.1 vwCl (cM g bM vM_10) H → va_D A (cM g bM vM_10) → va_S A s.heap H locs → ∀ ls : Array Slot, lv_has ls 8 [(0, .ref (bM 0)), (1, .int x1_8), (3, .int x3_65), (4, .int x4_66), (5, .int x5_25)] → W p l e (headSpec wsX8_complete rmX8_complete).room s m ([.ref (bM 0)] : List Value).toArray below meth c H locs 0 0 (MQ below (qI g A (cM g bM vM1) r) ([.ref (bM 0)] : List Value).toArray s 0 0 A) (F0 m 137 ls []) := by
                          intro x3_65 x4_66 hf H locs hP hD hS ls hl
                          rw [hk69] at hf
                          dsimp only at hf
                          clear hk69
                          refine lv_iinc (v := (x5_25 + (1 : Int32))) (lv' := [(5, .int (x5_25 + (1 : Int32))), (0, .ref (bM 0)), (1, .int x1_8), (3, .int x3_65), (4, .int x4_66)]) hx hb dX8_complete_137 hl (k := 4) rfl rfl (by decide) rfl (fun ls hl => ?_)
                          refine lv_goto (tgt := 42) hx hb dX8_complete_140 (by decide) ?_
                          exact ih28 x3_65 x4_66 (x5_25 + (1 : Int32)) hf H locs hP hD hS _ (lv_sub hl [1, 2, 3, 4, 0] rfl)
                        refine lv_icmp_gt (tgt := 130) hx hb dX8_complete_124 (by decide) (fun c70 => ?_) (fun c70 => ?_)
                        · have hf := it_t hf c70
                          refine lv_iload hx hb dX8_complete_130 (lv_at hl 4 rfl) ?_
                          refine lv_istore_n (lv' := [(3, .int x5_25), (0, .ref (bM 0)), (1, .int x1_8), (4, .int x4_24), (5, .int x5_25), (6, .int x6_57), (7, .int x7_58)]) hx hb dX8_complete_132 rfl hl (by decide) rfl (fun ls hl => ?_)
                          refine lv_iload hx hb dX8_complete_133 (lv_at hl 5 rfl) ?_
                          refine lv_istore (lv' := [(4, .int x6_57), (3, .int x5_25), (0, .ref (bM 0)), (1, .int x1_8), (5, .int x5_25), (6, .int x6_57), (7, .int x7_58)]) hx hb dX8_complete_135 hl (by decide) rfl (fun ls hl => ?_)
                          exact hJ68 x5_25 x6_57 hf H locs hP hD hS _ (lv_sub hl [2, 3, 1, 0, 4] rfl)
                        · have hf := it_f hf c70
                          refine lv_goto (tgt := 137) hx hb dX8_complete_127 (by decide) ?_
                          exact hJ68 x3_23 x4_24 hf H locs hP hD hS _ (lv_sub hl [0, 1, 2, 3, 4] rfl)
                      · have hf := it_f hf c64
                        refine lv_iload hx hb dX8_complete_66 (lv_at hl 5 rfl) ?_
                        refine lv_aload_n hx hb dX8_complete_68 rfl (lv_at hl 0 rfl) ?_
                        refine va_get (D := g.1) (ci := 8) (fs := fcM bM vM_10) (v := .ref (bM 10)) (C := RX8) (T := TX8) (N := 23) hx hb htu hinX8 hown hK hP 0 rfl rfl 9 (by decide) k_5_81 (fun _ h9 => h9) rfl dX8_complete_69 ?_
                        refine lv_iload hx hb dX8_complete_72 (lv_at hl 6 rfl) ?_
                        obtain ⟨h71, hf⟩ := gd_in hf
                        refine va_iald (D := g.1) (f := (vM_10.2.1 9)) hx hb hK hP 7 0 rfl rfl h71 dX8_complete_74 ?_
                        obtain ⟨k73, hk75, hf⟩ := jn_at hf
                        have hJ74 : ∀ (t72 : Int32), k73 t72 = some (r, vM1) → ∀ (H : Heap) (locs : List Loc), va_P g.1 vwCl (cM g bM vM_10) H → va_D A (cM g bM vM_10) → va_S A s.heap H locs → ∀ ls : Array Slot, lv_has ls 8 [(0, .ref (bM 0)), (1, .int x1_8), (3, .int x3_23), (4, .int x4_24), (5, .int x5_25), (7, .int x7_58)] → W p l e (headSpec wsX8_complete rmX8_complete).room s m ([.ref (bM 0)] : List Value).toArray below meth c H locs 0 0 (MQ below (qI g A (cM g bM vM1) r) ([.ref (bM 0)] : List Value).toArray s 0 0 A) (F0 m 111 ls [.int t72, .int x6_57]) := by
                          intro t72 hf H locs hP hD hS ls hl
                          rw [hk75] at hf
                          dsimp only at hf
                          clear hk75
                          refine lv_iadd hx hb dX8_complete_111 ?_
                          refine lv_istore (lv' := [(6, .int (x6_57 + t72)), (0, .ref (bM 0)), (1, .int x1_8), (3, .int x3_23), (4, .int x4_24), (5, .int x5_25), (7, .int x7_58)]) hx hb dX8_complete_112 hl (by decide) rfl (fun ls hl => ?_)
                          refine lv_iinc (v := (x7_58 + (1 : Int32))) (lv' := [(7, .int (x7_58 + (1 : Int32))), (6, .int (x6_57 + t72)), (0, .ref (bM 0)), (1, .int x1_8), (3, .int x3_23), (4, .int x4_24), (5, .int x5_25)]) hx hb dX8_complete_114 hl (k := 6) rfl rfl (by decide) rfl (fun ls hl => ?_)
                          refine lv_goto (tgt := 57) hx hb dX8_complete_117 (by decide) ?_
                          exact ih61 (x6_57 + t72) (x7_58 + (1 : Int32)) hf H locs hP hD hS _ (lv_sub hl [2, 3, 4, 5, 6, 1, 0] rfl)
                        obtain ⟨k76, hk78, hf⟩ := jn_at hf
                        have hJ77 : k76 = some (r, vM1) → ∀ (H : Heap) (locs : List Loc), va_P g.1 vwCl (cM g bM vM_10) H → va_D A (cM g bM vM_10) → va_S A s.heap H locs → ∀ ls : Array Slot, lv_has ls 8 [(0, .ref (bM 0)), (1, .int x1_8), (3, .int x3_23), (4, .int x4_24), (5, .int x5_25), (7, .int x7_58)] → W p l e (headSpec wsX8_complete rmX8_complete).room s m ([.ref (bM 0)] : List Value).toArray below meth c H locs 0 0 (MQ below (qI g A (cM g bM vM1) r) ([.ref (bM 0)] : List Value).toArray s 0 0 A) (F0 m 110 ls [.int x6_57]) := by
                          intro hf H locs hP hD hS ls hl
                          rw [hk78] at hf
                          clear hk78
                          refine lv_iconst (v := (0 : Int32)) hx hb dX8_complete_110 (by decide) ?_
                          exact hJ74 (0 : Int32) hf H locs hP hD hS _ (lv_sub hl [0, 1, 2, 3, 4, 5] rfl)
                        refine lv_if_ne (tgt := 110) hx hb dX8_complete_75 (by decide) (fun c79 => ?_) (fun c79 => ?_)
                        · have hf := it_f hf c79
                          exact hJ77 hf H locs hP hD hS _ (lv_sub hl [0, 1, 2, 3, 4, 6] rfl)
                        · have hf := it_t hf c79
                          refine lv_aload_n hx hb dX8_complete_78 rfl (lv_at hl 0 rfl) ?_
                          refine va_get (D := g.1) (ci := 8) (fs := fcM bM vM_10) (v := .ref (bM 11)) (C := RX8) (T := TX8) (N := 23) hx hb htu hinX8 hown hK hP 0 rfl rfl 10 (by decide) k_5_82 (fun _ h9 => h9) rfl dX8_complete_79 ?_
                          refine lv_sipush (v := (256 : Int32)) hx hb dX8_complete_82 (by decide) ?_
                          refine lv_iload hx hb dX8_complete_85 (lv_at hl 6 rfl) ?_
                          refine lv_imul hx hb dX8_complete_87 ?_
                          refine lv_iload hx hb dX8_complete_88 (lv_at hl 4 rfl) ?_
                          refine lv_iadd hx hb dX8_complete_90 ?_
                          obtain ⟨h80, hf⟩ := gd_in hf
                          refine va_iald (D := g.1) (f := (vM_10.2.1 10)) hx hb hK hP 8 0 rfl rfl h80 dX8_complete_91 ?_
                          refine lv_aload_n hx hb dX8_complete_92 rfl (lv_at hl 0 rfl) ?_
                          refine va_get (D := g.1) (ci := 8) (fs := fcM bM vM_10) (v := .ref (bM 11)) (C := RX8) (T := TX8) (N := 23) hx hb htu hinX8 hown hK hP 0 rfl rfl 10 (by decide) k_5_82 (fun _ h9 => h9) rfl dX8_complete_93 ?_
                          refine lv_sipush (v := (14336 : Int32)) hx hb dX8_complete_96 (by decide) ?_
                          refine lv_iload hx hb dX8_complete_99 (lv_at hl 4 rfl) ?_
                          refine lv_iadd hx hb dX8_complete_101 ?_
                          obtain ⟨h81, hf⟩ := gd_in hf
                          refine va_iald (D := g.1) (f := (vM_10.2.1 10)) hx hb hK hP 8 0 rfl rfl h81 dX8_complete_102 ?_
                          refine lv_icmp_eq (tgt := 110) hx hb dX8_complete_103 (by decide) (fun c82 => ?_) (fun c82 => ?_)
                          · have hf := it_t hf c82
                            exact hJ77 hf H locs hP hD hS _ (lv_sub hl [0, 1, 2, 3, 4, 6] rfl)
                          · have hf := it_f hf c82
                            refine lv_iconst (v := (1 : Int32)) hx hb dX8_complete_106 (by decide) ?_
                            refine lv_goto (tgt := 111) hx hb dX8_complete_107 (by decide) ?_
                            exact hJ74 (1 : Int32) hf H locs hP hD hS _ (lv_sub hl [0, 1, 2, 3, 4, 6] rfl)
                  exact hL60 (0 : Int32) (0 : Int32) hf H locs hP hD hS _ (lv_sub hl [2, 3, 4, 5, 6, 1, 0] rfl)
            exact hL27 (-1 : Int32) (0 : Int32) (0 : Int32) hf H locs hP hD hS _ (lv_sub hl [3, 4, 2, 1, 0] rfl)
    exact hL12 (0 : Int32) (1 : Int32) vM_6 hf H locs hP hD hS _ (lv_sub hl [2, 1, 0] rfl)
  rw [hH, hlo] at hW
  exact hW
def f_X8_undo (vM : Vs) : Option (Int32 × Vs) :=
  bn (sF vM 0 (0 : Int32)) (fun (vM_1 : Vs) => if (vM_1.1 4) = 0 then some ((-1 : Int32), vM_1) else bn (sF vM_1 4 ((vM_1.1 4) - (1 : Int32))) (fun (vM_3 : Vs) => gd (nz (9 : Int32)) (bn (sF vM_3 3 ((((vM_3.1 3) + (9 : Int32)) - (1 : Int32)) - (((vM_3.1 3) + (9 : Int32)) - (1 : Int32)) / (9 : Int32) * (9 : Int32))) (fun (vM_5 : Vs) => some ((vM_5.1 4), vM_5)))))
abbrev wsX8_undo : List Cond := .code yX8_undo cX8_undo 1 (some .int) :: UW
abbrev rmX8_undo : Room := { frames := 0, cells := 0, slots := 0, locals := 0 }
set_option maxHeartbeats 4000000 in
set_option maxRecDepth 100000 in
theorem c_X8_undo (l : Launch) (g : Gx) (bM : Nat → Nat) (vM : Vs) (r : Int32) (vM1 : Vs) (hf : f_X8_undo vM = some (r, vM1)) : CtI l yX8_undo wsX8_undo rmX8_undo g [.ref (bM 0)] (cM g bM vM) (cM g bM vM1) r 0 0 := by
  unfold CtI
  intro sz
  refine Met.ofW (cc := cX8_undo) (maxL := 1) (ret := (some .int)) (by decide) rfl ?_
  intro p e s m args below meth c s₁ B hml hv
  obtain ⟨rfl, hsz, hP, hK, hD0, hG⟩ := hv
  have hx := B.exec
  have hb := B.bytes
  have hr := B.returns
  have hts := atoms_spec (ws := wsX8_undo) B.pre
  have hown : s.vm.findClass RX8 = some m.cls := findClass_of_methodNamed B.named
  have hlocks := B.notSynchronized
  subst hsz
  have hD := hD0.self (sz := s.heap.size)
  generalize hAe : va_A (cM g bM vM) s.heap.size = A at hD hG ⊢
  have hA : ∀ q : Nat, s.heap.size ≤ q → A q := fun q h => by rw [← hAe]; exact Or.inr h
  clear hAe hD0
  have hS : va_S A s.heap s.heap [] := va_S.rf
  have hl := lv_entry ([.ref (bM 0)]) (n := 1) (Nat.le_of_ble_eq_true rfl)
  rw [lg_entry_eq]
  generalize (lg_sl ([.ref (bM 0)]) ++ List.replicate (1 - (lg_sl ([.ref (bM 0)])).length) Slot.unset).toArray = ls at hl ⊢
  have hl : lv_has ls 1 [(0, .ref (bM 0))] := hl
  have htu : ∀ w ∈ UW, w.before _ s = true := fun w h => hts w (List.mem_cons_of_mem _ h)
  have k_5_72 := htu _ mw_5_72
  have k_5_76 := htu _ mw_5_76
  have k_5_75 := htu _ mw_5_75
  unfold f_X8_undo at hf
  obtain ⟨H, hH⟩ : ∃ z, z = s.heap := ⟨_, rfl⟩
  obtain ⟨locs, hlo⟩ : ∃ z : List Loc, z = [] := ⟨_, rfl⟩
  have hS : va_S A s.heap H locs := by rw [hH, hlo]; exact hS
  rw [← hH] at hP
  have hW : W p l e (headSpec wsX8_undo rmX8_undo).room s m ([.ref (bM 0)] : List Value).toArray below meth c H locs 0 0 (MQ below (qI g A (cM g bM vM1) r) ([.ref (bM 0)] : List Value).toArray s 0 0 A) (F0 m 0 ls []) := by
    refine lv_aload_n hx hb dX8_undo_0 rfl (lv_at hl 0 rfl) ?_
    refine lv_iconst (v := (0 : Int32)) hx hb dX8_undo_1 (by decide) ?_
    refine va_put (D := g.1) (ci := 8) (fs := fcM bM vM) (v := .int (0 : Int32)) (ty := .int) (C := RX8) (T := TX8) (N := 23) hx hb htu hinX8 tyX8 tyX8_ok nmX8 hown hK hP hD hS 0 rfl rfl 0 (by decide) k_5_72 (fun _ h9 => h9) rfl (by decide +kernel) rfl rfl (Nat.le_of_ble_eq_true rfl) dX8_undo_2 (fun H locs hP hD hS => ?_)
    obtain ⟨vM_1, evM_1⟩ : ∃ z, z = sF vM 0 (0 : Int32) := ⟨_, rfl⟩
    have hf := bn_at hf evM_1
    have hP : va_P g.1 vwCl (cM g bM vM_1) H := by rw [evM_1]; exact hP
    have hD : va_D A (cM g bM vM_1) := by rw [evM_1]; exact hD
    refine lv_aload_n hx hb dX8_undo_5 rfl (lv_at hl 0 rfl) ?_
    refine va_get (D := g.1) (ci := 8) (fs := fcM bM vM_1) (v := .int (vM_1.1 4)) (C := RX8) (T := TX8) (N := 23) hx hb htu hinX8 hown hK hP 0 rfl rfl 4 (by decide) k_5_76 (fun _ h9 => h9) rfl dX8_undo_6 ?_
    refine lv_if_ne (tgt := 14) hx hb dX8_undo_9 (by decide) (fun c2 => ?_) (fun c2 => ?_)
    · have hf := it_f hf c2
      refine lv_aload_n hx hb dX8_undo_14 rfl (lv_at hl 0 rfl) ?_
      refine lv_dup hx hb dX8_undo_15 rfl ?_
      refine va_get (D := g.1) (ci := 8) (fs := fcM bM vM_1) (v := .int (vM_1.1 4)) (C := RX8) (T := TX8) (N := 23) hx hb htu hinX8 hown hK hP 0 rfl rfl 4 (by decide) k_5_76 (fun _ h9 => h9) rfl dX8_undo_16 ?_
      refine lv_iconst (v := (1 : Int32)) hx hb dX8_undo_19 (by decide) ?_
      refine lv_isub hx hb dX8_undo_20 ?_
      refine va_put (D := g.1) (ci := 8) (fs := fcM bM vM_1) (v := .int ((vM_1.1 4) - (1 : Int32))) (ty := .int) (C := RX8) (T := TX8) (N := 23) hx hb htu hinX8 tyX8 tyX8_ok nmX8 hown hK hP hD hS 0 rfl rfl 4 (by decide) k_5_76 (fun _ h9 => h9) rfl (by decide +kernel) rfl rfl (Nat.le_of_ble_eq_true rfl) dX8_undo_21 (fun H locs hP hD hS => ?_)
      obtain ⟨vM_3, evM_3⟩ : ∃ z, z = sF vM_1 4 ((vM_1.1 4) - (1 : Int32)) := ⟨_, rfl⟩
      have hf := bn_at hf evM_3
      have hP : va_P g.1 vwCl (cM g bM vM_3) H := by rw [evM_3]; exact hP
      have hD : va_D A (cM g bM vM_3) := by rw [evM_3]; exact hD
      refine lv_aload_n hx hb dX8_undo_24 rfl (lv_at hl 0 rfl) ?_
      refine lv_aload_n hx hb dX8_undo_25 rfl (lv_at hl 0 rfl) ?_
      refine va_get (D := g.1) (ci := 8) (fs := fcM bM vM_3) (v := .int (vM_3.1 3)) (C := RX8) (T := TX8) (N := 23) hx hb htu hinX8 hown hK hP 0 rfl rfl 3 (by decide) k_5_75 (fun _ h9 => h9) rfl dX8_undo_26 ?_
      refine lv_bipush (v := (9 : Int32)) hx hb dX8_undo_29 (by decide) ?_
      refine lv_iadd hx hb dX8_undo_31 ?_
      refine lv_iconst (v := (1 : Int32)) hx hb dX8_undo_32 (by decide) ?_
      refine lv_isub hx hb dX8_undo_33 ?_
      refine lv_bipush (v := (9 : Int32)) hx hb dX8_undo_34 (by decide) ?_
      obtain ⟨h4, hf⟩ := gd_nz hf
      refine lv_irem hx hb dX8_undo_36 h4 ?_
      refine va_put (D := g.1) (ci := 8) (fs := fcM bM vM_3) (v := .int ((((vM_3.1 3) + (9 : Int32)) - (1 : Int32)) - (((vM_3.1 3) + (9 : Int32)) - (1 : Int32)) / (9 : Int32) * (9 : Int32))) (ty := .int) (C := RX8) (T := TX8) (N := 23) hx hb htu hinX8 tyX8 tyX8_ok nmX8 hown hK hP hD hS 0 rfl rfl 3 (by decide) k_5_75 (fun _ h9 => h9) rfl (by decide +kernel) rfl rfl (Nat.le_of_ble_eq_true rfl) dX8_undo_37 (fun H locs hP hD hS => ?_)
      obtain ⟨vM_5, evM_5⟩ : ∃ z, z = sF vM_3 3 ((((vM_3.1 3) + (9 : Int32)) - (1 : Int32)) - (((vM_3.1 3) + (9 : Int32)) - (1 : Int32)) / (9 : Int32) * (9 : Int32)) := ⟨_, rfl⟩
      have hf := bn_at hf evM_5
      have hP : va_P g.1 vwCl (cM g bM vM_5) H := by rw [evM_5]; exact hP
      have hD : va_D A (cM g bM vM_5) := by rw [evM_5]; exact hD
      refine lv_aload_n hx hb dX8_undo_40 rfl (lv_at hl 0 rfl) ?_
      refine va_get (D := g.1) (ci := 8) (fs := fcM bM vM_5) (v := .int (vM_5.1 4)) (C := RX8) (T := TX8) (N := 23) hx hb htu hinX8 hown hK hP 0 rfl rfl 4 (by decide) k_5_76 (fun _ h9 => h9) rfl dX8_undo_41 ?_
      obtain ⟨e6, e7⟩ := kp_2 hf
      rw [e7] at hP hD
      exact k_iret hx hb hr hlocks hK hP hD hS e6 dX8_undo_44
    · have hf := it_t hf c2
      refine lv_iconst (v := (-1 : Int32)) hx hb dX8_undo_12 (by decide) ?_
      obtain ⟨e8, e9⟩ := kp_2 hf
      rw [e9] at hP hD
      exact k_iret hx hb hr hlocks hK hP hD hS e8 dX8_undo_13
  rw [hH, hlo] at hW
  exact hW
def f_X8_joins (x0 : Int64) (x2 : Int64) : Option (Int64) :=
  some ((((31 : Int64) * x0) + x2))
abbrev wsX8_joins : List Cond := .code yX8_joins cX8_joins 4 (some .long) :: UW
abbrev rmX8_joins : Room := { frames := 0, cells := 0, slots := 0, locals := 0 }
set_option maxHeartbeats 4000000 in
set_option maxRecDepth 100000 in
theorem c_X8_joins (l : Launch) (g : Gx) (x0 : Int64) (x2 : Int64) (r : Int64) (hf : f_X8_joins x0 x2 = some r) : CtJ l yX8_joins wsX8_joins rmX8_joins g [.long x0, .long x2] ([]) ([]) r 0 0 := by
  unfold CtJ
  intro sz
  refine Met.ofW (cc := cX8_joins) (maxL := 4) (ret := (some .long)) (by decide) rfl ?_
  intro p e s m args below meth c s₁ B hml hv
  obtain ⟨rfl, hsz, hP, hK, hD0, hG⟩ := hv
  have hx := B.exec
  have hb := B.bytes
  have hr := B.returns
  have hts := atoms_spec (ws := wsX8_joins) B.pre
  have hown : s.vm.findClass RX8 = some m.cls := findClass_of_methodNamed B.named
  have hlocks := B.notSynchronized
  subst hsz
  have hD := hD0.self (sz := s.heap.size)
  generalize hAe : va_A ([]) s.heap.size = A at hD hG ⊢
  have hA : ∀ q : Nat, s.heap.size ≤ q → A q := fun q h => by rw [← hAe]; exact Or.inr h
  clear hAe hD0
  have hS : va_S A s.heap s.heap [] := va_S.rf
  have hl := lv_entry ([.long x0, .long x2]) (n := 4) (Nat.le_of_ble_eq_true rfl)
  rw [lg_entry_eq]
  generalize (lg_sl ([.long x0, .long x2]) ++ List.replicate (4 - (lg_sl ([.long x0, .long x2])).length) Slot.unset).toArray = ls at hl ⊢
  have hl : lv_has ls 4 [(0, .long x0), (2, .long x2)] := hl
  have htu : ∀ w ∈ UW, w.before _ s = true := fun w h => hts w (List.mem_cons_of_mem _ h)
  have k_7_64 := htu _ mw_7_64
  unfold f_X8_joins at hf
  obtain ⟨H, hH⟩ : ∃ z, z = s.heap := ⟨_, rfl⟩
  obtain ⟨locs, hlo⟩ : ∃ z : List Loc, z = [] := ⟨_, rfl⟩
  have hS : va_S A s.heap H locs := by rw [hH, hlo]; exact hS
  rw [← hH] at hP
  have hW : W p l e (headSpec wsX8_joins rmX8_joins).room s m ([.long x0, .long x2] : List Value).toArray below meth c H locs 0 0 (MQ below (qJ g A ([]) r) ([.long x0, .long x2] : List Value).toArray s 0 0 A) (F0 m 0 ls []) := by
    refine lv_ldc2 (v := (31 : Int64)) hx hb hown k_7_64 dX8_joins_0 ?_
    refine lv_lload_n hx hb dX8_joins_3 rfl (lv_at hl 0 rfl) ?_
    refine lv_lmul hx hb dX8_joins_4 ?_
    refine lv_lload_n hx hb dX8_joins_5 rfl (lv_at hl 1 rfl) ?_
    refine lv_ladd hx hb dX8_joins_6 ?_
    have e1 := Option.some.inj hf
    exact k_lret hx hb hr hlocks hK hP hD hS e1 dX8_joins_7
  rw [hH, hlo] at hW
  exact hW
def f_X8_checksum_L157 (x3_19 : Int32) (self21 : Int64 → Int32 → Vs → Option (Int64 × Vs)) (vM_34 : Vs) (self46 : Int64 → Int32 → Option (Int64 × Vs)) (x1_44 : Int64) (x4_45 : Int32) : Option (Int64 × Vs) :=
  o1 (f_X8_outputs vM_34) (fun (r49 : Int32) => if r49 ≤ x4_45 then o2 (f_X8_worthOf vM_34 x3_19) (fun (r52 : Int32) (vM_53 : Vs) => o1 (f_X8_joins x1_44 ((r52).toInt64)) (fun (r55 : Int64) => self21 r55 (x3_19 + (1 : Int32)) vM_53)) else o1 (f_X8_seenAt vM_34 x3_19 x4_45) (fun (r57 : Int32) => o1 (f_X8_joins x1_44 ((r57).toInt64)) (fun (r59 : Int64) => self46 r59 (x4_45 + (1 : Int32)))))
def f_X8_checksum_L126 (x3_19 : Int32) (self21 : Int64 → Int32 → Vs → Option (Int64 × Vs)) (vM_34 : Vs) (self38 : Int64 → Int32 → Option (Int64 × Vs)) (x1_36 : Int64) (x4_37 : Int32) : Option (Int64 × Vs) :=
  o1 (f_X8_wires vM_34) (fun (r41 : Int32) => if r41 ≤ x4_37 then lp (f_X8_checksum_L157 x3_19 self21 vM_34) (fun _ _ => none) FU x1_36 (0 : Int32) else gd (inb x4_37 24) (o1 (f_X8_joins x1_36 (((vM_34.2.1 7 (x4_37).toNatClampNeg)).toInt64)) (fun (r62 : Int64) => self38 r62 (x4_37 + (1 : Int32)))))
def f_X8_checksum_L110 (self21 : Int64 → Int32 → Vs → Option (Int64 × Vs)) (x1_18 : Int64) (x3_19 : Int32) (vM_20 : Vs) : Option (Int64 × Vs) :=
  o1 (f_X8_tests vM_20) (fun (r24 : Int32) => if r24 ≤ x3_19 then o2 (f_X8_fitting vM_20) (fun (r27 : Int32) (vM_28 : Vs) => o1 (f_X8_joins x1_18 ((r27).toInt64)) (fun (r30 : Int64) => some (r30, vM_28))) else o1 (f_X8_asksTest vM_20 x3_19) (fun (vM_34 : Vs) => lp (f_X8_checksum_L126 x3_19 self21 vM_34) (fun _ _ => none) FU x1_18 (0 : Int32)))
def f_X8_checksum_L73 (x3_10 : Int32) (self12 : Int64 → Int32 → Vs → Option (Int64 × Vs)) (vM_66 : Vs) (self73 : Int64 → Int32 → Option (Int64 × Vs)) (x1_71 : Int64) (x4_72 : Int32) : Option (Int64 × Vs) :=
  o1 (f_X8_have vM_66 x3_10) (fun (r76 : Int32) => if r76 ≤ x4_72 then self12 x1_71 (x3_10 + (1 : Int32)) vM_66 else o1 (f_X8_operandOf vM_66 x3_10 x4_72) (fun (r79 : Int32) => o1 (f_X8_joins x1_71 ((r79).toInt64)) (fun (r81 : Int64) => self73 r81 (x4_72 + (1 : Int32)))))
def f_X8_checksum_L45 (x3_10 : Int32) (self12 : Int64 → Int32 → Vs → Option (Int64 × Vs)) (self67 : Int64 → Int32 → Vs → Option (Int64 × Vs)) (x1_64 : Int64) (x4_65 : Int32) (vM_66 : Vs) : Option (Int64 × Vs) :=
  if (5 : Int32) ≤ x4_65 then lp (f_X8_checksum_L73 x3_10 self12 vM_66) (fun _ _ => none) FU x1_64 (0 : Int32) else o2 (f_X8_ofWire vM_66 x3_10 x4_65) (fun (r83 : Int32) (vM_84 : Vs) => o1 (f_X8_joins x1_64 ((r83).toInt64)) (fun (r86 : Int64) => self67 r86 (x4_65 + (1 : Int32)) vM_84))
def f_X8_checksum_L34 (self12 : Int64 → Int32 → Vs → Option (Int64 × Vs)) (x1_9 : Int64) (x3_10 : Int32) (vM_11 : Vs) : Option (Int64 × Vs) :=
  o1 (f_X8_wires vM_11) (fun (r15 : Int32) => if r15 ≤ x3_10 then lp f_X8_checksum_L110 (fun _ _ _ => none) FU x1_9 (0 : Int32) vM_11 else lp (f_X8_checksum_L45 x3_10 self12) (fun _ _ _ => none) FU x1_9 (0 : Int32) vM_11)
def f_X8_checksum_L9 (self5 : Int64 → Int32 → Vs → Option (Int64 × Vs)) (x1_2 : Int64) (x3_3 : Int32) (vM_4 : Vs) : Option (Int64 × Vs) :=
  if (9 : Int32) ≤ x3_3 then lp f_X8_checksum_L34 (fun _ _ _ => none) FU x1_2 (0 : Int32) vM_4 else o2 (f_X8_told vM_4 x3_3) (fun (r88 : Int32) (vM_89 : Vs) => o1 (f_X8_joins x1_2 ((r88).toInt64)) (fun (r91 : Int64) => self5 r91 (x3_3 + (1 : Int32)) vM_89))
def f_X8_checksum (vM : Vs) : Option (Int64 × Vs) :=
  bn (sF vM 0 (0 : Int32)) (fun (vM_1 : Vs) => lp f_X8_checksum_L9 (fun _ _ _ => none) FU (0 : Int64) (0 : Int32) vM_1)
abbrev wsX8_checksum : List Cond := .code yX8_checksum cX8_checksum 5 (some .long) :: UW
abbrev rmX8_checksum : Room := { frames := 8, cells := 0, slots := 0, locals := 187 }
set_option maxHeartbeats 4000000 in
set_option maxRecDepth 100000 in
theorem c_X8_checksum (l : Launch) (g : Gx) (bM : Nat → Nat) (vM : Vs) (r : Int64) (vM1 : Vs) (hf : f_X8_checksum vM = some (r, vM1)) : CtJ l yX8_checksum wsX8_checksum rmX8_checksum g [.ref (bM 0)] (cM g bM vM) (cM g bM vM1) r 0 0 := by
  unfold CtJ
  intro sz
  refine Met.ofW (cc := cX8_checksum) (maxL := 5) (ret := (some .long)) (by decide) rfl ?_
  intro p e s m args below meth c s₁ B hml hv
  obtain ⟨rfl, hsz, hP, hK, hD0, hG⟩ := hv
  have hx := B.exec
  have hb := B.bytes
  have hr := B.returns
  have hts := atoms_spec (ws := wsX8_checksum) B.pre
  have hown : s.vm.findClass RX8 = some m.cls := findClass_of_methodNamed B.named
  have hlocks := B.notSynchronized
  subst hsz
  have hD := hD0.self (sz := s.heap.size)
  generalize hAe : va_A (cM g bM vM) s.heap.size = A at hD hG ⊢
  have hA : ∀ q : Nat, s.heap.size ≤ q → A q := fun q h => by rw [← hAe]; exact Or.inr h
  clear hAe hD0
  have hS : va_S A s.heap s.heap [] := va_S.rf
  have hl := lv_entry ([.ref (bM 0)]) (n := 5) (Nat.le_of_ble_eq_true rfl)
  rw [lg_entry_eq]
  generalize (lg_sl ([.ref (bM 0)]) ++ List.replicate (5 - (lg_sl ([.ref (bM 0)])).length) Slot.unset).toArray = ls at hl ⊢
  have hl : lv_has ls 5 [(0, .ref (bM 0))] := hl
  have htu : ∀ w ∈ UW, w.before _ s = true := fun w h => hts w (List.mem_cons_of_mem _ h)
  have k_5_72 := htu _ mw_5_72
  have k_5_79 := htu _ mw_5_79
  unfold f_X8_checksum at hf
  obtain ⟨H, hH⟩ : ∃ z, z = s.heap := ⟨_, rfl⟩
  obtain ⟨locs, hlo⟩ : ∃ z : List Loc, z = [] := ⟨_, rfl⟩
  have hS : va_S A s.heap H locs := by rw [hH, hlo]; exact hS
  rw [← hH] at hP
  have hW : W p l e (headSpec wsX8_checksum rmX8_checksum).room s m ([.ref (bM 0)] : List Value).toArray below meth c H locs 0 0 (MQ below (qJ g A (cM g bM vM1) r) ([.ref (bM 0)] : List Value).toArray s 0 0 A) (F0 m 0 ls []) := by
    refine lv_aload_n hx hb dX8_checksum_0 rfl (lv_at hl 0 rfl) ?_
    refine lv_iconst (v := (0 : Int32)) hx hb dX8_checksum_1 (by decide) ?_
    refine va_put (D := g.1) (ci := 8) (fs := fcM bM vM) (v := .int (0 : Int32)) (ty := .int) (C := RX8) (T := TX8) (N := 23) hx hb htu hinX8 tyX8 tyX8_ok nmX8 hown hK hP hD hS 0 rfl rfl 0 (by decide) k_5_72 (fun _ h9 => h9) rfl (by decide +kernel) rfl rfl (Nat.le_of_ble_eq_true rfl) dX8_checksum_2 (fun H locs hP hD hS => ?_)
    obtain ⟨vM_1, evM_1⟩ : ∃ z, z = sF vM 0 (0 : Int32) := ⟨_, rfl⟩
    have hf := bn_at hf evM_1
    have hP : va_P g.1 vwCl (cM g bM vM_1) H := by rw [evM_1]; exact hP
    have hD : va_D A (cM g bM vM_1) := by rw [evM_1]; exact hD
    refine lv_lconst (v := (0 : Int64)) hx hb dX8_checksum_5 (by decide) ?_
    refine lv_lstore_n (lv' := [(1, .long (0 : Int64)), (0, .ref (bM 0))]) hx hb dX8_checksum_6 rfl hl (by decide) rfl (fun ls hl => ?_)
    refine lv_iconst (v := (0 : Int32)) hx hb dX8_checksum_7 (by decide) ?_
    refine lv_istore_n (lv' := [(3, .int (0 : Int32)), (1, .long (0 : Int64)), (0, .ref (bM 0))]) hx hb dX8_checksum_8 rfl hl (by decide) rfl (fun ls hl => ?_)
    have hL6 : ∀ (x1_2 : Int64) (x3_3 : Int32) (vM_4 : Vs), lp f_X8_checksum_L9 (fun _ _ _ => none) FU x1_2 x3_3 vM_4 = some (r, vM1) → ∀ (H : Heap) (locs : List Loc), va_P g.1 vwCl (cM g bM vM_4) H → va_D A (cM g bM vM_4) → va_S A s.heap H locs → ∀ ls : Array Slot, lv_has ls 5 [(0, .ref (bM 0)), (1, .long x1_2), (3, .int x3_3)] → W p l e (headSpec wsX8_checksum rmX8_checksum).room s m ([.ref (bM 0)] : List Value).toArray below meth c H locs 0 0 (MQ below (qJ g A (cM g bM vM1) r) ([.ref (bM 0)] : List Value).toArray s 0 0 A) (F0 m 9 ls []) := by
      refine lp_ind (T := Int64 → Int32 → Vs → Option (Int64 × Vs)) (fun self5 => ∀ (x1_2 : Int64) (x3_3 : Int32) (vM_4 : Vs), self5 x1_2 x3_3 vM_4 = some (r, vM1) → ∀ (H : Heap) (locs : List Loc), va_P g.1 vwCl (cM g bM vM_4) H → va_D A (cM g bM vM_4) → va_S A s.heap H locs → ∀ ls : Array Slot, lv_has ls 5 [(0, .ref (bM 0)), (1, .long x1_2), (3, .int x3_3)] → W p l e (headSpec wsX8_checksum rmX8_checksum).room s m ([.ref (bM 0)] : List Value).toArray below meth c H locs 0 0 (MQ below (qJ g A (cM g bM vM1) r) ([.ref (bM 0)] : List Value).toArray s 0 0 A) (F0 m 9 ls [])) ?_ ?_ FU
      · intro x1_2 x3_3 vM_4 hf; cases hf
      · intro self5 ih7 x1_2 x3_3 vM_4 hf H locs hP hD hS ls hl
        unfold f_X8_checksum_L9 at hf
        refine lv_iload_n hx hb dX8_checksum_9 rfl (lv_at hl 2 rfl) ?_
        refine lv_bipush (v := (9 : Int32)) hx hb dX8_checksum_10 (by decide) ?_
        refine lv_icmp_ge (tgt := 32) hx hb dX8_checksum_12 (by decide) (fun c8 => ?_) (fun c8 => ?_)
        · have hf := it_t hf c8
          refine lv_iconst (v := (0 : Int32)) hx hb dX8_checksum_32 (by decide) ?_
          refine lv_istore_n (lv' := [(3, .int (0 : Int32)), (0, .ref (bM 0)), (1, .long x1_2)]) hx hb dX8_checksum_33 rfl hl (by decide) rfl (fun ls hl => ?_)
          have hL13 : ∀ (x1_9 : Int64) (x3_10 : Int32) (vM_11 : Vs), lp f_X8_checksum_L34 (fun _ _ _ => none) FU x1_9 x3_10 vM_11 = some (r, vM1) → ∀ (H : Heap) (locs : List Loc), va_P g.1 vwCl (cM g bM vM_11) H → va_D A (cM g bM vM_11) → va_S A s.heap H locs → ∀ ls : Array Slot, lv_has ls 5 [(0, .ref (bM 0)), (1, .long x1_9), (3, .int x3_10)] → W p l e (headSpec wsX8_checksum rmX8_checksum).room s m ([.ref (bM 0)] : List Value).toArray below meth c H locs 0 0 (MQ below (qJ g A (cM g bM vM1) r) ([.ref (bM 0)] : List Value).toArray s 0 0 A) (F0 m 34 ls []) := by
            refine lp_ind (T := Int64 → Int32 → Vs → Option (Int64 × Vs)) (fun self12 => ∀ (x1_9 : Int64) (x3_10 : Int32) (vM_11 : Vs), self12 x1_9 x3_10 vM_11 = some (r, vM1) → ∀ (H : Heap) (locs : List Loc), va_P g.1 vwCl (cM g bM vM_11) H → va_D A (cM g bM vM_11) → va_S A s.heap H locs → ∀ ls : Array Slot, lv_has ls 5 [(0, .ref (bM 0)), (1, .long x1_9), (3, .int x3_10)] → W p l e (headSpec wsX8_checksum rmX8_checksum).room s m ([.ref (bM 0)] : List Value).toArray below meth c H locs 0 0 (MQ below (qJ g A (cM g bM vM1) r) ([.ref (bM 0)] : List Value).toArray s 0 0 A) (F0 m 34 ls [])) ?_ ?_ FU
            · intro x1_9 x3_10 vM_11 hf; cases hf
            · intro self12 ih14 x1_9 x3_10 vM_11 hf H locs hP hD hS ls hl
              unfold f_X8_checksum_L34 at hf
              refine lv_iload_n hx hb dX8_checksum_34 rfl (lv_at hl 2 rfl) ?_
              refine lv_aload_n hx hb dX8_checksum_35 rfl (lv_at hl 0 rfl) ?_
              obtain ⟨r15, hg16, hf⟩ := o1_at hf
              refine k_viW ⟨hx, hb, hml, hown, htu⟩ hK hP hD hS hA hG (c_X8_wires l g bM vM_11 r15 hg16) (cwV 0 htu (gU_V mw_6_24 hcX8_wires) rfl rfl rfl hdX8_wires ⟨Nat.le_of_ble_eq_true rfl, Nat.le_of_ble_eq_true rfl⟩) (q0 := 0) (ci := 8) (fs := fcM bM vM_11) (q := (RX8, TX8, 23)) rfl rfl rfl (As := []) (rest := [.int x3_10]) rfl rfl hl.1 (Nat.le_of_ble_eq_true rfl) dX8_checksum_36 (k1 := 0) (n1 := 0) rfl rfl ⟨Nat.zero_le _, Nat.zero_le _⟩ (fun H locs hP hD hS => ?_)
              refine lv_icmp_ge (tgt := 108) hx hb dX8_checksum_39 (by decide) (fun c17 => ?_) (fun c17 => ?_)
              · have hf := it_t hf c17
                refine lv_iconst (v := (0 : Int32)) hx hb dX8_checksum_108 (by decide) ?_
                refine lv_istore_n (lv' := [(3, .int (0 : Int32)), (0, .ref (bM 0)), (1, .long x1_9)]) hx hb dX8_checksum_109 rfl hl (by decide) rfl (fun ls hl => ?_)
                have hL22 : ∀ (x1_18 : Int64) (x3_19 : Int32) (vM_20 : Vs), lp f_X8_checksum_L110 (fun _ _ _ => none) FU x1_18 x3_19 vM_20 = some (r, vM1) → ∀ (H : Heap) (locs : List Loc), va_P g.1 vwCl (cM g bM vM_20) H → va_D A (cM g bM vM_20) → va_S A s.heap H locs → ∀ ls : Array Slot, lv_has ls 5 [(0, .ref (bM 0)), (1, .long x1_18), (3, .int x3_19)] → W p l e (headSpec wsX8_checksum rmX8_checksum).room s m ([.ref (bM 0)] : List Value).toArray below meth c H locs 0 0 (MQ below (qJ g A (cM g bM vM1) r) ([.ref (bM 0)] : List Value).toArray s 0 0 A) (F0 m 110 ls []) := by
                  refine lp_ind (T := Int64 → Int32 → Vs → Option (Int64 × Vs)) (fun self21 => ∀ (x1_18 : Int64) (x3_19 : Int32) (vM_20 : Vs), self21 x1_18 x3_19 vM_20 = some (r, vM1) → ∀ (H : Heap) (locs : List Loc), va_P g.1 vwCl (cM g bM vM_20) H → va_D A (cM g bM vM_20) → va_S A s.heap H locs → ∀ ls : Array Slot, lv_has ls 5 [(0, .ref (bM 0)), (1, .long x1_18), (3, .int x3_19)] → W p l e (headSpec wsX8_checksum rmX8_checksum).room s m ([.ref (bM 0)] : List Value).toArray below meth c H locs 0 0 (MQ below (qJ g A (cM g bM vM1) r) ([.ref (bM 0)] : List Value).toArray s 0 0 A) (F0 m 110 ls [])) ?_ ?_ FU
                  · intro x1_18 x3_19 vM_20 hf; cases hf
                  · intro self21 ih23 x1_18 x3_19 vM_20 hf H locs hP hD hS ls hl
                    unfold f_X8_checksum_L110 at hf
                    refine lv_iload_n hx hb dX8_checksum_110 rfl (lv_at hl 2 rfl) ?_
                    refine lv_aload_n hx hb dX8_checksum_111 rfl (lv_at hl 0 rfl) ?_
                    obtain ⟨r24, hg25, hf⟩ := o1_at hf
                    refine k_viW ⟨hx, hb, hml, hown, htu⟩ hK hP hD hS hA hG (c_X8_tests l g bM vM_20 r24 hg25) (cwV 0 htu (gU_V mw_6_48 hcX8_tests) rfl rfl rfl hdX8_tests ⟨Nat.le_of_ble_eq_true rfl, Nat.le_of_ble_eq_true rfl⟩) (q0 := 0) (ci := 8) (fs := fcM bM vM_20) (q := (RX8, TX8, 23)) rfl rfl rfl (As := []) (rest := [.int x3_19]) rfl rfl hl.1 (Nat.le_of_ble_eq_true rfl) dX8_checksum_112 (k1 := 0) (n1 := 0) rfl rfl ⟨Nat.zero_le _, Nat.zero_le _⟩ (fun H locs hP hD hS => ?_)
                    refine lv_icmp_ge (tgt := 202) hx hb dX8_checksum_115 (by decide) (fun c26 => ?_) (fun c26 => ?_)
                    · have hf := it_t hf c26
                      refine lv_lload_n hx hb dX8_checksum_202 rfl (lv_at hl 1 rfl) ?_
                      refine lv_aload_n hx hb dX8_checksum_203 rfl (lv_at hl 0 rfl) ?_
                      obtain ⟨r27, vM_28, hg29, hf⟩ := o2_at hf
                      refine k_viW ⟨hx, hb, hml, hown, htu⟩ hK hP hD hS hA hG (c_X8_fitting l g bM vM_20 r27 vM_28 hg29) (cwV 0 htu (gU_V mw_7_1 hcX8_fitting) rfl rfl rfl hdX8_fitting ⟨Nat.le_of_ble_eq_true rfl, Nat.le_of_ble_eq_true rfl⟩) (q0 := 0) (ci := 8) (fs := fcM bM vM_20) (q := (RX8, TX8, 23)) rfl rfl rfl (As := []) (rest := [.long x1_18]) rfl rfl hl.1 (Nat.le_of_ble_eq_true rfl) dX8_checksum_204 (k1 := 0) (n1 := 0) rfl rfl ⟨Nat.zero_le _, Nat.zero_le _⟩ (fun H locs hP hD hS => ?_)
                      refine lv_i2l (v := (r27).toInt64) hx hb dX8_checksum_207 rfl ?_
                      obtain ⟨r30, hg31, hf⟩ := o1_at hf
                      refine k_sl0 ⟨hx, hb, hml, hown, htu⟩ hK hP hD hS hA hG (c_X8_joins l g x1_18 ((r27).toInt64) r30 hg31) (va_cwS 2 htu (gU_S mw_7_61 hcX8_joins) rfl rfl rfl hdX8_joins ⟨Nat.le_of_ble_eq_true rfl, Nat.le_of_ble_eq_true rfl⟩) (As := [.long x1_18, .long ((r27).toInt64)]) (rest := []) rfl rfl hl.1 (Nat.le_of_ble_eq_true rfl) dX8_checksum_208 (k1 := 0) (n1 := 0) rfl rfl ⟨Nat.zero_le _, Nat.zero_le _⟩ (fun H locs hP hD hS => ?_)
                      obtain ⟨e32, e33⟩ := kp_2 hf
                      rw [e33] at hP hD
                      exact k_lret hx hb hr hlocks hK hP hD hS e32 dX8_checksum_211
                    · have hf := it_f hf c26
                      refine lv_aload_n hx hb dX8_checksum_118 rfl (lv_at hl 0 rfl) ?_
                      refine lv_iload_n hx hb dX8_checksum_119 rfl (lv_at hl 2 rfl) ?_
                      obtain ⟨vM_34, hg35, hf⟩ := o1_at hf
                      refine k_vvW ⟨hx, hb, hml, hown, htu⟩ hK hP hD hS hA hG (c_X8_asksTest l g bM vM_20 x3_19 vM_34 hg35) (cwV 1 htu (gU_V mw_6_68 hcX8_asksTest) rfl rfl rfl hdX8_asksTest ⟨Nat.le_of_ble_eq_true rfl, Nat.le_of_ble_eq_true rfl⟩) (q0 := 0) (ci := 8) (fs := fcM bM vM_20) (q := (RX8, TX8, 23)) rfl rfl rfl (As := [.int x3_19]) (rest := []) rfl rfl hl.1 (Nat.le_of_ble_eq_true rfl) dX8_checksum_120 (k1 := 0) (n1 := 0) rfl rfl ⟨Nat.zero_le _, Nat.zero_le _⟩ (fun H locs hP hD hS => ?_)
                      refine lv_iconst (v := (0 : Int32)) hx hb dX8_checksum_123 (by decide) ?_
                      refine lv_istore (lv' := [(4, .int (0 : Int32)), (0, .ref (bM 0)), (1, .long x1_18), (3, .int x3_19)]) hx hb dX8_checksum_124 hl (by decide) rfl (fun ls hl => ?_)
                      have hL39 : ∀ (x1_36 : Int64) (x4_37 : Int32), lp (f_X8_checksum_L126 x3_19 self21 vM_34) (fun _ _ => none) FU x1_36 x4_37 = some (r, vM1) → ∀ (H : Heap) (locs : List Loc), va_P g.1 vwCl (cM g bM vM_34) H → va_D A (cM g bM vM_34) → va_S A s.heap H locs → ∀ ls : Array Slot, lv_has ls 5 [(0, .ref (bM 0)), (1, .long x1_36), (3, .int x3_19), (4, .int x4_37)] → W p l e (headSpec wsX8_checksum rmX8_checksum).room s m ([.ref (bM 0)] : List Value).toArray below meth c H locs 0 0 (MQ below (qJ g A (cM g bM vM1) r) ([.ref (bM 0)] : List Value).toArray s 0 0 A) (F0 m 126 ls []) := by
                        refine lp_ind (T := Int64 → Int32 → Option (Int64 × Vs)) (fun self38 => ∀ (x1_36 : Int64) (x4_37 : Int32), self38 x1_36 x4_37 = some (r, vM1) → ∀ (H : Heap) (locs : List Loc), va_P g.1 vwCl (cM g bM vM_34) H → va_D A (cM g bM vM_34) → va_S A s.heap H locs → ∀ ls : Array Slot, lv_has ls 5 [(0, .ref (bM 0)), (1, .long x1_36), (3, .int x3_19), (4, .int x4_37)] → W p l e (headSpec wsX8_checksum rmX8_checksum).room s m ([.ref (bM 0)] : List Value).toArray below meth c H locs 0 0 (MQ below (qJ g A (cM g bM vM1) r) ([.ref (bM 0)] : List Value).toArray s 0 0 A) (F0 m 126 ls [])) ?_ ?_ FU
                        · intro x1_36 x4_37 hf; cases hf
                        · intro self38 ih40 x1_36 x4_37 hf H locs hP hD hS ls hl
                          unfold f_X8_checksum_L126 at hf
                          refine lv_iload hx hb dX8_checksum_126 (lv_at hl 3 rfl) ?_
                          refine lv_aload_n hx hb dX8_checksum_128 rfl (lv_at hl 0 rfl) ?_
                          obtain ⟨r41, hg42, hf⟩ := o1_at hf
                          refine k_viW ⟨hx, hb, hml, hown, htu⟩ hK hP hD hS hA hG (c_X8_wires l g bM vM_34 r41 hg42) (cwV 0 htu (gU_V mw_6_24 hcX8_wires) rfl rfl rfl hdX8_wires ⟨Nat.le_of_ble_eq_true rfl, Nat.le_of_ble_eq_true rfl⟩) (q0 := 0) (ci := 8) (fs := fcM bM vM_34) (q := (RX8, TX8, 23)) rfl rfl rfl (As := []) (rest := [.int x4_37]) rfl rfl hl.1 (Nat.le_of_ble_eq_true rfl) dX8_checksum_129 (k1 := 0) (n1 := 0) rfl rfl ⟨Nat.zero_le _, Nat.zero_le _⟩ (fun H locs hP hD hS => ?_)
                          refine lv_icmp_ge (tgt := 154) hx hb dX8_checksum_132 (by decide) (fun c43 => ?_) (fun c43 => ?_)
                          · have hf := it_t hf c43
                            refine lv_iconst (v := (0 : Int32)) hx hb dX8_checksum_154 (by decide) ?_
                            refine lv_istore (lv' := [(4, .int (0 : Int32)), (0, .ref (bM 0)), (1, .long x1_36), (3, .int x3_19)]) hx hb dX8_checksum_155 hl (by decide) rfl (fun ls hl => ?_)
                            have hL47 : ∀ (x1_44 : Int64) (x4_45 : Int32), lp (f_X8_checksum_L157 x3_19 self21 vM_34) (fun _ _ => none) FU x1_44 x4_45 = some (r, vM1) → ∀ (H : Heap) (locs : List Loc), va_P g.1 vwCl (cM g bM vM_34) H → va_D A (cM g bM vM_34) → va_S A s.heap H locs → ∀ ls : Array Slot, lv_has ls 5 [(0, .ref (bM 0)), (1, .long x1_44), (3, .int x3_19), (4, .int x4_45)] → W p l e (headSpec wsX8_checksum rmX8_checksum).room s m ([.ref (bM 0)] : List Value).toArray below meth c H locs 0 0 (MQ below (qJ g A (cM g bM vM1) r) ([.ref (bM 0)] : List Value).toArray s 0 0 A) (F0 m 157 ls []) := by
                              refine lp_ind (T := Int64 → Int32 → Option (Int64 × Vs)) (fun self46 => ∀ (x1_44 : Int64) (x4_45 : Int32), self46 x1_44 x4_45 = some (r, vM1) → ∀ (H : Heap) (locs : List Loc), va_P g.1 vwCl (cM g bM vM_34) H → va_D A (cM g bM vM_34) → va_S A s.heap H locs → ∀ ls : Array Slot, lv_has ls 5 [(0, .ref (bM 0)), (1, .long x1_44), (3, .int x3_19), (4, .int x4_45)] → W p l e (headSpec wsX8_checksum rmX8_checksum).room s m ([.ref (bM 0)] : List Value).toArray below meth c H locs 0 0 (MQ below (qJ g A (cM g bM vM1) r) ([.ref (bM 0)] : List Value).toArray s 0 0 A) (F0 m 157 ls [])) ?_ ?_ FU
                              · intro x1_44 x4_45 hf; cases hf
                              · intro self46 ih48 x1_44 x4_45 hf H locs hP hD hS ls hl
                                unfold f_X8_checksum_L157 at hf
                                refine lv_iload hx hb dX8_checksum_157 (lv_at hl 3 rfl) ?_
                                refine lv_aload_n hx hb dX8_checksum_159 rfl (lv_at hl 0 rfl) ?_
                                obtain ⟨r49, hg50, hf⟩ := o1_at hf
                                refine k_viW ⟨hx, hb, hml, hown, htu⟩ hK hP hD hS hA hG (c_X8_outputs l g bM vM_34 r49 hg50) (cwV 0 htu (gU_V mw_6_40 hcX8_outputs) rfl rfl rfl hdX8_outputs ⟨Nat.le_of_ble_eq_true rfl, Nat.le_of_ble_eq_true rfl⟩) (q0 := 0) (ci := 8) (fs := fcM bM vM_34) (q := (RX8, TX8, 23)) rfl rfl rfl (As := []) (rest := [.int x4_45]) rfl rfl hl.1 (Nat.le_of_ble_eq_true rfl) dX8_checksum_160 (k1 := 0) (n1 := 0) rfl rfl ⟨Nat.zero_le _, Nat.zero_le _⟩ (fun H locs hP hD hS => ?_)
                                refine lv_icmp_ge (tgt := 185) hx hb dX8_checksum_163 (by decide) (fun c51 => ?_) (fun c51 => ?_)
                                · have hf := it_t hf c51
                                  refine lv_lload_n hx hb dX8_checksum_185 rfl (lv_at hl 1 rfl) ?_
                                  refine lv_aload_n hx hb dX8_checksum_186 rfl (lv_at hl 0 rfl) ?_
                                  refine lv_iload_n hx hb dX8_checksum_187 rfl (lv_at hl 2 rfl) ?_
                                  obtain ⟨r52, vM_53, hg54, hf⟩ := o2_at hf
                                  refine k_viW ⟨hx, hb, hml, hown, htu⟩ hK hP hD hS hA hG (c_X8_worthOf l g bM vM_34 x3_19 r52 vM_53 hg54) (cwV 1 htu (gU_V mw_6_166 hcX8_worthOf) rfl rfl rfl hdX8_worthOf ⟨Nat.le_of_ble_eq_true rfl, Nat.le_of_ble_eq_true rfl⟩) (q0 := 0) (ci := 8) (fs := fcM bM vM_34) (q := (RX8, TX8, 23)) rfl rfl rfl (As := [.int x3_19]) (rest := [.long x1_44]) rfl rfl hl.1 (Nat.le_of_ble_eq_true rfl) dX8_checksum_188 (k1 := 0) (n1 := 0) rfl rfl ⟨Nat.zero_le _, Nat.zero_le _⟩ (fun H locs hP hD hS => ?_)
                                  refine lv_i2l (v := (r52).toInt64) hx hb dX8_checksum_191 rfl ?_
                                  obtain ⟨r55, hg56, hf⟩ := o1_at hf
                                  refine k_sl0 ⟨hx, hb, hml, hown, htu⟩ hK hP hD hS hA hG (c_X8_joins l g x1_44 ((r52).toInt64) r55 hg56) (va_cwS 2 htu (gU_S mw_7_61 hcX8_joins) rfl rfl rfl hdX8_joins ⟨Nat.le_of_ble_eq_true rfl, Nat.le_of_ble_eq_true rfl⟩) (As := [.long x1_44, .long ((r52).toInt64)]) (rest := []) rfl rfl hl.1 (Nat.le_of_ble_eq_true rfl) dX8_checksum_192 (k1 := 0) (n1 := 0) rfl rfl ⟨Nat.zero_le _, Nat.zero_le _⟩ (fun H locs hP hD hS => ?_)
                                  refine lv_lstore_n (lv' := [(1, .long r55), (0, .ref (bM 0)), (3, .int x3_19), (4, .int x4_45)]) hx hb dX8_checksum_195 rfl hl (by decide) rfl (fun ls hl => ?_)
                                  refine lv_iinc (v := (x3_19 + (1 : Int32))) (lv' := [(3, .int (x3_19 + (1 : Int32))), (1, .long r55), (0, .ref (bM 0)), (4, .int x4_45)]) hx hb dX8_checksum_196 hl (k := 2) rfl rfl (by decide) rfl (fun ls hl => ?_)
                                  refine lv_goto (tgt := 110) hx hb dX8_checksum_199 (by decide) ?_
                                  exact ih23 r55 (x3_19 + (1 : Int32)) vM_53 hf H locs hP hD hS _ (lv_sub hl [2, 1, 0] rfl)
                                · have hf := it_f hf c51
                                  refine lv_lload_n hx hb dX8_checksum_166 rfl (lv_at hl 1 rfl) ?_
                                  refine lv_aload_n hx hb dX8_checksum_167 rfl (lv_at hl 0 rfl) ?_
                                  refine lv_iload_n hx hb dX8_checksum_168 rfl (lv_at hl 2 rfl) ?_
                                  refine lv_iload hx hb dX8_checksum_169 (lv_at hl 3 rfl) ?_
                                  obtain ⟨r57, hg58, hf⟩ := o1_at hf
                                  refine k_viW ⟨hx, hb, hml, hown, htu⟩ hK hP hD hS hA hG (c_X8_seenAt l g bM vM_34 x3_19 x4_45 r57 hg58) (cwV 2 htu (gU_V mw_6_56 hcX8_seenAt) rfl rfl rfl hdX8_seenAt ⟨Nat.le_of_ble_eq_true rfl, Nat.le_of_ble_eq_true rfl⟩) (q0 := 0) (ci := 8) (fs := fcM bM vM_34) (q := (RX8, TX8, 23)) rfl rfl rfl (As := [.int x3_19, .int x4_45]) (rest := [.long x1_44]) rfl rfl hl.1 (Nat.le_of_ble_eq_true rfl) dX8_checksum_171 (k1 := 0) (n1 := 0) rfl rfl ⟨Nat.zero_le _, Nat.zero_le _⟩ (fun H locs hP hD hS => ?_)
                                  refine lv_i2l (v := (r57).toInt64) hx hb dX8_checksum_174 rfl ?_
                                  obtain ⟨r59, hg60, hf⟩ := o1_at hf
                                  refine k_sl0 ⟨hx, hb, hml, hown, htu⟩ hK hP hD hS hA hG (c_X8_joins l g x1_44 ((r57).toInt64) r59 hg60) (va_cwS 2 htu (gU_S mw_7_61 hcX8_joins) rfl rfl rfl hdX8_joins ⟨Nat.le_of_ble_eq_true rfl, Nat.le_of_ble_eq_true rfl⟩) (As := [.long x1_44, .long ((r57).toInt64)]) (rest := []) rfl rfl hl.1 (Nat.le_of_ble_eq_true rfl) dX8_checksum_175 (k1 := 0) (n1 := 0) rfl rfl ⟨Nat.zero_le _, Nat.zero_le _⟩ (fun H locs hP hD hS => ?_)
                                  refine lv_lstore_n (lv' := [(1, .long r59), (0, .ref (bM 0)), (3, .int x3_19), (4, .int x4_45)]) hx hb dX8_checksum_178 rfl hl (by decide) rfl (fun ls hl => ?_)
                                  refine lv_iinc (v := (x4_45 + (1 : Int32))) (lv' := [(4, .int (x4_45 + (1 : Int32))), (1, .long r59), (0, .ref (bM 0)), (3, .int x3_19)]) hx hb dX8_checksum_179 hl (k := 3) rfl rfl (by decide) rfl (fun ls hl => ?_)
                                  refine lv_goto (tgt := 157) hx hb dX8_checksum_182 (by decide) ?_
                                  exact ih48 r59 (x4_45 + (1 : Int32)) hf H locs hP hD hS _ (lv_sub hl [2, 1, 3, 0] rfl)
                            exact hL47 x1_36 (0 : Int32) hf H locs hP hD hS _ (lv_sub hl [1, 2, 3, 0] rfl)
                          · have hf := it_f hf c43
                            refine lv_lload_n hx hb dX8_checksum_135 rfl (lv_at hl 1 rfl) ?_
                            refine lv_aload_n hx hb dX8_checksum_136 rfl (lv_at hl 0 rfl) ?_
                            refine va_get (D := g.1) (ci := 8) (fs := fcM bM vM_34) (v := .ref (bM 8)) (C := RX8) (T := TX8) (N := 23) hx hb htu hinX8 hown hK hP 0 rfl rfl 7 (by decide) k_5_79 (fun _ h9 => h9) rfl dX8_checksum_137 ?_
                            refine lv_iload hx hb dX8_checksum_140 (lv_at hl 3 rfl) ?_
                            obtain ⟨h61, hf⟩ := gd_in hf
                            refine va_iald (D := g.1) (f := (vM_34.2.1 7)) hx hb hK hP 5 0 rfl rfl h61 dX8_checksum_142 ?_
                            refine lv_i2l (v := ((vM_34.2.1 7 (x4_37).toNatClampNeg)).toInt64) hx hb dX8_checksum_143 rfl ?_
                            obtain ⟨r62, hg63, hf⟩ := o1_at hf
                            refine k_sl0 ⟨hx, hb, hml, hown, htu⟩ hK hP hD hS hA hG (c_X8_joins l g x1_36 (((vM_34.2.1 7 (x4_37).toNatClampNeg)).toInt64) r62 hg63) (va_cwS 2 htu (gU_S mw_7_61 hcX8_joins) rfl rfl rfl hdX8_joins ⟨Nat.le_of_ble_eq_true rfl, Nat.le_of_ble_eq_true rfl⟩) (As := [.long x1_36, .long (((vM_34.2.1 7 (x4_37).toNatClampNeg)).toInt64)]) (rest := []) rfl rfl hl.1 (Nat.le_of_ble_eq_true rfl) dX8_checksum_144 (k1 := 0) (n1 := 0) rfl rfl ⟨Nat.zero_le _, Nat.zero_le _⟩ (fun H locs hP hD hS => ?_)
                            refine lv_lstore_n (lv' := [(1, .long r62), (0, .ref (bM 0)), (3, .int x3_19), (4, .int x4_37)]) hx hb dX8_checksum_147 rfl hl (by decide) rfl (fun ls hl => ?_)
                            refine lv_iinc (v := (x4_37 + (1 : Int32))) (lv' := [(4, .int (x4_37 + (1 : Int32))), (1, .long r62), (0, .ref (bM 0)), (3, .int x3_19)]) hx hb dX8_checksum_148 hl (k := 3) rfl rfl (by decide) rfl (fun ls hl => ?_)
                            refine lv_goto (tgt := 126) hx hb dX8_checksum_151 (by decide) ?_
                            exact ih40 r62 (x4_37 + (1 : Int32)) hf H locs hP hD hS _ (lv_sub hl [2, 1, 3, 0] rfl)
                      exact hL39 x1_18 (0 : Int32) hf H locs hP hD hS _ (lv_sub hl [1, 2, 3, 0] rfl)
                exact hL22 x1_9 (0 : Int32) vM_11 hf H locs hP hD hS _ (lv_sub hl [1, 2, 0] rfl)
              · have hf := it_f hf c17
                refine lv_iconst (v := (0 : Int32)) hx hb dX8_checksum_42 (by decide) ?_
                refine lv_istore (lv' := [(4, .int (0 : Int32)), (0, .ref (bM 0)), (1, .long x1_9), (3, .int x3_10)]) hx hb dX8_checksum_43 hl (by decide) rfl (fun ls hl => ?_)
                have hL68 : ∀ (x1_64 : Int64) (x4_65 : Int32) (vM_66 : Vs), lp (f_X8_checksum_L45 x3_10 self12) (fun _ _ _ => none) FU x1_64 x4_65 vM_66 = some (r, vM1) → ∀ (H : Heap) (locs : List Loc), va_P g.1 vwCl (cM g bM vM_66) H → va_D A (cM g bM vM_66) → va_S A s.heap H locs → ∀ ls : Array Slot, lv_has ls 5 [(0, .ref (bM 0)), (1, .long x1_64), (3, .int x3_10), (4, .int x4_65)] → W p l e (headSpec wsX8_checksum rmX8_checksum).room s m ([.ref (bM 0)] : List Value).toArray below meth c H locs 0 0 (MQ below (qJ g A (cM g bM vM1) r) ([.ref (bM 0)] : List Value).toArray s 0 0 A) (F0 m 45 ls []) := by
                  refine lp_ind (T := Int64 → Int32 → Vs → Option (Int64 × Vs)) (fun self67 => ∀ (x1_64 : Int64) (x4_65 : Int32) (vM_66 : Vs), self67 x1_64 x4_65 vM_66 = some (r, vM1) → ∀ (H : Heap) (locs : List Loc), va_P g.1 vwCl (cM g bM vM_66) H → va_D A (cM g bM vM_66) → va_S A s.heap H locs → ∀ ls : Array Slot, lv_has ls 5 [(0, .ref (bM 0)), (1, .long x1_64), (3, .int x3_10), (4, .int x4_65)] → W p l e (headSpec wsX8_checksum rmX8_checksum).room s m ([.ref (bM 0)] : List Value).toArray below meth c H locs 0 0 (MQ below (qJ g A (cM g bM vM1) r) ([.ref (bM 0)] : List Value).toArray s 0 0 A) (F0 m 45 ls [])) ?_ ?_ FU
                  · intro x1_64 x4_65 vM_66 hf; cases hf
                  · intro self67 ih69 x1_64 x4_65 vM_66 hf H locs hP hD hS ls hl
                    unfold f_X8_checksum_L45 at hf
                    refine lv_iload hx hb dX8_checksum_45 (lv_at hl 3 rfl) ?_
                    refine lv_iconst (v := (5 : Int32)) hx hb dX8_checksum_47 (by decide) ?_
                    refine lv_icmp_ge (tgt := 70) hx hb dX8_checksum_48 (by decide) (fun c70 => ?_) (fun c70 => ?_)
                    · have hf := it_t hf c70
                      refine lv_iconst (v := (0 : Int32)) hx hb dX8_checksum_70 (by decide) ?_
                      refine lv_istore (lv' := [(4, .int (0 : Int32)), (0, .ref (bM 0)), (1, .long x1_64), (3, .int x3_10)]) hx hb dX8_checksum_71 hl (by decide) rfl (fun ls hl => ?_)
                      have hL74 : ∀ (x1_71 : Int64) (x4_72 : Int32), lp (f_X8_checksum_L73 x3_10 self12 vM_66) (fun _ _ => none) FU x1_71 x4_72 = some (r, vM1) → ∀ (H : Heap) (locs : List Loc), va_P g.1 vwCl (cM g bM vM_66) H → va_D A (cM g bM vM_66) → va_S A s.heap H locs → ∀ ls : Array Slot, lv_has ls 5 [(0, .ref (bM 0)), (1, .long x1_71), (3, .int x3_10), (4, .int x4_72)] → W p l e (headSpec wsX8_checksum rmX8_checksum).room s m ([.ref (bM 0)] : List Value).toArray below meth c H locs 0 0 (MQ below (qJ g A (cM g bM vM1) r) ([.ref (bM 0)] : List Value).toArray s 0 0 A) (F0 m 73 ls []) := by
                        refine lp_ind (T := Int64 → Int32 → Option (Int64 × Vs)) (fun self73 => ∀ (x1_71 : Int64) (x4_72 : Int32), self73 x1_71 x4_72 = some (r, vM1) → ∀ (H : Heap) (locs : List Loc), va_P g.1 vwCl (cM g bM vM_66) H → va_D A (cM g bM vM_66) → va_S A s.heap H locs → ∀ ls : Array Slot, lv_has ls 5 [(0, .ref (bM 0)), (1, .long x1_71), (3, .int x3_10), (4, .int x4_72)] → W p l e (headSpec wsX8_checksum rmX8_checksum).room s m ([.ref (bM 0)] : List Value).toArray below meth c H locs 0 0 (MQ below (qJ g A (cM g bM vM1) r) ([.ref (bM 0)] : List Value).toArray s 0 0 A) (F0 m 73 ls [])) ?_ ?_ FU
                        · intro x1_71 x4_72 hf; cases hf
                        · intro self73 ih75 x1_71 x4_72 hf H locs hP hD hS ls hl
                          unfold f_X8_checksum_L73 at hf
                          refine lv_iload hx hb dX8_checksum_73 (lv_at hl 3 rfl) ?_
                          refine lv_aload_n hx hb dX8_checksum_75 rfl (lv_at hl 0 rfl) ?_
                          refine lv_iload_n hx hb dX8_checksum_76 rfl (lv_at hl 2 rfl) ?_
                          obtain ⟨r76, hg77, hf⟩ := o1_at hf
                          refine k_viW ⟨hx, hb, hml, hown, htu⟩ hK hP hD hS hA hG (c_X8_have l g bM vM_66 x3_10 r76 hg77) (cwV 1 htu (gU_V mw_6_91 hcX8_have) rfl rfl rfl hdX8_have ⟨Nat.le_of_ble_eq_true rfl, Nat.le_of_ble_eq_true rfl⟩) (q0 := 0) (ci := 8) (fs := fcM bM vM_66) (q := (RX8, TX8, 23)) rfl rfl rfl (As := [.int x3_10]) (rest := [.int x4_72]) rfl rfl hl.1 (Nat.le_of_ble_eq_true rfl) dX8_checksum_77 (k1 := 0) (n1 := 0) rfl rfl ⟨Nat.zero_le _, Nat.zero_le _⟩ (fun H locs hP hD hS => ?_)
                          refine lv_icmp_ge (tgt := 102) hx hb dX8_checksum_80 (by decide) (fun c78 => ?_) (fun c78 => ?_)
                          · have hf := it_t hf c78
                            refine lv_iinc (v := (x3_10 + (1 : Int32))) (lv' := [(3, .int (x3_10 + (1 : Int32))), (0, .ref (bM 0)), (1, .long x1_71), (4, .int x4_72)]) hx hb dX8_checksum_102 hl (k := 2) rfl rfl (by decide) rfl (fun ls hl => ?_)
                            refine lv_goto (tgt := 34) hx hb dX8_checksum_105 (by decide) ?_
                            exact ih14 x1_71 (x3_10 + (1 : Int32)) vM_66 hf H locs hP hD hS _ (lv_sub hl [1, 2, 0] rfl)
                          · have hf := it_f hf c78
                            refine lv_lload_n hx hb dX8_checksum_83 rfl (lv_at hl 1 rfl) ?_
                            refine lv_aload_n hx hb dX8_checksum_84 rfl (lv_at hl 0 rfl) ?_
                            refine lv_iload_n hx hb dX8_checksum_85 rfl (lv_at hl 2 rfl) ?_
                            refine lv_iload hx hb dX8_checksum_86 (lv_at hl 3 rfl) ?_
                            obtain ⟨r79, hg80, hf⟩ := o1_at hf
                            refine k_viW ⟨hx, hb, hml, hown, htu⟩ hK hP hD hS hA hG (c_X8_operandOf l g bM vM_66 x3_10 x4_72 r79 hg80) (cwV 2 htu (gU_V mw_6_84 hcX8_operandOf) rfl rfl rfl hdX8_operandOf ⟨Nat.le_of_ble_eq_true rfl, Nat.le_of_ble_eq_true rfl⟩) (q0 := 0) (ci := 8) (fs := fcM bM vM_66) (q := (RX8, TX8, 23)) rfl rfl rfl (As := [.int x3_10, .int x4_72]) (rest := [.long x1_71]) rfl rfl hl.1 (Nat.le_of_ble_eq_true rfl) dX8_checksum_88 (k1 := 0) (n1 := 0) rfl rfl ⟨Nat.zero_le _, Nat.zero_le _⟩ (fun H locs hP hD hS => ?_)
                            refine lv_i2l (v := (r79).toInt64) hx hb dX8_checksum_91 rfl ?_
                            obtain ⟨r81, hg82, hf⟩ := o1_at hf
                            refine k_sl0 ⟨hx, hb, hml, hown, htu⟩ hK hP hD hS hA hG (c_X8_joins l g x1_71 ((r79).toInt64) r81 hg82) (va_cwS 2 htu (gU_S mw_7_61 hcX8_joins) rfl rfl rfl hdX8_joins ⟨Nat.le_of_ble_eq_true rfl, Nat.le_of_ble_eq_true rfl⟩) (As := [.long x1_71, .long ((r79).toInt64)]) (rest := []) rfl rfl hl.1 (Nat.le_of_ble_eq_true rfl) dX8_checksum_92 (k1 := 0) (n1 := 0) rfl rfl ⟨Nat.zero_le _, Nat.zero_le _⟩ (fun H locs hP hD hS => ?_)
                            refine lv_lstore_n (lv' := [(1, .long r81), (0, .ref (bM 0)), (3, .int x3_10), (4, .int x4_72)]) hx hb dX8_checksum_95 rfl hl (by decide) rfl (fun ls hl => ?_)
                            refine lv_iinc (v := (x4_72 + (1 : Int32))) (lv' := [(4, .int (x4_72 + (1 : Int32))), (1, .long r81), (0, .ref (bM 0)), (3, .int x3_10)]) hx hb dX8_checksum_96 hl (k := 3) rfl rfl (by decide) rfl (fun ls hl => ?_)
                            refine lv_goto (tgt := 73) hx hb dX8_checksum_99 (by decide) ?_
                            exact ih75 r81 (x4_72 + (1 : Int32)) hf H locs hP hD hS _ (lv_sub hl [2, 1, 3, 0] rfl)
                      exact hL74 x1_64 (0 : Int32) hf H locs hP hD hS _ (lv_sub hl [1, 2, 3, 0] rfl)
                    · have hf := it_f hf c70
                      refine lv_lload_n hx hb dX8_checksum_51 rfl (lv_at hl 1 rfl) ?_
                      refine lv_aload_n hx hb dX8_checksum_52 rfl (lv_at hl 0 rfl) ?_
                      refine lv_iload_n hx hb dX8_checksum_53 rfl (lv_at hl 2 rfl) ?_
                      refine lv_iload hx hb dX8_checksum_54 (lv_at hl 3 rfl) ?_
                      obtain ⟨r83, vM_84, hg85, hf⟩ := o2_at hf
                      refine k_viW ⟨hx, hb, hml, hown, htu⟩ hK hP hD hS hA hG (c_X8_ofWire l g bM vM_66 x3_10 x4_65 r83 vM_84 hg85) (cwV 2 htu (gU_V mw_6_122 hcX8_ofWire) rfl rfl rfl hdX8_ofWire ⟨Nat.le_of_ble_eq_true rfl, Nat.le_of_ble_eq_true rfl⟩) (q0 := 0) (ci := 8) (fs := fcM bM vM_66) (q := (RX8, TX8, 23)) rfl rfl rfl (As := [.int x3_10, .int x4_65]) (rest := [.long x1_64]) rfl rfl hl.1 (Nat.le_of_ble_eq_true rfl) dX8_checksum_56 (k1 := 0) (n1 := 0) rfl rfl ⟨Nat.zero_le _, Nat.zero_le _⟩ (fun H locs hP hD hS => ?_)
                      refine lv_i2l (v := (r83).toInt64) hx hb dX8_checksum_59 rfl ?_
                      obtain ⟨r86, hg87, hf⟩ := o1_at hf
                      refine k_sl0 ⟨hx, hb, hml, hown, htu⟩ hK hP hD hS hA hG (c_X8_joins l g x1_64 ((r83).toInt64) r86 hg87) (va_cwS 2 htu (gU_S mw_7_61 hcX8_joins) rfl rfl rfl hdX8_joins ⟨Nat.le_of_ble_eq_true rfl, Nat.le_of_ble_eq_true rfl⟩) (As := [.long x1_64, .long ((r83).toInt64)]) (rest := []) rfl rfl hl.1 (Nat.le_of_ble_eq_true rfl) dX8_checksum_60 (k1 := 0) (n1 := 0) rfl rfl ⟨Nat.zero_le _, Nat.zero_le _⟩ (fun H locs hP hD hS => ?_)
                      refine lv_lstore_n (lv' := [(1, .long r86), (0, .ref (bM 0)), (3, .int x3_10), (4, .int x4_65)]) hx hb dX8_checksum_63 rfl hl (by decide) rfl (fun ls hl => ?_)
                      refine lv_iinc (v := (x4_65 + (1 : Int32))) (lv' := [(4, .int (x4_65 + (1 : Int32))), (1, .long r86), (0, .ref (bM 0)), (3, .int x3_10)]) hx hb dX8_checksum_64 hl (k := 3) rfl rfl (by decide) rfl (fun ls hl => ?_)
                      refine lv_goto (tgt := 45) hx hb dX8_checksum_67 (by decide) ?_
                      exact ih69 r86 (x4_65 + (1 : Int32)) vM_84 hf H locs hP hD hS _ (lv_sub hl [2, 1, 3, 0] rfl)
                exact hL68 x1_9 (0 : Int32) vM_11 hf H locs hP hD hS _ (lv_sub hl [1, 2, 3, 0] rfl)
          exact hL13 x1_2 (0 : Int32) vM_4 hf H locs hP hD hS _ (lv_sub hl [1, 2, 0] rfl)
        · have hf := it_f hf c8
          refine lv_lload_n hx hb dX8_checksum_15 rfl (lv_at hl 1 rfl) ?_
          refine lv_aload_n hx hb dX8_checksum_16 rfl (lv_at hl 0 rfl) ?_
          refine lv_iload_n hx hb dX8_checksum_17 rfl (lv_at hl 2 rfl) ?_
          obtain ⟨r88, vM_89, hg90, hf⟩ := o2_at hf
          refine k_viW ⟨hx, hb, hml, hown, htu⟩ hK hP hD hS hA hG (c_X8_told l g bM vM_4 x3_3 r88 vM_89 hg90) (cwV 1 htu (gU_V mw_6_32 hcX8_told) rfl rfl rfl hdX8_told ⟨Nat.le_of_ble_eq_true rfl, Nat.le_of_ble_eq_true rfl⟩) (q0 := 0) (ci := 8) (fs := fcM bM vM_4) (q := (RX8, TX8, 23)) rfl rfl rfl (As := [.int x3_3]) (rest := [.long x1_2]) rfl rfl hl.1 (Nat.le_of_ble_eq_true rfl) dX8_checksum_18 (k1 := 0) (n1 := 0) rfl rfl ⟨Nat.zero_le _, Nat.zero_le _⟩ (fun H locs hP hD hS => ?_)
          refine lv_i2l (v := (r88).toInt64) hx hb dX8_checksum_21 rfl ?_
          obtain ⟨r91, hg92, hf⟩ := o1_at hf
          refine k_sl0 ⟨hx, hb, hml, hown, htu⟩ hK hP hD hS hA hG (c_X8_joins l g x1_2 ((r88).toInt64) r91 hg92) (va_cwS 2 htu (gU_S mw_7_61 hcX8_joins) rfl rfl rfl hdX8_joins ⟨Nat.le_of_ble_eq_true rfl, Nat.le_of_ble_eq_true rfl⟩) (As := [.long x1_2, .long ((r88).toInt64)]) (rest := []) rfl rfl hl.1 (Nat.le_of_ble_eq_true rfl) dX8_checksum_22 (k1 := 0) (n1 := 0) rfl rfl ⟨Nat.zero_le _, Nat.zero_le _⟩ (fun H locs hP hD hS => ?_)
          refine lv_lstore_n (lv' := [(1, .long r91), (0, .ref (bM 0)), (3, .int x3_3)]) hx hb dX8_checksum_25 rfl hl (by decide) rfl (fun ls hl => ?_)
          refine lv_iinc (v := (x3_3 + (1 : Int32))) (lv' := [(3, .int (x3_3 + (1 : Int32))), (1, .long r91), (0, .ref (bM 0))]) hx hb dX8_checksum_26 hl (k := 2) rfl rfl (by decide) rfl (fun ls hl => ?_)
          refine lv_goto (tgt := 9) hx hb dX8_checksum_29 (by decide) ?_
          exact ih7 r91 (x3_3 + (1 : Int32)) vM_89 hf H locs hP hD hS _ (lv_sub hl [2, 1, 0] rfl)
    exact hL6 (0 : Int64) (0 : Int32) vM_1 hf H locs hP hD hS _ (lv_sub hl [2, 1, 0] rfl)
  rw [hH, hlo] at hW
  exact hW
