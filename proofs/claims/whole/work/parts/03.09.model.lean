def f_X8_readsAll_L68 (self19 : Vs → Option (Int32 × Vs)) (vM_18 : Vs) : Option (Int32 × Vs) :=
  o2 (f_X8_here vM_18) (fun (r22 : Int32) (vM_23 : Vs) => if r22 = (-1 : Int32) then gd (isB (1 : Int32)) (some ((1 : Int32), vM_23)) else o2 (f_X8_readsLine vM_23) (fun (r29 : Int32) (vM_30 : Vs) => if r29 = 0 then gd (isB (0 : Int32)) (some ((0 : Int32), vM_30)) else self19 vM_30))
def f_X8_readsAll (vM : Vs) : Option (Int32 × Vs) :=
  o1 (f_X8_plain vM) (fun (vM_1 : Vs) => o2 (f_X8_takes vM_1 4) (fun (r3 : Int32) (vM_4 : Vs) => if r3 = 0 then o2 (f_X8_fails vM_4 (-2 : Int32) (vM_4.1 14)) (fun (r43 : Int32) (vM_44 : Vs) => gd (isB r43) (some (r43, vM_44))) else o2 (f_X8_reads vM_4 (1 : Int32) (8 : Int32)) (fun (r7 : Int32) (vM_8 : Vs) => if r7 = 0 then gd (isB (0 : Int32)) (some ((0 : Int32), vM_8)) else gd (inb (0 : Int32) 440) (bn (sI vM_8 2 ((0 : Int32)).toNatClampNeg (vM_8.1 17)) (fun (vM_12 : Vs) => gd (inb (1 : Int32) 440) (bn (sI vM_12 2 ((1 : Int32)).toNatClampNeg (vM_12.1 17)) (fun (vM_14 : Vs) => o2 (f_X8_sign vM_14 (59 : Int32)) (fun (r15 : Int32) (vM_16 : Vs) => if r15 = 0 then gd (isB (0 : Int32)) (some ((0 : Int32), vM_16)) else lp f_X8_readsAll_L68 (fun _ => none) FU vM_16))))))))
abbrev wsX8_readsAll : List Cond := .code yX8_readsAll cX8_readsAll 1 (some .boolean) :: UW
abbrev rmX8_readsAll : Room := { frames := 8, cells := 0, slots := 0, locals := 174 }
set_option maxHeartbeats 4000000 in
set_option maxRecDepth 100000 in
theorem c_X8_readsAll (l : Launch) (g : Gx) (bM : Nat → Nat) (vM : Vs) (r : Int32) (vM1 : Vs) (hf : f_X8_readsAll vM = some (r, vM1)) : CtI l yX8_readsAll wsX8_readsAll rmX8_readsAll g [.ref (bM 0)] (cM g bM vM) (cM g bM vM1) r 0 0 := by
  unfold CtI
  intro sz
  refine Met.ofW (cc := cX8_readsAll) (maxL := 1) (ret := (some .boolean)) (by decide) rfl ?_
  intro p e s m args below meth c s₁ B hml hv
  obtain ⟨rfl, hsz, hP, hK, hD0, hG⟩ := hv
  have hx := B.exec
  have hb := B.bytes
  have hr := B.returns
  have hts := atoms_spec (ws := wsX8_readsAll) B.pre
  have hown : s.vm.findClass RX8 = some m.cls := findClass_of_methodNamed B.named
  have hlocks := B.notSynchronized
  subst hsz
  have hD := hD0.self (sz := s.heap.size)
  generalize hAe : va_A (cM g bM vM) s.heap.size = A at hD hG ⊢
  have hA : ∀ q : Nat, s.heap.size ≤ q → A q := fun q h => by rw [← hAe]; exact Or.inr h
  clear hAe hD0
  have hS : va_S A s.heap s.heap [] := va_S.rf
  have hl := lv_entry ([.ref (bM 0)]) (n := 1) (Nat.le_of_ble_eq_true rfl)
  rw [lg_entry_eq]
  generalize (lg_sl ([.ref (bM 0)]) ++ List.replicate (1 - (lg_sl ([.ref (bM 0)])).length) Slot.unset).toArray = ls at hl ⊢
  have hl : lv_has ls 1 [(0, .ref (bM 0))] := hl
  have htu : ∀ w ∈ UW, w.before _ s = true := fun w h => hts w (List.mem_cons_of_mem _ h)
  have k_5_74 := htu _ mw_5_74
  have k_5_89 := htu _ mw_5_89
  have k_5_86 := htu _ mw_5_86
  unfold f_X8_readsAll at hf
  obtain ⟨H, hH⟩ : ∃ z, z = s.heap := ⟨_, rfl⟩
  obtain ⟨locs, hlo⟩ : ∃ z : List Loc, z = [] := ⟨_, rfl⟩
  have hS : va_S A s.heap H locs := by rw [hH, hlo]; exact hS
  rw [← hH] at hP
  have hW : W p l e (headSpec wsX8_readsAll rmX8_readsAll).room s m ([.ref (bM 0)] : List Value).toArray below meth c H locs 0 0 (MQ below (qI g A (cM g bM vM1) r) ([.ref (bM 0)] : List Value).toArray s 0 0 A) (F0 m 0 ls []) := by
    refine lv_aload_n hx hb dX8_readsAll_0 rfl (lv_at hl 0 rfl) ?_
    obtain ⟨vM_1, hg2, hf⟩ := o1_at hf
    refine k_vvW ⟨hx, hb, hml, hown, htu⟩ hK hP hD hS hA hG (c_X8_plain l g bM vM vM_1 hg2) (cwV 0 htu (gU_V mw_5_64 hcX8_plain) rfl rfl rfl hdX8_plain ⟨Nat.le_of_ble_eq_true rfl, Nat.le_of_ble_eq_true rfl⟩) (q0 := 0) (ci := 8) (fs := fcM bM vM) (q := (RX8, TX8, 23)) rfl rfl rfl (As := []) (rest := []) rfl rfl hl.1 (Nat.le_of_ble_eq_true rfl) dX8_readsAll_1 (k1 := 0) (n1 := 0) rfl rfl ⟨Nat.zero_le _, Nat.zero_le _⟩ (fun H locs hP hD hS => ?_)
    refine lv_aload_n hx hb dX8_readsAll_4 rfl (lv_at hl 0 rfl) ?_
    refine k_ldcSw hx hb hown (tx := "circuit") (q := adK g 4) (hG.1.1 ("FaultTestsModel", 256, "circuit", 4) (List.mem_of_getElem? (i := 42) rfl)) dX8_readsAll_5 ?_
    obtain ⟨r3, vM_4, hg5, hf⟩ := o2_at hf
    refine k_viW ⟨hx, hb, hml, hown, htu⟩ hK hP hD hS hA hG (c_X8_takes l g bM vM_1 4 (by decide) r3 vM_4 hg5) (cwV 1 htu (gU_V mw_5_175 hcX8_takes) rfl rfl rfl hdX8_takes ⟨Nat.le_of_ble_eq_true rfl, Nat.le_of_ble_eq_true rfl⟩) (q0 := 0) (ci := 8) (fs := fcM bM vM_1) (q := (RX8, TX8, 23)) rfl rfl rfl (As := [.ref (adK g 4)]) (rest := []) rfl rfl hl.1 (Nat.le_of_ble_eq_true rfl) dX8_readsAll_8 (k1 := 0) (n1 := 0) rfl rfl ⟨Nat.zero_le _, Nat.zero_le _⟩ (fun H locs hP hD hS => ?_)
    refine lv_if_ne (tgt := 25) hx hb dX8_readsAll_11 (by decide) (fun c6 => ?_) (fun c6 => ?_)
    · have hf := it_f hf c6
      refine lv_aload_n hx hb dX8_readsAll_25 rfl (lv_at hl 0 rfl) ?_
      refine lv_iconst (v := (1 : Int32)) hx hb dX8_readsAll_26 (by decide) ?_
      refine lv_bipush (v := (8 : Int32)) hx hb dX8_readsAll_27 (by decide) ?_
      obtain ⟨r7, vM_8, hg9, hf⟩ := o2_at hf
      refine k_viW ⟨hx, hb, hml, hown, htu⟩ hK hP hD hS hA hG (c_X8_reads l g bM vM_4 (1 : Int32) (8 : Int32) r7 vM_8 hg9) (cwV 2 htu (gU_V mw_5_192 hcX8_reads) rfl rfl rfl hdX8_reads ⟨Nat.le_of_ble_eq_true rfl, Nat.le_of_ble_eq_true rfl⟩) (q0 := 0) (ci := 8) (fs := fcM bM vM_4) (q := (RX8, TX8, 23)) rfl rfl rfl (As := [.int (1 : Int32), .int (8 : Int32)]) (rest := []) rfl rfl hl.1 (Nat.le_of_ble_eq_true rfl) dX8_readsAll_29 (k1 := 0) (n1 := 0) rfl rfl ⟨Nat.zero_le _, Nat.zero_le _⟩ (fun H locs hP hD hS => ?_)
      refine lv_if_ne (tgt := 37) hx hb dX8_readsAll_32 (by decide) (fun c10 => ?_) (fun c10 => ?_)
      · have hf := it_f hf c10
        refine lv_aload_n hx hb dX8_readsAll_37 rfl (lv_at hl 0 rfl) ?_
        refine va_get (D := g.1) (ci := 8) (fs := fcM bM vM_8) (v := .ref (bM 3)) (C := RX8) (T := TX8) (N := 23) hx hb htu hinX8 hown hK hP 0 rfl rfl 2 (by decide) k_5_74 (fun _ h9 => h9) rfl dX8_readsAll_38 ?_
        refine lv_iconst (v := (0 : Int32)) hx hb dX8_readsAll_41 (by decide) ?_
        refine lv_aload_n hx hb dX8_readsAll_42 rfl (lv_at hl 0 rfl) ?_
        refine va_get (D := g.1) (ci := 8) (fs := fcM bM vM_8) (v := .int (vM_8.1 17)) (C := RX8) (T := TX8) (N := 23) hx hb htu hinX8 hown hK hP 0 rfl rfl 17 (by decide) k_5_89 (fun _ h9 => h9) rfl dX8_readsAll_43 ?_
        obtain ⟨h11, hf⟩ := gd_in hf
        refine va_iast (D := g.1) (f := (vM_8.2.1 2)) hx hb hK hP hD hS 2 0 rfl rfl h11 dX8_readsAll_46 (fun H locs hP hD hS => ?_)
        obtain ⟨vM_12, evM_12⟩ : ∃ z, z = sI vM_8 2 ((0 : Int32)).toNatClampNeg (vM_8.1 17) := ⟨_, rfl⟩
        have hf := bn_at hf evM_12
        have hP : va_P g.1 vwCl (cM g bM vM_12) H := by rw [evM_12]; exact hP
        have hD : va_D A (cM g bM vM_12) := by rw [evM_12]; exact hD
        refine lv_aload_n hx hb dX8_readsAll_47 rfl (lv_at hl 0 rfl) ?_
        refine va_get (D := g.1) (ci := 8) (fs := fcM bM vM_12) (v := .ref (bM 3)) (C := RX8) (T := TX8) (N := 23) hx hb htu hinX8 hown hK hP 0 rfl rfl 2 (by decide) k_5_74 (fun _ h9 => h9) rfl dX8_readsAll_48 ?_
        refine lv_iconst (v := (1 : Int32)) hx hb dX8_readsAll_51 (by decide) ?_
        refine lv_aload_n hx hb dX8_readsAll_52 rfl (lv_at hl 0 rfl) ?_
        refine va_get (D := g.1) (ci := 8) (fs := fcM bM vM_12) (v := .int (vM_12.1 17)) (C := RX8) (T := TX8) (N := 23) hx hb htu hinX8 hown hK hP 0 rfl rfl 17 (by decide) k_5_89 (fun _ h9 => h9) rfl dX8_readsAll_53 ?_
        obtain ⟨h13, hf⟩ := gd_in hf
        refine va_iast (D := g.1) (f := (vM_12.2.1 2)) hx hb hK hP hD hS 2 0 rfl rfl h13 dX8_readsAll_56 (fun H locs hP hD hS => ?_)
        obtain ⟨vM_14, evM_14⟩ : ∃ z, z = sI vM_12 2 ((1 : Int32)).toNatClampNeg (vM_12.1 17) := ⟨_, rfl⟩
        have hf := bn_at hf evM_14
        have hP : va_P g.1 vwCl (cM g bM vM_14) H := by rw [evM_14]; exact hP
        have hD : va_D A (cM g bM vM_14) := by rw [evM_14]; exact hD
        refine lv_aload_n hx hb dX8_readsAll_57 rfl (lv_at hl 0 rfl) ?_
        refine lv_bipush (v := (59 : Int32)) hx hb dX8_readsAll_58 (by decide) ?_
        obtain ⟨r15, vM_16, hg17, hf⟩ := o2_at hf
        refine k_viW ⟨hx, hb, hml, hown, htu⟩ hK hP hD hS hA hG (c_X8_sign l g bM vM_14 (59 : Int32) r15 vM_16 hg17) (cwV 1 htu (gU_V mw_5_200 hcX8_sign) rfl rfl rfl hdX8_sign ⟨Nat.le_of_ble_eq_true rfl, Nat.le_of_ble_eq_true rfl⟩) (q0 := 0) (ci := 8) (fs := fcM bM vM_14) (q := (RX8, TX8, 23)) rfl rfl rfl (As := [.int (59 : Int32)]) (rest := []) rfl rfl hl.1 (Nat.le_of_ble_eq_true rfl) dX8_readsAll_60 (k1 := 0) (n1 := 0) rfl rfl ⟨Nat.zero_le _, Nat.zero_le _⟩ (fun H locs hP hD hS => ?_)
        have hL20 : ∀ (vM_18 : Vs), lp f_X8_readsAll_L68 (fun _ => none) FU vM_18 = some (r, vM1) → ∀ (H : Heap) (locs : List Loc), va_P g.1 vwCl (cM g bM vM_18) H → va_D A (cM g bM vM_18) → va_S A s.heap H locs → ∀ ls : Array Slot, lv_has ls 1 [(0, .ref (bM 0))] → W p l e (headSpec wsX8_readsAll rmX8_readsAll).room s m ([.ref (bM 0)] : List Value).toArray below meth c H locs 0 0 (MQ below (qI g A (cM g bM vM1) r) ([.ref (bM 0)] : List Value).toArray s 0 0 A) (F0 m 68 ls []) := by
          refine lp_ind (T := Vs → Option (Int32 × Vs)) (fun self19 => ∀ (vM_18 : Vs), self19 vM_18 = some (r, vM1) → ∀ (H : Heap) (locs : List Loc), va_P g.1 vwCl (cM g bM vM_18) H → va_D A (cM g bM vM_18) → va_S A s.heap H locs → ∀ ls : Array Slot, lv_has ls 1 [(0, .ref (bM 0))] → W p l e (headSpec wsX8_readsAll rmX8_readsAll).room s m ([.ref (bM 0)] : List Value).toArray below meth c H locs 0 0 (MQ below (qI g A (cM g bM vM1) r) ([.ref (bM 0)] : List Value).toArray s 0 0 A) (F0 m 68 ls [])) ?_ ?_ FU
          · intro vM_18 hf; cases hf
          · intro self19 ih21 vM_18 hf H locs hP hD hS ls hl
            unfold f_X8_readsAll_L68 at hf
            refine lv_aload_n hx hb dX8_readsAll_68 rfl (lv_at hl 0 rfl) ?_
            obtain ⟨r22, vM_23, hg24, hf⟩ := o2_at hf
            refine k_viW ⟨hx, hb, hml, hown, htu⟩ hK hP hD hS hA hG (c_X8_here l g bM vM_18 r22 vM_23 hg24) (cwV 0 htu (gU_V mw_5_179 hcX8_here) rfl rfl rfl hdX8_here ⟨Nat.le_of_ble_eq_true rfl, Nat.le_of_ble_eq_true rfl⟩) (q0 := 0) (ci := 8) (fs := fcM bM vM_18) (q := (RX8, TX8, 23)) rfl rfl rfl (As := []) (rest := []) rfl rfl hl.1 (Nat.le_of_ble_eq_true rfl) dX8_readsAll_69 (k1 := 0) (n1 := 0) rfl rfl ⟨Nat.zero_le _, Nat.zero_le _⟩ (fun H locs hP hD hS => ?_)
            refine lv_iconst (v := (-1 : Int32)) hx hb dX8_readsAll_72 (by decide) ?_
            refine lv_icmp_eq (tgt := 85) hx hb dX8_readsAll_73 (by decide) (fun c25 => ?_) (fun c25 => ?_)
            · have hf := it_t hf c25
              refine lv_iconst (v := (1 : Int32)) hx hb dX8_readsAll_85 (by decide) ?_
              obtain ⟨h26, hf⟩ := gd_isB hf
              obtain ⟨e27, e28⟩ := kp_2 hf
              rw [e28] at hP hD
              exact k_zret hx hb hr hlocks hK hP hD hS e27 h26 dX8_readsAll_86
            · have hf := it_f hf c25
              refine lv_aload_n hx hb dX8_readsAll_76 rfl (lv_at hl 0 rfl) ?_
              obtain ⟨r29, vM_30, hg31, hf⟩ := o2_at hf
              refine k_viW ⟨hx, hb, hml, hown, htu⟩ hK hP hD hS hA hG (c_X8_readsLine l g bM vM_23 r29 vM_30 hg31) (cwV 0 htu (gU_V mw_5_204 hcX8_readsLine) rfl rfl rfl hdX8_readsLine ⟨Nat.le_of_ble_eq_true rfl, Nat.le_of_ble_eq_true rfl⟩) (q0 := 0) (ci := 8) (fs := fcM bM vM_23) (q := (RX8, TX8, 23)) rfl rfl rfl (As := []) (rest := []) rfl rfl hl.1 (Nat.le_of_ble_eq_true rfl) dX8_readsAll_77 (k1 := 0) (n1 := 0) rfl rfl ⟨Nat.zero_le _, Nat.zero_le _⟩ (fun H locs hP hD hS => ?_)
              refine lv_if_ne (tgt := 68) hx hb dX8_readsAll_80 (by decide) (fun c32 => ?_) (fun c32 => ?_)
              · have hf := it_f hf c32
                exact ih21 vM_30 hf H locs hP hD hS _ (lv_sub hl [0] rfl)
              · have hf := it_t hf c32
                refine lv_iconst (v := (0 : Int32)) hx hb dX8_readsAll_83 (by decide) ?_
                obtain ⟨h33, hf⟩ := gd_isB hf
                obtain ⟨e34, e35⟩ := kp_2 hf
                rw [e35] at hP hD
                exact k_zret hx hb hr hlocks hK hP hD hS e34 h33 dX8_readsAll_84
        refine lv_if_ne (tgt := 68) hx hb dX8_readsAll_63 (by decide) (fun c36 => ?_) (fun c36 => ?_)
        · have hf := it_f hf c36
          exact hL20 vM_16 hf H locs hP hD hS _ (lv_sub hl [0] rfl)
        · have hf := it_t hf c36
          refine lv_iconst (v := (0 : Int32)) hx hb dX8_readsAll_66 (by decide) ?_
          obtain ⟨h37, hf⟩ := gd_isB hf
          obtain ⟨e38, e39⟩ := kp_2 hf
          rw [e39] at hP hD
          exact k_zret hx hb hr hlocks hK hP hD hS e38 h37 dX8_readsAll_67
      · have hf := it_t hf c10
        refine lv_iconst (v := (0 : Int32)) hx hb dX8_readsAll_35 (by decide) ?_
        obtain ⟨h40, hf⟩ := gd_isB hf
        obtain ⟨e41, e42⟩ := kp_2 hf
        rw [e42] at hP hD
        exact k_zret hx hb hr hlocks hK hP hD hS e41 h40 dX8_readsAll_36
    · have hf := it_t hf c6
      refine lv_aload_n hx hb dX8_readsAll_14 rfl (lv_at hl 0 rfl) ?_
      refine lv_bipush (v := (-2 : Int32)) hx hb dX8_readsAll_15 (by decide) ?_
      refine lv_aload_n hx hb dX8_readsAll_17 rfl (lv_at hl 0 rfl) ?_
      refine va_get (D := g.1) (ci := 8) (fs := fcM bM vM_4) (v := .int (vM_4.1 14)) (C := RX8) (T := TX8) (N := 23) hx hb htu hinX8 hown hK hP 0 rfl rfl 14 (by decide) k_5_86 (fun _ h9 => h9) rfl dX8_readsAll_18 ?_
      obtain ⟨r43, vM_44, hg45, hf⟩ := o2_at hf
      refine k_viW ⟨hx, hb, hml, hown, htu⟩ hK hP hD hS hA hG (c_X8_fails l g bM vM_4 (-2 : Int32) (vM_4.1 14) r43 vM_44 hg45) (cwV 2 htu (gU_V mw_5_188 hcX8_fails) rfl rfl rfl hdX8_fails ⟨Nat.le_of_ble_eq_true rfl, Nat.le_of_ble_eq_true rfl⟩) (q0 := 0) (ci := 8) (fs := fcM bM vM_4) (q := (RX8, TX8, 23)) rfl rfl rfl (As := [.int (-2 : Int32), .int (vM_4.1 14)]) (rest := []) rfl rfl hl.1 (Nat.le_of_ble_eq_true rfl) dX8_readsAll_21 (k1 := 0) (n1 := 0) rfl rfl ⟨Nat.zero_le _, Nat.zero_le _⟩ (fun H locs hP hD hS => ?_)
      obtain ⟨h46, hf⟩ := gd_isB hf
      obtain ⟨e47, e48⟩ := kp_2 hf
      rw [e48] at hP hD
      exact k_zret hx hb hr hlocks hK hP hD hS e47 h46 dX8_readsAll_24
  rw [hH, hlo] at hW
  exact hW
def f_X8_load_L67 (self21 : Int32 → Vs → Option (Int32 × Vs)) (x2_19 : Int32) (vM_20 : Vs) : Option (Int32 × Vs) :=
  if (440 : Int32) ≤ x2_19 then o1 (f_X8_wires vM_20) (fun (r25 : Int32) => some (r25, vM_20)) else gd (inb x2_19 440) (o1 (f_X8_put vM_20 x2_19 (vM_20.2.1 2 (x2_19).toNatClampNeg)) (fun (vM_30 : Vs) => self21 (x2_19 + (1 : Int32)) vM_30))
def f_X8_load (vM : Vs) (x1 : Int32) : Option (Int32 × Vs) :=
  bn (sF vM 0 (0 : Int32)) (fun (vM_1 : Vs) => o1 (f_X8_isIn x1 (0 : Int32) (vM_1.1 12)) (fun (r2 : Int32) => o2 (f_X8_right vM_1 r2 (1 : Int32)) (fun (r4 : Int32) (vM_5 : Vs) => if r4 = 0 then some ((0 : Int32), vM_5) else bn (sF vM_5 13 x1) (fun (vM_8 : Vs) => bn (sF vM_8 14 (0 : Int32)) (fun (vM_9 : Vs) => bn (sF vM_9 12 (0 : Int32)) (fun (vM_10 : Vs) => bn (sF vM_10 15 (0 : Int32)) (fun (vM_11 : Vs) => bn (sF vM_11 16 (-1 : Int32)) (fun (vM_12 : Vs) => o2 (f_X8_readsAll vM_12) (fun (r13 : Int32) (vM_14 : Vs) => if r13 = 0 then some ((vM_14.1 15), vM_14) else o1 (f_X8_change vM_14) (fun (vM_17 : Vs) => lp f_X8_load_L67 (fun _ _ => none) FU (0 : Int32) vM_17))))))))))
abbrev wsX8_load : List Cond := .code yX8_load cX8_load 3 (some .int) :: UW
abbrev rmX8_load : Room := { frames := 9, cells := 0, slots := 0, locals := 194 }
set_option maxHeartbeats 4000000 in
set_option maxRecDepth 100000 in
theorem c_X8_load (l : Launch) (g : Gx) (bM : Nat → Nat) (vM : Vs) (x1 : Int32) (r : Int32) (vM1 : Vs) (hf : f_X8_load vM x1 = some (r, vM1)) : CtI l yX8_load wsX8_load rmX8_load g [.ref (bM 0), .int x1] (cM g bM vM) (cM g bM vM1) r 0 0 := by
  unfold CtI
  intro sz
  refine Met.ofW (cc := cX8_load) (maxL := 3) (ret := (some .int)) (by decide) rfl ?_
  intro p e s m args below meth c s₁ B hml hv
  obtain ⟨rfl, hsz, hP, hK, hD0, hG⟩ := hv
  have hx := B.exec
  have hb := B.bytes
  have hr := B.returns
  have hts := atoms_spec (ws := wsX8_load) B.pre
  have hown : s.vm.findClass RX8 = some m.cls := findClass_of_methodNamed B.named
  have hlocks := B.notSynchronized
  subst hsz
  have hD := hD0.self (sz := s.heap.size)
  generalize hAe : va_A (cM g bM vM) s.heap.size = A at hD hG ⊢
  have hA : ∀ q : Nat, s.heap.size ≤ q → A q := fun q h => by rw [← hAe]; exact Or.inr h
  clear hAe hD0
  have hS : va_S A s.heap s.heap [] := va_S.rf
  have hl := lv_entry ([.ref (bM 0), .int x1]) (n := 3) (Nat.le_of_ble_eq_true rfl)
  rw [lg_entry_eq]
  generalize (lg_sl ([.ref (bM 0), .int x1]) ++ List.replicate (3 - (lg_sl ([.ref (bM 0), .int x1])).length) Slot.unset).toArray = ls at hl ⊢
  have hl : lv_has ls 3 [(0, .ref (bM 0)), (1, .int x1)] := hl
  have htu : ∀ w ∈ UW, w.before _ s = true := fun w h => hts w (List.mem_cons_of_mem _ h)
  have k_5_72 := htu _ mw_5_72
  have k_5_84 := htu _ mw_5_84
  have k_5_85 := htu _ mw_5_85
  have k_5_86 := htu _ mw_5_86
  have k_5_87 := htu _ mw_5_87
  have k_5_88 := htu _ mw_5_88
  have k_5_74 := htu _ mw_5_74
  unfold f_X8_load at hf
  obtain ⟨H, hH⟩ : ∃ z, z = s.heap := ⟨_, rfl⟩
  obtain ⟨locs, hlo⟩ : ∃ z : List Loc, z = [] := ⟨_, rfl⟩
  have hS : va_S A s.heap H locs := by rw [hH, hlo]; exact hS
  rw [← hH] at hP
  have hW : W p l e (headSpec wsX8_load rmX8_load).room s m ([.ref (bM 0), .int x1] : List Value).toArray below meth c H locs 0 0 (MQ below (qI g A (cM g bM vM1) r) ([.ref (bM 0), .int x1] : List Value).toArray s 0 0 A) (F0 m 0 ls []) := by
    refine lv_aload_n hx hb dX8_load_0 rfl (lv_at hl 0 rfl) ?_
    refine lv_iconst (v := (0 : Int32)) hx hb dX8_load_1 (by decide) ?_
    refine va_put (D := g.1) (ci := 8) (fs := fcM bM vM) (v := .int (0 : Int32)) (ty := .int) (C := RX8) (T := TX8) (N := 23) hx hb htu hinX8 tyX8 tyX8_ok nmX8 hown hK hP hD hS 0 rfl rfl 0 (by decide) k_5_72 (fun _ h9 => h9) rfl (by decide +kernel) rfl rfl (Nat.le_of_ble_eq_true rfl) dX8_load_2 (fun H locs hP hD hS => ?_)
    obtain ⟨vM_1, evM_1⟩ : ∃ z, z = sF vM 0 (0 : Int32) := ⟨_, rfl⟩
    have hf := bn_at hf evM_1
    have hP : va_P g.1 vwCl (cM g bM vM_1) H := by rw [evM_1]; exact hP
    have hD : va_D A (cM g bM vM_1) := by rw [evM_1]; exact hD
    refine lv_aload_n hx hb dX8_load_5 rfl (lv_at hl 0 rfl) ?_
    refine lv_iload_n hx hb dX8_load_6 rfl (lv_at hl 1 rfl) ?_
    refine lv_iconst (v := (0 : Int32)) hx hb dX8_load_7 (by decide) ?_
    refine lv_aload_n hx hb dX8_load_8 rfl (lv_at hl 0 rfl) ?_
    refine va_get (D := g.1) (ci := 8) (fs := fcM bM vM_1) (v := .int (vM_1.1 12)) (C := RX8) (T := TX8) (N := 23) hx hb htu hinX8 hown hK hP 0 rfl rfl 12 (by decide) k_5_84 (fun _ h9 => h9) rfl dX8_load_9 ?_
    obtain ⟨r2, hg3, hf⟩ := o1_at hf
    refine k_si0 ⟨hx, hb, hml, hown, htu⟩ hK hP hD hS hA hG (c_X8_isIn l g x1 (0 : Int32) (vM_1.1 12) r2 hg3) (va_cwS 3 htu (gU_S mw_5_163 hcX8_isIn) rfl rfl rfl hdX8_isIn ⟨Nat.le_of_ble_eq_true rfl, Nat.le_of_ble_eq_true rfl⟩) (As := [.int x1, .int (0 : Int32), .int (vM_1.1 12)]) (rest := [.ref (bM 0)]) rfl rfl hl.1 (Nat.le_of_ble_eq_true rfl) dX8_load_12 (k1 := 0) (n1 := 0) rfl rfl ⟨Nat.zero_le _, Nat.zero_le _⟩ (fun H locs hP hD hS => ?_)
    refine lv_iconst (v := (1 : Int32)) hx hb dX8_load_15 (by decide) ?_
    obtain ⟨r4, vM_5, hg6, hf⟩ := o2_at hf
    refine k_viW ⟨hx, hb, hml, hown, htu⟩ hK hP hD hS hA hG (c_X8_right l g bM vM_1 r2 (1 : Int32) r4 vM_5 hg6) (cwV 2 htu (gU_V mw_5_166 hcX8_right) rfl rfl rfl hdX8_right ⟨Nat.le_of_ble_eq_true rfl, Nat.le_of_ble_eq_true rfl⟩) (q0 := 0) (ci := 8) (fs := fcM bM vM_1) (q := (RX8, TX8, 23)) rfl rfl rfl (As := [.int r2, .int (1 : Int32)]) (rest := []) rfl rfl hl.1 (Nat.le_of_ble_eq_true rfl) dX8_load_16 (k1 := 0) (n1 := 0) rfl rfl ⟨Nat.zero_le _, Nat.zero_le _⟩ (fun H locs hP hD hS => ?_)
    refine lv_if_ne (tgt := 24) hx hb dX8_load_19 (by decide) (fun c7 => ?_) (fun c7 => ?_)
    · have hf := it_f hf c7
      refine lv_aload_n hx hb dX8_load_24 rfl (lv_at hl 0 rfl) ?_
      refine lv_iload_n hx hb dX8_load_25 rfl (lv_at hl 1 rfl) ?_
      refine va_put (D := g.1) (ci := 8) (fs := fcM bM vM_5) (v := .int x1) (ty := .int) (C := RX8) (T := TX8) (N := 23) hx hb htu hinX8 tyX8 tyX8_ok nmX8 hown hK hP hD hS 0 rfl rfl 13 (by decide) k_5_85 (fun _ h9 => h9) rfl (by decide +kernel) rfl rfl (Nat.le_of_ble_eq_true rfl) dX8_load_26 (fun H locs hP hD hS => ?_)
      obtain ⟨vM_8, evM_8⟩ : ∃ z, z = sF vM_5 13 x1 := ⟨_, rfl⟩
      have hf := bn_at hf evM_8
      have hP : va_P g.1 vwCl (cM g bM vM_8) H := by rw [evM_8]; exact hP
      have hD : va_D A (cM g bM vM_8) := by rw [evM_8]; exact hD
      refine lv_aload_n hx hb dX8_load_29 rfl (lv_at hl 0 rfl) ?_
      refine lv_iconst (v := (0 : Int32)) hx hb dX8_load_30 (by decide) ?_
      refine va_put (D := g.1) (ci := 8) (fs := fcM bM vM_8) (v := .int (0 : Int32)) (ty := .int) (C := RX8) (T := TX8) (N := 23) hx hb htu hinX8 tyX8 tyX8_ok nmX8 hown hK hP hD hS 0 rfl rfl 14 (by decide) k_5_86 (fun _ h9 => h9) rfl (by decide +kernel) rfl rfl (Nat.le_of_ble_eq_true rfl) dX8_load_31 (fun H locs hP hD hS => ?_)
      obtain ⟨vM_9, evM_9⟩ : ∃ z, z = sF vM_8 14 (0 : Int32) := ⟨_, rfl⟩
      have hf := bn_at hf evM_9
      have hP : va_P g.1 vwCl (cM g bM vM_9) H := by rw [evM_9]; exact hP
      have hD : va_D A (cM g bM vM_9) := by rw [evM_9]; exact hD
      refine lv_aload_n hx hb dX8_load_34 rfl (lv_at hl 0 rfl) ?_
      refine lv_iconst (v := (0 : Int32)) hx hb dX8_load_35 (by decide) ?_
      refine va_put (D := g.1) (ci := 8) (fs := fcM bM vM_9) (v := .int (0 : Int32)) (ty := .int) (C := RX8) (T := TX8) (N := 23) hx hb htu hinX8 tyX8 tyX8_ok nmX8 hown hK hP hD hS 0 rfl rfl 12 (by decide) k_5_84 (fun _ h9 => h9) rfl (by decide +kernel) rfl rfl (Nat.le_of_ble_eq_true rfl) dX8_load_36 (fun H locs hP hD hS => ?_)
      obtain ⟨vM_10, evM_10⟩ : ∃ z, z = sF vM_9 12 (0 : Int32) := ⟨_, rfl⟩
      have hf := bn_at hf evM_10
      have hP : va_P g.1 vwCl (cM g bM vM_10) H := by rw [evM_10]; exact hP
      have hD : va_D A (cM g bM vM_10) := by rw [evM_10]; exact hD
      refine lv_aload_n hx hb dX8_load_39 rfl (lv_at hl 0 rfl) ?_
      refine lv_iconst (v := (0 : Int32)) hx hb dX8_load_40 (by decide) ?_
      refine va_put (D := g.1) (ci := 8) (fs := fcM bM vM_10) (v := .int (0 : Int32)) (ty := .int) (C := RX8) (T := TX8) (N := 23) hx hb htu hinX8 tyX8 tyX8_ok nmX8 hown hK hP hD hS 0 rfl rfl 15 (by decide) k_5_87 (fun _ h9 => h9) rfl (by decide +kernel) rfl rfl (Nat.le_of_ble_eq_true rfl) dX8_load_41 (fun H locs hP hD hS => ?_)
      obtain ⟨vM_11, evM_11⟩ : ∃ z, z = sF vM_10 15 (0 : Int32) := ⟨_, rfl⟩
      have hf := bn_at hf evM_11
      have hP : va_P g.1 vwCl (cM g bM vM_11) H := by rw [evM_11]; exact hP
      have hD : va_D A (cM g bM vM_11) := by rw [evM_11]; exact hD
      refine lv_aload_n hx hb dX8_load_44 rfl (lv_at hl 0 rfl) ?_
      refine lv_iconst (v := (-1 : Int32)) hx hb dX8_load_45 (by decide) ?_
      refine va_put (D := g.1) (ci := 8) (fs := fcM bM vM_11) (v := .int (-1 : Int32)) (ty := .int) (C := RX8) (T := TX8) (N := 23) hx hb htu hinX8 tyX8 tyX8_ok nmX8 hown hK hP hD hS 0 rfl rfl 16 (by decide) k_5_88 (fun _ h9 => h9) rfl (by decide +kernel) rfl rfl (Nat.le_of_ble_eq_true rfl) dX8_load_46 (fun H locs hP hD hS => ?_)
      obtain ⟨vM_12, evM_12⟩ : ∃ z, z = sF vM_11 16 (-1 : Int32) := ⟨_, rfl⟩
      have hf := bn_at hf evM_12
      have hP : va_P g.1 vwCl (cM g bM vM_12) H := by rw [evM_12]; exact hP
      have hD : va_D A (cM g bM vM_12) := by rw [evM_12]; exact hD
      refine lv_aload_n hx hb dX8_load_49 rfl (lv_at hl 0 rfl) ?_
      obtain ⟨r13, vM_14, hg15, hf⟩ := o2_at hf
      refine k_viW ⟨hx, hb, hml, hown, htu⟩ hK hP hD hS hA hG (c_X8_readsAll l g bM vM_12 r13 vM_14 hg15) (cwV 0 htu (gU_V mw_5_170 hcX8_readsAll) rfl rfl rfl hdX8_readsAll ⟨Nat.le_of_ble_eq_true rfl, Nat.le_of_ble_eq_true rfl⟩) (q0 := 0) (ci := 8) (fs := fcM bM vM_12) (q := (RX8, TX8, 23)) rfl rfl rfl (As := []) (rest := []) rfl rfl hl.1 (Nat.le_of_ble_eq_true rfl) dX8_load_50 (k1 := 0) (n1 := 0) rfl rfl ⟨Nat.zero_le _, Nat.zero_le _⟩ (fun H locs hP hD hS => ?_)
      refine lv_if_ne (tgt := 61) hx hb dX8_load_53 (by decide) (fun c16 => ?_) (fun c16 => ?_)
      · have hf := it_f hf c16
        refine lv_aload_n hx hb dX8_load_61 rfl (lv_at hl 0 rfl) ?_
        obtain ⟨vM_17, hg18, hf⟩ := o1_at hf
        refine k_vvW ⟨hx, hb, hml, hown, htu⟩ hK hP hD hS hA hG (c_X8_change l g bM vM_14 vM_17 hg18) (cwV 0 htu (gU_V mw_6_16 hcX8_change) rfl rfl rfl hdX8_change ⟨Nat.le_of_ble_eq_true rfl, Nat.le_of_ble_eq_true rfl⟩) (q0 := 0) (ci := 8) (fs := fcM bM vM_14) (q := (RX8, TX8, 23)) rfl rfl rfl (As := []) (rest := []) rfl rfl hl.1 (Nat.le_of_ble_eq_true rfl) dX8_load_62 (k1 := 0) (n1 := 0) rfl rfl ⟨Nat.zero_le _, Nat.zero_le _⟩ (fun H locs hP hD hS => ?_)
        refine lv_iconst (v := (0 : Int32)) hx hb dX8_load_65 (by decide) ?_
        refine lv_istore_n (lv' := [(2, .int (0 : Int32)), (0, .ref (bM 0)), (1, .int x1)]) hx hb dX8_load_66 rfl hl (by decide) rfl (fun ls hl => ?_)
        have hL22 : ∀ (x2_19 : Int32) (vM_20 : Vs), lp f_X8_load_L67 (fun _ _ => none) FU x2_19 vM_20 = some (r, vM1) → ∀ (H : Heap) (locs : List Loc), va_P g.1 vwCl (cM g bM vM_20) H → va_D A (cM g bM vM_20) → va_S A s.heap H locs → ∀ ls : Array Slot, lv_has ls 3 [(0, .ref (bM 0)), (2, .int x2_19)] → W p l e (headSpec wsX8_load rmX8_load).room s m ([.ref (bM 0), .int x1] : List Value).toArray below meth c H locs 0 0 (MQ below (qI g A (cM g bM vM1) r) ([.ref (bM 0), .int x1] : List Value).toArray s 0 0 A) (F0 m 67 ls []) := by
          refine lp_ind (T := Int32 → Vs → Option (Int32 × Vs)) (fun self21 => ∀ (x2_19 : Int32) (vM_20 : Vs), self21 x2_19 vM_20 = some (r, vM1) → ∀ (H : Heap) (locs : List Loc), va_P g.1 vwCl (cM g bM vM_20) H → va_D A (cM g bM vM_20) → va_S A s.heap H locs → ∀ ls : Array Slot, lv_has ls 3 [(0, .ref (bM 0)), (2, .int x2_19)] → W p l e (headSpec wsX8_load rmX8_load).room s m ([.ref (bM 0), .int x1] : List Value).toArray below meth c H locs 0 0 (MQ below (qI g A (cM g bM vM1) r) ([.ref (bM 0), .int x1] : List Value).toArray s 0 0 A) (F0 m 67 ls [])) ?_ ?_ FU
          · intro x2_19 vM_20 hf; cases hf
          · intro self21 ih23 x2_19 vM_20 hf H locs hP hD hS ls hl
            unfold f_X8_load_L67 at hf
            refine lv_iload_n hx hb dX8_load_67 rfl (lv_at hl 1 rfl) ?_
            refine lv_sipush (v := (440 : Int32)) hx hb dX8_load_68 (by decide) ?_
            refine lv_icmp_ge (tgt := 91) hx hb dX8_load_71 (by decide) (fun c24 => ?_) (fun c24 => ?_)
            · have hf := it_t hf c24
              refine lv_aload_n hx hb dX8_load_91 rfl (lv_at hl 0 rfl) ?_
              obtain ⟨r25, hg26, hf⟩ := o1_at hf
              refine k_viW ⟨hx, hb, hml, hown, htu⟩ hK hP hD hS hA hG (c_X8_wires l g bM vM_20 r25 hg26) (cwV 0 htu (gU_V mw_6_24 hcX8_wires) rfl rfl rfl hdX8_wires ⟨Nat.le_of_ble_eq_true rfl, Nat.le_of_ble_eq_true rfl⟩) (q0 := 0) (ci := 8) (fs := fcM bM vM_20) (q := (RX8, TX8, 23)) rfl rfl rfl (As := []) (rest := []) rfl rfl hl.1 (Nat.le_of_ble_eq_true rfl) dX8_load_92 (k1 := 0) (n1 := 0) rfl rfl ⟨Nat.zero_le _, Nat.zero_le _⟩ (fun H locs hP hD hS => ?_)
              obtain ⟨e27, e28⟩ := kp_2 hf
              rw [e28] at hP hD
              exact k_iret hx hb hr hlocks hK hP hD hS e27 dX8_load_95
            · have hf := it_f hf c24
              refine lv_aload_n hx hb dX8_load_74 rfl (lv_at hl 0 rfl) ?_
              refine lv_iload_n hx hb dX8_load_75 rfl (lv_at hl 1 rfl) ?_
              refine lv_aload_n hx hb dX8_load_76 rfl (lv_at hl 0 rfl) ?_
              refine va_get (D := g.1) (ci := 8) (fs := fcM bM vM_20) (v := .ref (bM 3)) (C := RX8) (T := TX8) (N := 23) hx hb htu hinX8 hown hK hP 0 rfl rfl 2 (by decide) k_5_74 (fun _ h9 => h9) rfl dX8_load_77 ?_
              refine lv_iload_n hx hb dX8_load_80 rfl (lv_at hl 1 rfl) ?_
              obtain ⟨h29, hf⟩ := gd_in hf
              refine va_iald (D := g.1) (f := (vM_20.2.1 2)) hx hb hK hP 2 0 rfl rfl h29 dX8_load_81 ?_
              obtain ⟨vM_30, hg31, hf⟩ := o1_at hf
              refine k_vvW ⟨hx, hb, hml, hown, htu⟩ hK hP hD hS hA hG (c_X8_put l g bM vM_20 x2_19 (vM_20.2.1 2 (x2_19).toNatClampNeg) vM_30 hg31) (cwV 2 htu (gU_V mw_5_68 hcX8_put) rfl rfl rfl hdX8_put ⟨Nat.le_of_ble_eq_true rfl, Nat.le_of_ble_eq_true rfl⟩) (q0 := 0) (ci := 8) (fs := fcM bM vM_20) (q := (RX8, TX8, 23)) rfl rfl rfl (As := [.int x2_19, .int (vM_20.2.1 2 (x2_19).toNatClampNeg)]) (rest := []) rfl rfl hl.1 (Nat.le_of_ble_eq_true rfl) dX8_load_82 (k1 := 0) (n1 := 0) rfl rfl ⟨Nat.zero_le _, Nat.zero_le _⟩ (fun H locs hP hD hS => ?_)
              refine lv_iinc (v := (x2_19 + (1 : Int32))) (lv' := [(2, .int (x2_19 + (1 : Int32))), (0, .ref (bM 0))]) hx hb dX8_load_85 hl (k := 1) rfl rfl (by decide) rfl (fun ls hl => ?_)
              refine lv_goto (tgt := 67) hx hb dX8_load_88 (by decide) ?_
              exact ih23 (x2_19 + (1 : Int32)) vM_30 hf H locs hP hD hS _ (lv_sub hl [1, 0] rfl)
        exact hL22 (0 : Int32) vM_17 hf H locs hP hD hS _ (lv_sub hl [1, 0] rfl)
      · have hf := it_t hf c16
        refine lv_aload_n hx hb dX8_load_56 rfl (lv_at hl 0 rfl) ?_
        refine va_get (D := g.1) (ci := 8) (fs := fcM bM vM_14) (v := .int (vM_14.1 15)) (C := RX8) (T := TX8) (N := 23) hx hb htu hinX8 hown hK hP 0 rfl rfl 15 (by decide) k_5_87 (fun _ h9 => h9) rfl dX8_load_57 ?_
        obtain ⟨e32, e33⟩ := kp_2 hf
        rw [e33] at hP hD
        exact k_iret hx hb hr hlocks hK hP hD hS e32 dX8_load_60
    · have hf := it_t hf c7
      refine lv_iconst (v := (0 : Int32)) hx hb dX8_load_22 (by decide) ?_
      obtain ⟨e34, e35⟩ := kp_2 hf
      rw [e35] at hP hD
      exact k_iret hx hb hr hlocks hK hP hD hS e34 dX8_load_23
  rw [hH, hlo] at hW
  exact hW
def f_X8_isWire (vM : Vs) (x1 : Int32) : Option (Int32 × Vs) :=
  o1 (f_X8_wires vM) (fun (r1 : Int32) => o1 (f_X8_isIn x1 (0 : Int32) (r1 - (1 : Int32))) (fun (r3 : Int32) => o2 (f_X8_right vM r3 (1 : Int32)) (fun (r5 : Int32) (vM_6 : Vs) => gd (isB r5) (some (r5, vM_6)))))
abbrev wsX8_isWire : List Cond := .code yX8_isWire cX8_isWire 2 (some .boolean) :: UW
abbrev rmX8_isWire : Room := { frames := 2, cells := 0, slots := 0, locals := 41 }
set_option maxHeartbeats 4000000 in
set_option maxRecDepth 100000 in
theorem c_X8_isWire (l : Launch) (g : Gx) (bM : Nat → Nat) (vM : Vs) (x1 : Int32) (r : Int32) (vM1 : Vs) (hf : f_X8_isWire vM x1 = some (r, vM1)) : CtI l yX8_isWire wsX8_isWire rmX8_isWire g [.ref (bM 0), .int x1] (cM g bM vM) (cM g bM vM1) r 0 0 := by
  unfold CtI
  intro sz
  refine Met.ofW (cc := cX8_isWire) (maxL := 2) (ret := (some .boolean)) (by decide) rfl ?_
  intro p e s m args below meth c s₁ B hml hv
  obtain ⟨rfl, hsz, hP, hK, hD0, hG⟩ := hv
  have hx := B.exec
  have hb := B.bytes
  have hr := B.returns
  have hts := atoms_spec (ws := wsX8_isWire) B.pre
  have hown : s.vm.findClass RX8 = some m.cls := findClass_of_methodNamed B.named
  have hlocks := B.notSynchronized
  subst hsz
  have hD := hD0.self (sz := s.heap.size)
  generalize hAe : va_A (cM g bM vM) s.heap.size = A at hD hG ⊢
  have hA : ∀ q : Nat, s.heap.size ≤ q → A q := fun q h => by rw [← hAe]; exact Or.inr h
  clear hAe hD0
  have hS : va_S A s.heap s.heap [] := va_S.rf
  have hl := lv_entry ([.ref (bM 0), .int x1]) (n := 2) (Nat.le_of_ble_eq_true rfl)
  rw [lg_entry_eq]
  generalize (lg_sl ([.ref (bM 0), .int x1]) ++ List.replicate (2 - (lg_sl ([.ref (bM 0), .int x1])).length) Slot.unset).toArray = ls at hl ⊢
  have hl : lv_has ls 2 [(0, .ref (bM 0)), (1, .int x1)] := hl
  have htu : ∀ w ∈ UW, w.before _ s = true := fun w h => hts w (List.mem_cons_of_mem _ h)
  unfold f_X8_isWire at hf
  obtain ⟨H, hH⟩ : ∃ z, z = s.heap := ⟨_, rfl⟩
  obtain ⟨locs, hlo⟩ : ∃ z : List Loc, z = [] := ⟨_, rfl⟩
  have hS : va_S A s.heap H locs := by rw [hH, hlo]; exact hS
  rw [← hH] at hP
  have hW : W p l e (headSpec wsX8_isWire rmX8_isWire).room s m ([.ref (bM 0), .int x1] : List Value).toArray below meth c H locs 0 0 (MQ below (qI g A (cM g bM vM1) r) ([.ref (bM 0), .int x1] : List Value).toArray s 0 0 A) (F0 m 0 ls []) := by
    refine lv_aload_n hx hb dX8_isWire_0 rfl (lv_at hl 0 rfl) ?_
    refine lv_iload_n hx hb dX8_isWire_1 rfl (lv_at hl 1 rfl) ?_
    refine lv_iconst (v := (0 : Int32)) hx hb dX8_isWire_2 (by decide) ?_
    refine lv_aload_n hx hb dX8_isWire_3 rfl (lv_at hl 0 rfl) ?_
    obtain ⟨r1, hg2, hf⟩ := o1_at hf
    refine k_viW ⟨hx, hb, hml, hown, htu⟩ hK hP hD hS hA hG (c_X8_wires l g bM vM r1 hg2) (cwV 0 htu (gU_V mw_6_24 hcX8_wires) rfl rfl rfl hdX8_wires ⟨Nat.le_of_ble_eq_true rfl, Nat.le_of_ble_eq_true rfl⟩) (q0 := 0) (ci := 8) (fs := fcM bM vM) (q := (RX8, TX8, 23)) rfl rfl rfl (As := []) (rest := [.int (0 : Int32), .int x1, .ref (bM 0)]) rfl rfl hl.1 (Nat.le_of_ble_eq_true rfl) dX8_isWire_4 (k1 := 0) (n1 := 0) rfl rfl ⟨Nat.zero_le _, Nat.zero_le _⟩ (fun H locs hP hD hS => ?_)
    refine lv_iconst (v := (1 : Int32)) hx hb dX8_isWire_7 (by decide) ?_
    refine lv_isub hx hb dX8_isWire_8 ?_
    obtain ⟨r3, hg4, hf⟩ := o1_at hf
    refine k_si0 ⟨hx, hb, hml, hown, htu⟩ hK hP hD hS hA hG (c_X8_isIn l g x1 (0 : Int32) (r1 - (1 : Int32)) r3 hg4) (va_cwS 3 htu (gU_S mw_5_163 hcX8_isIn) rfl rfl rfl hdX8_isIn ⟨Nat.le_of_ble_eq_true rfl, Nat.le_of_ble_eq_true rfl⟩) (As := [.int x1, .int (0 : Int32), .int (r1 - (1 : Int32))]) (rest := [.ref (bM 0)]) rfl rfl hl.1 (Nat.le_of_ble_eq_true rfl) dX8_isWire_9 (k1 := 0) (n1 := 0) rfl rfl ⟨Nat.zero_le _, Nat.zero_le _⟩ (fun H locs hP hD hS => ?_)
    refine lv_iconst (v := (1 : Int32)) hx hb dX8_isWire_12 (by decide) ?_
    obtain ⟨r5, vM_6, hg7, hf⟩ := o2_at hf
    refine k_viW ⟨hx, hb, hml, hown, htu⟩ hK hP hD hS hA hG (c_X8_right l g bM vM r3 (1 : Int32) r5 vM_6 hg7) (cwV 2 htu (gU_V mw_5_166 hcX8_right) rfl rfl rfl hdX8_right ⟨Nat.le_of_ble_eq_true rfl, Nat.le_of_ble_eq_true rfl⟩) (q0 := 0) (ci := 8) (fs := fcM bM vM) (q := (RX8, TX8, 23)) rfl rfl rfl (As := [.int r3, .int (1 : Int32)]) (rest := []) rfl rfl hl.1 (Nat.le_of_ble_eq_true rfl) dX8_isWire_13 (k1 := 0) (n1 := 0) rfl rfl ⟨Nat.zero_le _, Nat.zero_le _⟩ (fun H locs hP hD hS => ?_)
    obtain ⟨h8, hf⟩ := gd_isB hf
    obtain ⟨e9, e10⟩ := kp_2 hf
    rw [e10] at hP hD
    exact k_zret hx hb hr hlocks hK hP hD hS e9 h8 dX8_isWire_16
  rw [hH, hlo] at hW
  exact hW
def f_X8_isFault (vM : Vs) (x1 : Int32) : Option (Int32 × Vs) :=
  o1 (f_X8_faults vM) (fun (r1 : Int32) => o1 (f_X8_isIn x1 (0 : Int32) (r1 - (1 : Int32))) (fun (r3 : Int32) => o2 (f_X8_right vM r3 (1 : Int32)) (fun (r5 : Int32) (vM_6 : Vs) => gd (isB r5) (some (r5, vM_6)))))
abbrev wsX8_isFault : List Cond := .code yX8_isFault cX8_isFault 2 (some .boolean) :: UW
abbrev rmX8_isFault : Room := { frames := 3, cells := 0, slots := 0, locals := 61 }
set_option maxHeartbeats 4000000 in
set_option maxRecDepth 100000 in
theorem c_X8_isFault (l : Launch) (g : Gx) (bM : Nat → Nat) (vM : Vs) (x1 : Int32) (r : Int32) (vM1 : Vs) (hf : f_X8_isFault vM x1 = some (r, vM1)) : CtI l yX8_isFault wsX8_isFault rmX8_isFault g [.ref (bM 0), .int x1] (cM g bM vM) (cM g bM vM1) r 0 0 := by
  unfold CtI
  intro sz
  refine Met.ofW (cc := cX8_isFault) (maxL := 2) (ret := (some .boolean)) (by decide) rfl ?_
  intro p e s m args below meth c s₁ B hml hv
  obtain ⟨rfl, hsz, hP, hK, hD0, hG⟩ := hv
  have hx := B.exec
  have hb := B.bytes
  have hr := B.returns
  have hts := atoms_spec (ws := wsX8_isFault) B.pre
  have hown : s.vm.findClass RX8 = some m.cls := findClass_of_methodNamed B.named
  have hlocks := B.notSynchronized
  subst hsz
  have hD := hD0.self (sz := s.heap.size)
  generalize hAe : va_A (cM g bM vM) s.heap.size = A at hD hG ⊢
  have hA : ∀ q : Nat, s.heap.size ≤ q → A q := fun q h => by rw [← hAe]; exact Or.inr h
  clear hAe hD0
  have hS : va_S A s.heap s.heap [] := va_S.rf
  have hl := lv_entry ([.ref (bM 0), .int x1]) (n := 2) (Nat.le_of_ble_eq_true rfl)
  rw [lg_entry_eq]
  generalize (lg_sl ([.ref (bM 0), .int x1]) ++ List.replicate (2 - (lg_sl ([.ref (bM 0), .int x1])).length) Slot.unset).toArray = ls at hl ⊢
  have hl : lv_has ls 2 [(0, .ref (bM 0)), (1, .int x1)] := hl
  have htu : ∀ w ∈ UW, w.before _ s = true := fun w h => hts w (List.mem_cons_of_mem _ h)
  unfold f_X8_isFault at hf
  obtain ⟨H, hH⟩ : ∃ z, z = s.heap := ⟨_, rfl⟩
  obtain ⟨locs, hlo⟩ : ∃ z : List Loc, z = [] := ⟨_, rfl⟩
  have hS : va_S A s.heap H locs := by rw [hH, hlo]; exact hS
  rw [← hH] at hP
  have hW : W p l e (headSpec wsX8_isFault rmX8_isFault).room s m ([.ref (bM 0), .int x1] : List Value).toArray below meth c H locs 0 0 (MQ below (qI g A (cM g bM vM1) r) ([.ref (bM 0), .int x1] : List Value).toArray s 0 0 A) (F0 m 0 ls []) := by
    refine lv_aload_n hx hb dX8_isFault_0 rfl (lv_at hl 0 rfl) ?_
    refine lv_iload_n hx hb dX8_isFault_1 rfl (lv_at hl 1 rfl) ?_
    refine lv_iconst (v := (0 : Int32)) hx hb dX8_isFault_2 (by decide) ?_
    refine lv_aload_n hx hb dX8_isFault_3 rfl (lv_at hl 0 rfl) ?_
    obtain ⟨r1, hg2, hf⟩ := o1_at hf
    refine k_viW ⟨hx, hb, hml, hown, htu⟩ hK hP hD hS hA hG (c_X8_faults l g bM vM r1 hg2) (cwV 0 htu (gU_V mw_6_44 hcX8_faults) rfl rfl rfl hdX8_faults ⟨Nat.le_of_ble_eq_true rfl, Nat.le_of_ble_eq_true rfl⟩) (q0 := 0) (ci := 8) (fs := fcM bM vM) (q := (RX8, TX8, 23)) rfl rfl rfl (As := []) (rest := [.int (0 : Int32), .int x1, .ref (bM 0)]) rfl rfl hl.1 (Nat.le_of_ble_eq_true rfl) dX8_isFault_4 (k1 := 0) (n1 := 0) rfl rfl ⟨Nat.zero_le _, Nat.zero_le _⟩ (fun H locs hP hD hS => ?_)
    refine lv_iconst (v := (1 : Int32)) hx hb dX8_isFault_7 (by decide) ?_
    refine lv_isub hx hb dX8_isFault_8 ?_
    obtain ⟨r3, hg4, hf⟩ := o1_at hf
    refine k_si0 ⟨hx, hb, hml, hown, htu⟩ hK hP hD hS hA hG (c_X8_isIn l g x1 (0 : Int32) (r1 - (1 : Int32)) r3 hg4) (va_cwS 3 htu (gU_S mw_5_163 hcX8_isIn) rfl rfl rfl hdX8_isIn ⟨Nat.le_of_ble_eq_true rfl, Nat.le_of_ble_eq_true rfl⟩) (As := [.int x1, .int (0 : Int32), .int (r1 - (1 : Int32))]) (rest := [.ref (bM 0)]) rfl rfl hl.1 (Nat.le_of_ble_eq_true rfl) dX8_isFault_9 (k1 := 0) (n1 := 0) rfl rfl ⟨Nat.zero_le _, Nat.zero_le _⟩ (fun H locs hP hD hS => ?_)
    refine lv_iconst (v := (1 : Int32)) hx hb dX8_isFault_12 (by decide) ?_
    obtain ⟨r5, vM_6, hg7, hf⟩ := o2_at hf
    refine k_viW ⟨hx, hb, hml, hown, htu⟩ hK hP hD hS hA hG (c_X8_right l g bM vM r3 (1 : Int32) r5 vM_6 hg7) (cwV 2 htu (gU_V mw_5_166 hcX8_right) rfl rfl rfl hdX8_right ⟨Nat.le_of_ble_eq_true rfl, Nat.le_of_ble_eq_true rfl⟩) (q0 := 0) (ci := 8) (fs := fcM bM vM) (q := (RX8, TX8, 23)) rfl rfl rfl (As := [.int r3, .int (1 : Int32)]) (rest := []) rfl rfl hl.1 (Nat.le_of_ble_eq_true rfl) dX8_isFault_13 (k1 := 0) (n1 := 0) rfl rfl ⟨Nat.zero_le _, Nat.zero_le _⟩ (fun H locs hP hD hS => ?_)
    obtain ⟨h8, hf⟩ := gd_isB hf
    obtain ⟨e9, e10⟩ := kp_2 hf
    rw [e10] at hP hD
    exact k_zret hx hb hr hlocks hK hP hD hS e9 h8 dX8_isFault_16
  rw [hH, hlo] at hW
  exact hW
