def f_X8_kindHere (vM : Vs) : Option (Int32 × Vs) :=
  o2 (f_X8_takes vM 1) (fun (r1 : Int32) (vM_2 : Vs) => jn (fun (t4 : Int32) (vM_5 : Vs) => some (t4, vM_5)) (fun k6 => if r1 = 0 then o2 (f_X8_takes vM_2 16) (fun (r12 : Int32) (vM_13 : Vs) => if r12 = 0 then o2 (f_X8_takes vM_13 9) (fun (r16 : Int32) (vM_17 : Vs) => if r16 = 0 then o2 (f_X8_takes vM_17 11) (fun (r20 : Int32) (vM_21 : Vs) => if r20 = 0 then o2 (f_X8_takes vM_21 25) (fun (r24 : Int32) (vM_25 : Vs) => if r24 = 0 then o2 (f_X8_takes vM_25 24) (fun (r28 : Int32) (vM_29 : Vs) => if r28 = 0 then o2 (f_X8_takes vM_29 12) (fun (r32 : Int32) (vM_33 : Vs) => if r32 = 0 then o2 (f_X8_takes vM_33 3) (fun (r36 : Int32) (vM_37 : Vs) => if r36 = 0 then o2 (f_X8_takes vM_37 8) (fun (r40 : Int32) (vM_41 : Vs) => if r40 = 0 then k6 (-1 : Int32) vM_41 else k6 (8 : Int32) vM_41) else k6 (7 : Int32) vM_37) else k6 (6 : Int32) vM_33) else k6 (5 : Int32) vM_29) else k6 (4 : Int32) vM_25) else k6 (3 : Int32) vM_21) else k6 (2 : Int32) vM_17) else k6 (1 : Int32) vM_13) else k6 (0 : Int32) vM_2))
abbrev wsX8_kindHere : List Cond := .code yX8_kindHere cX8_kindHere 1 (some .int) :: UW
abbrev rmX8_kindHere : Room := { frames := 5, cells := 0, slots := 0, locals := 108 }
set_option maxHeartbeats 4000000 in
set_option maxRecDepth 100000 in
theorem c_X8_kindHere (l : Launch) (g : Gx) (bM : Nat → Nat) (vM : Vs) (r : Int32) (vM1 : Vs) (hf : f_X8_kindHere vM = some (r, vM1)) : CtI l yX8_kindHere wsX8_kindHere rmX8_kindHere g [.ref (bM 0)] (cM g bM vM) (cM g bM vM1) r 0 0 := by
  unfold CtI
  intro sz
  refine Met.ofW (cc := cX8_kindHere) (maxL := 1) (ret := (some .int)) (by decide) rfl ?_
  intro p e s m args below meth c s₁ B hml hv
  obtain ⟨rfl, hsz, hP, hK, hD0, hG⟩ := hv
  have hx := B.exec
  have hb := B.bytes
  have hr := B.returns
  have hts := atoms_spec (ws := wsX8_kindHere) B.pre
  have hown : s.vm.findClass RX8 = some m.cls := findClass_of_methodNamed B.named
  have hlocks := B.notSynchronized
  subst hsz
  have hD := hD0.self (sz := s.heap.size)
  generalize hAe : va_A (cM g bM vM) s.heap.size = A at hD hG ⊢
  have hA : ∀ q : Nat, s.heap.size ≤ q → A q := fun q h => by rw [← hAe]; exact Or.inr h
  clear hAe hD0
  have hS : va_S A s.heap s.heap [] := va_S.rf
  have hl := lv_entry ([.ref (bM 0)]) (n := 1) (Nat.le_of_ble_eq_true rfl)
  rw [lg_entry_eq]
  generalize (lg_sl ([.ref (bM 0)]) ++ List.replicate (1 - (lg_sl ([.ref (bM 0)])).length) Slot.unset).toArray = ls at hl ⊢
  have hl : lv_has ls 1 [(0, .ref (bM 0))] := hl
  have htu : ∀ w ∈ UW, w.before _ s = true := fun w h => hts w (List.mem_cons_of_mem _ h)
  unfold f_X8_kindHere at hf
  obtain ⟨H, hH⟩ : ∃ z, z = s.heap := ⟨_, rfl⟩
  obtain ⟨locs, hlo⟩ : ∃ z : List Loc, z = [] := ⟨_, rfl⟩
  have hS : va_S A s.heap H locs := by rw [hH, hlo]; exact hS
  rw [← hH] at hP
  have hW : W p l e (headSpec wsX8_kindHere rmX8_kindHere).room s m ([.ref (bM 0)] : List Value).toArray below meth c H locs 0 0 (MQ below (qI g A (cM g bM vM1) r) ([.ref (bM 0)] : List Value).toArray s 0 0 A) (F0 m 0 ls []) := by
    refine lv_aload_n hx hb dX8_kindHere_0 rfl (lv_at hl 0 rfl) ?_
    refine va_ldcS hx hb hown (tx := "and") (q := adK g 1) (hG.1.1 ("FaultTestsModel", 194, "and", 1) (List.mem_of_getElem? (i := 28) rfl)) dX8_kindHere_1 ?_
    obtain ⟨r1, vM_2, hg3, hf⟩ := o2_at hf
    refine k_viW ⟨hx, hb, hml, hown, htu⟩ hK hP hD hS hA hG (c_X8_takes l g bM vM 1 (by decide) r1 vM_2 hg3) (cwV 1 htu (gU_V mw_5_175 hcX8_takes) rfl rfl rfl hdX8_takes ⟨Nat.le_of_ble_eq_true rfl, Nat.le_of_ble_eq_true rfl⟩) (q0 := 0) (ci := 8) (fs := fcM bM vM) (q := (RX8, TX8, 23)) rfl rfl rfl (As := [.ref (adK g 1)]) (rest := []) rfl rfl hl.1 (Nat.le_of_ble_eq_true rfl) dX8_kindHere_3 (k1 := 0) (n1 := 0) rfl rfl ⟨Nat.zero_le _, Nat.zero_le _⟩ (fun H locs hP hD hS => ?_)
    obtain ⟨k6, hk10, hf⟩ := jn_at hf
    have hJ7 : ∀ (t4 : Int32) (vM_5 : Vs), k6 t4 vM_5 = some (r, vM1) → ∀ (H : Heap) (locs : List Loc), va_P g.1 vwCl (cM g bM vM_5) H → va_D A (cM g bM vM_5) → va_S A s.heap H locs → ∀ ls : Array Slot, lv_has ls 1 [] → W p l e (headSpec wsX8_kindHere rmX8_kindHere).room s m ([.ref (bM 0)] : List Value).toArray below meth c H locs 0 0 (MQ below (qI g A (cM g bM vM1) r) ([.ref (bM 0)] : List Value).toArray s 0 0 A) (F0 m 121 ls [.int t4]) := by
      intro t4 vM_5 hf H locs hP hD hS ls hl
      rw [hk10] at hf
      dsimp only at hf
      clear hk10
      obtain ⟨e8, e9⟩ := kp_2 hf
      rw [e9] at hP hD
      exact k_iret hx hb hr hlocks hK hP hD hS e8 dX8_kindHere_121
    refine lv_if_eq (tgt := 13) hx hb dX8_kindHere_6 (by decide) (fun c11 => ?_) (fun c11 => ?_)
    · have hf := it_t hf c11
      refine lv_aload_n hx hb dX8_kindHere_13 rfl (lv_at hl 0 rfl) ?_
      refine va_ldcS hx hb hown (tx := "or") (q := adK g 16) (hG.1.1 ("FaultTestsModel", 200, "or", 16) (List.mem_of_getElem? (i := 29) rfl)) dX8_kindHere_14 ?_
      obtain ⟨r12, vM_13, hg14, hf⟩ := o2_at hf
      refine k_viW ⟨hx, hb, hml, hown, htu⟩ hK hP hD hS hA hG (c_X8_takes l g bM vM_2 16 (by decide) r12 vM_13 hg14) (cwV 1 htu (gU_V mw_5_175 hcX8_takes) rfl rfl rfl hdX8_takes ⟨Nat.le_of_ble_eq_true rfl, Nat.le_of_ble_eq_true rfl⟩) (q0 := 0) (ci := 8) (fs := fcM bM vM_2) (q := (RX8, TX8, 23)) rfl rfl rfl (As := [.ref (adK g 16)]) (rest := []) rfl rfl hl.1 (Nat.le_of_ble_eq_true rfl) dX8_kindHere_16 (k1 := 0) (n1 := 0) rfl rfl ⟨Nat.zero_le _, Nat.zero_le _⟩ (fun H locs hP hD hS => ?_)
      refine lv_if_eq (tgt := 26) hx hb dX8_kindHere_19 (by decide) (fun c15 => ?_) (fun c15 => ?_)
      · have hf := it_t hf c15
        refine lv_aload_n hx hb dX8_kindHere_26 rfl (lv_at hl 0 rfl) ?_
        refine va_ldcS hx hb hown (tx := "nand") (q := adK g 9) (hG.1.1 ("FaultTestsModel", 202, "nand", 9) (List.mem_of_getElem? (i := 30) rfl)) dX8_kindHere_27 ?_
        obtain ⟨r16, vM_17, hg18, hf⟩ := o2_at hf
        refine k_viW ⟨hx, hb, hml, hown, htu⟩ hK hP hD hS hA hG (c_X8_takes l g bM vM_13 9 (by decide) r16 vM_17 hg18) (cwV 1 htu (gU_V mw_5_175 hcX8_takes) rfl rfl rfl hdX8_takes ⟨Nat.le_of_ble_eq_true rfl, Nat.le_of_ble_eq_true rfl⟩) (q0 := 0) (ci := 8) (fs := fcM bM vM_13) (q := (RX8, TX8, 23)) rfl rfl rfl (As := [.ref (adK g 9)]) (rest := []) rfl rfl hl.1 (Nat.le_of_ble_eq_true rfl) dX8_kindHere_29 (k1 := 0) (n1 := 0) rfl rfl ⟨Nat.zero_le _, Nat.zero_le _⟩ (fun H locs hP hD hS => ?_)
        refine lv_if_eq (tgt := 39) hx hb dX8_kindHere_32 (by decide) (fun c19 => ?_) (fun c19 => ?_)
        · have hf := it_t hf c19
          refine lv_aload_n hx hb dX8_kindHere_39 rfl (lv_at hl 0 rfl) ?_
          refine va_ldcS hx hb hown (tx := "nor") (q := adK g 11) (hG.1.1 ("FaultTestsModel", 204, "nor", 11) (List.mem_of_getElem? (i := 31) rfl)) dX8_kindHere_40 ?_
          obtain ⟨r20, vM_21, hg22, hf⟩ := o2_at hf
          refine k_viW ⟨hx, hb, hml, hown, htu⟩ hK hP hD hS hA hG (c_X8_takes l g bM vM_17 11 (by decide) r20 vM_21 hg22) (cwV 1 htu (gU_V mw_5_175 hcX8_takes) rfl rfl rfl hdX8_takes ⟨Nat.le_of_ble_eq_true rfl, Nat.le_of_ble_eq_true rfl⟩) (q0 := 0) (ci := 8) (fs := fcM bM vM_17) (q := (RX8, TX8, 23)) rfl rfl rfl (As := [.ref (adK g 11)]) (rest := []) rfl rfl hl.1 (Nat.le_of_ble_eq_true rfl) dX8_kindHere_42 (k1 := 0) (n1 := 0) rfl rfl ⟨Nat.zero_le _, Nat.zero_le _⟩ (fun H locs hP hD hS => ?_)
          refine lv_if_eq (tgt := 52) hx hb dX8_kindHere_45 (by decide) (fun c23 => ?_) (fun c23 => ?_)
          · have hf := it_t hf c23
            refine lv_aload_n hx hb dX8_kindHere_52 rfl (lv_at hl 0 rfl) ?_
            refine va_ldcS hx hb hown (tx := "xor") (q := adK g 25) (hG.1.1 ("FaultTestsModel", 206, "xor", 25) (List.mem_of_getElem? (i := 32) rfl)) dX8_kindHere_53 ?_
            obtain ⟨r24, vM_25, hg26, hf⟩ := o2_at hf
            refine k_viW ⟨hx, hb, hml, hown, htu⟩ hK hP hD hS hA hG (c_X8_takes l g bM vM_21 25 (by decide) r24 vM_25 hg26) (cwV 1 htu (gU_V mw_5_175 hcX8_takes) rfl rfl rfl hdX8_takes ⟨Nat.le_of_ble_eq_true rfl, Nat.le_of_ble_eq_true rfl⟩) (q0 := 0) (ci := 8) (fs := fcM bM vM_21) (q := (RX8, TX8, 23)) rfl rfl rfl (As := [.ref (adK g 25)]) (rest := []) rfl rfl hl.1 (Nat.le_of_ble_eq_true rfl) dX8_kindHere_55 (k1 := 0) (n1 := 0) rfl rfl ⟨Nat.zero_le _, Nat.zero_le _⟩ (fun H locs hP hD hS => ?_)
            refine lv_if_eq (tgt := 65) hx hb dX8_kindHere_58 (by decide) (fun c27 => ?_) (fun c27 => ?_)
            · have hf := it_t hf c27
              refine lv_aload_n hx hb dX8_kindHere_65 rfl (lv_at hl 0 rfl) ?_
              refine va_ldcS hx hb hown (tx := "xnor") (q := adK g 24) (hG.1.1 ("FaultTestsModel", 208, "xnor", 24) (List.mem_of_getElem? (i := 33) rfl)) dX8_kindHere_66 ?_
              obtain ⟨r28, vM_29, hg30, hf⟩ := o2_at hf
              refine k_viW ⟨hx, hb, hml, hown, htu⟩ hK hP hD hS hA hG (c_X8_takes l g bM vM_25 24 (by decide) r28 vM_29 hg30) (cwV 1 htu (gU_V mw_5_175 hcX8_takes) rfl rfl rfl hdX8_takes ⟨Nat.le_of_ble_eq_true rfl, Nat.le_of_ble_eq_true rfl⟩) (q0 := 0) (ci := 8) (fs := fcM bM vM_25) (q := (RX8, TX8, 23)) rfl rfl rfl (As := [.ref (adK g 24)]) (rest := []) rfl rfl hl.1 (Nat.le_of_ble_eq_true rfl) dX8_kindHere_68 (k1 := 0) (n1 := 0) rfl rfl ⟨Nat.zero_le _, Nat.zero_le _⟩ (fun H locs hP hD hS => ?_)
              refine lv_if_eq (tgt := 78) hx hb dX8_kindHere_71 (by decide) (fun c31 => ?_) (fun c31 => ?_)
              · have hf := it_t hf c31
                refine lv_aload_n hx hb dX8_kindHere_78 rfl (lv_at hl 0 rfl) ?_
                refine va_ldcS hx hb hown (tx := "not") (q := adK g 12) (hG.1.1 ("FaultTestsModel", 210, "not", 12) (List.mem_of_getElem? (i := 34) rfl)) dX8_kindHere_79 ?_
                obtain ⟨r32, vM_33, hg34, hf⟩ := o2_at hf
                refine k_viW ⟨hx, hb, hml, hown, htu⟩ hK hP hD hS hA hG (c_X8_takes l g bM vM_29 12 (by decide) r32 vM_33 hg34) (cwV 1 htu (gU_V mw_5_175 hcX8_takes) rfl rfl rfl hdX8_takes ⟨Nat.le_of_ble_eq_true rfl, Nat.le_of_ble_eq_true rfl⟩) (q0 := 0) (ci := 8) (fs := fcM bM vM_29) (q := (RX8, TX8, 23)) rfl rfl rfl (As := [.ref (adK g 12)]) (rest := []) rfl rfl hl.1 (Nat.le_of_ble_eq_true rfl) dX8_kindHere_81 (k1 := 0) (n1 := 0) rfl rfl ⟨Nat.zero_le _, Nat.zero_le _⟩ (fun H locs hP hD hS => ?_)
                refine lv_if_eq (tgt := 92) hx hb dX8_kindHere_84 (by decide) (fun c35 => ?_) (fun c35 => ?_)
                · have hf := it_t hf c35
                  refine lv_aload_n hx hb dX8_kindHere_92 rfl (lv_at hl 0 rfl) ?_
                  refine va_ldcS hx hb hown (tx := "buf") (q := adK g 3) (hG.1.1 ("FaultTestsModel", 212, "buf", 3) (List.mem_of_getElem? (i := 35) rfl)) dX8_kindHere_93 ?_
                  obtain ⟨r36, vM_37, hg38, hf⟩ := o2_at hf
                  refine k_viW ⟨hx, hb, hml, hown, htu⟩ hK hP hD hS hA hG (c_X8_takes l g bM vM_33 3 (by decide) r36 vM_37 hg38) (cwV 1 htu (gU_V mw_5_175 hcX8_takes) rfl rfl rfl hdX8_takes ⟨Nat.le_of_ble_eq_true rfl, Nat.le_of_ble_eq_true rfl⟩) (q0 := 0) (ci := 8) (fs := fcM bM vM_33) (q := (RX8, TX8, 23)) rfl rfl rfl (As := [.ref (adK g 3)]) (rest := []) rfl rfl hl.1 (Nat.le_of_ble_eq_true rfl) dX8_kindHere_95 (k1 := 0) (n1 := 0) rfl rfl ⟨Nat.zero_le _, Nat.zero_le _⟩ (fun H locs hP hD hS => ?_)
                  refine lv_if_eq (tgt := 106) hx hb dX8_kindHere_98 (by decide) (fun c39 => ?_) (fun c39 => ?_)
                  · have hf := it_t hf c39
                    refine lv_aload_n hx hb dX8_kindHere_106 rfl (lv_at hl 0 rfl) ?_
                    refine va_ldcS hx hb hown (tx := "mux") (q := adK g 8) (hG.1.1 ("FaultTestsModel", 214, "mux", 8) (List.mem_of_getElem? (i := 36) rfl)) dX8_kindHere_107 ?_
                    obtain ⟨r40, vM_41, hg42, hf⟩ := o2_at hf
                    refine k_viW ⟨hx, hb, hml, hown, htu⟩ hK hP hD hS hA hG (c_X8_takes l g bM vM_37 8 (by decide) r40 vM_41 hg42) (cwV 1 htu (gU_V mw_5_175 hcX8_takes) rfl rfl rfl hdX8_takes ⟨Nat.le_of_ble_eq_true rfl, Nat.le_of_ble_eq_true rfl⟩) (q0 := 0) (ci := 8) (fs := fcM bM vM_37) (q := (RX8, TX8, 23)) rfl rfl rfl (As := [.ref (adK g 8)]) (rest := []) rfl rfl hl.1 (Nat.le_of_ble_eq_true rfl) dX8_kindHere_109 (k1 := 0) (n1 := 0) rfl rfl ⟨Nat.zero_le _, Nat.zero_le _⟩ (fun H locs hP hD hS => ?_)
                    refine lv_if_eq (tgt := 120) hx hb dX8_kindHere_112 (by decide) (fun c43 => ?_) (fun c43 => ?_)
                    · have hf := it_t hf c43
                      refine lv_iconst (v := (-1 : Int32)) hx hb dX8_kindHere_120 (by decide) ?_
                      exact hJ7 (-1 : Int32) vM_41 hf H locs hP hD hS _ (lv_sub hl [] rfl)
                    · have hf := it_f hf c43
                      refine lv_bipush (v := (8 : Int32)) hx hb dX8_kindHere_115 (by decide) ?_
                      refine lv_goto (tgt := 121) hx hb dX8_kindHere_117 (by decide) ?_
                      exact hJ7 (8 : Int32) vM_41 hf H locs hP hD hS _ (lv_sub hl [] rfl)
                  · have hf := it_f hf c39
                    refine lv_bipush (v := (7 : Int32)) hx hb dX8_kindHere_101 (by decide) ?_
                    refine lv_goto (tgt := 121) hx hb dX8_kindHere_103 (by decide) ?_
                    exact hJ7 (7 : Int32) vM_37 hf H locs hP hD hS _ (lv_sub hl [] rfl)
                · have hf := it_f hf c35
                  refine lv_bipush (v := (6 : Int32)) hx hb dX8_kindHere_87 (by decide) ?_
                  refine lv_goto (tgt := 121) hx hb dX8_kindHere_89 (by decide) ?_
                  exact hJ7 (6 : Int32) vM_33 hf H locs hP hD hS _ (lv_sub hl [] rfl)
              · have hf := it_f hf c31
                refine lv_iconst (v := (5 : Int32)) hx hb dX8_kindHere_74 (by decide) ?_
                refine lv_goto (tgt := 121) hx hb dX8_kindHere_75 (by decide) ?_
                exact hJ7 (5 : Int32) vM_29 hf H locs hP hD hS _ (lv_sub hl [] rfl)
            · have hf := it_f hf c27
              refine lv_iconst (v := (4 : Int32)) hx hb dX8_kindHere_61 (by decide) ?_
              refine lv_goto (tgt := 121) hx hb dX8_kindHere_62 (by decide) ?_
              exact hJ7 (4 : Int32) vM_25 hf H locs hP hD hS _ (lv_sub hl [] rfl)
          · have hf := it_f hf c23
            refine lv_iconst (v := (3 : Int32)) hx hb dX8_kindHere_48 (by decide) ?_
            refine lv_goto (tgt := 121) hx hb dX8_kindHere_49 (by decide) ?_
            exact hJ7 (3 : Int32) vM_21 hf H locs hP hD hS _ (lv_sub hl [] rfl)
        · have hf := it_f hf c19
          refine lv_iconst (v := (2 : Int32)) hx hb dX8_kindHere_35 (by decide) ?_
          refine lv_goto (tgt := 121) hx hb dX8_kindHere_36 (by decide) ?_
          exact hJ7 (2 : Int32) vM_17 hf H locs hP hD hS _ (lv_sub hl [] rfl)
      · have hf := it_f hf c15
        refine lv_iconst (v := (1 : Int32)) hx hb dX8_kindHere_22 (by decide) ?_
        refine lv_goto (tgt := 121) hx hb dX8_kindHere_23 (by decide) ?_
        exact hJ7 (1 : Int32) vM_13 hf H locs hP hD hS _ (lv_sub hl [] rfl)
    · have hf := it_f hf c11
      refine lv_iconst (v := (0 : Int32)) hx hb dX8_kindHere_9 (by decide) ?_
      refine lv_goto (tgt := 121) hx hb dX8_kindHere_10 (by decide) ?_
      exact hJ7 (0 : Int32) vM_2 hf H locs hP hD hS _ (lv_sub hl [] rfl)
  rw [hH, hlo] at hW
  exact hW
