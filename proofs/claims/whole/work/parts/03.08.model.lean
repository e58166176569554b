def f_X8_readsBridge (vM : Vs) (x1 : Int32) : Option (Int32 × Vs) :=
  gd (inb (3 : Int32) 440) (if (vM.2.1 2 ((3 : Int32)).toNatClampNeg) = (8 : Int32) then o2 (f_X8_fails vM (-6 : Int32) x1) (fun (r70 : Int32) (vM_71 : Vs) => gd (isB r70) (some (r70, vM_71))) else o2 (f_X8_takes vM 1) (fun (r3 : Int32) (vM_4 : Vs) => jn (fun (t6 : Int32) (vM_7 : Vs) => if t6 = (-1 : Int32) then o2 (f_X8_fails vM_7 (-2 : Int32) (vM_7.1 14)) (fun (r58 : Int32) (vM_59 : Vs) => gd (isB r58) (some (r58, vM_59))) else o2 (f_X8_readsWire vM_7) (fun (r11 : Int32) (vM_12 : Vs) => if r11 = 0 then gd (isB (0 : Int32)) (some ((0 : Int32), vM_12)) else o2 (f_X8_readsWire vM_12) (fun (r15 : Int32) (vM_16 : Vs) => if r15 = 0 then gd (isB (0 : Int32)) (some ((0 : Int32), vM_16)) else jn (fun (vM_19 : Vs) => o2 (f_X8_fails vM_19 (-5 : Int32) (vM_19.1 18)) (fun (r22 : Int32) (vM_23 : Vs) => gd (isB r22) (some (r22, vM_23)))) (fun k20 => if (vM_12.1 17) = (vM_16.1 17) then k20 vM_16 else o2 (f_X8_dependsOn vM_16 (vM_12.1 17) (vM_16.1 17)) (fun (r30 : Int32) (vM_31 : Vs) => if r30 = 0 then o2 (f_X8_dependsOn vM_31 (vM_31.1 17) (vM_12.1 17)) (fun (r34 : Int32) (vM_35 : Vs) => if r34 = 0 then gd (inb (3 : Int32) 440) (bn (((158 : Int32) + ((3 : Int32) * (vM_35.2.1 2 ((3 : Int32)).toNatClampNeg)))) (fun (y39 : Int32) => gd (inb y39 440) (bn (sI vM_35 2 (y39).toNatClampNeg t6) (fun (vM_41 : Vs) => gd (inb (y39 + (1 : Int32)) 440) (bn (sI vM_41 2 ((y39 + (1 : Int32))).toNatClampNeg (vM_12.1 17)) (fun (vM_43 : Vs) => gd (inb (y39 + (2 : Int32)) 440) (bn (sI vM_43 2 ((y39 + (2 : Int32))).toNatClampNeg (vM_43.1 17)) (fun (vM_45 : Vs) => gd (inb (3 : Int32) 440) (gd (inb (3 : Int32) 440) (bn (sI vM_45 2 ((3 : Int32)).toNatClampNeg ((vM_45.2.1 2 ((3 : Int32)).toNatClampNeg) + (1 : Int32))) (fun (vM_48 : Vs) => gd (isB (1 : Int32)) (some ((1 : Int32), vM_48))))))))))))) else k20 vM_35) else k20 vM_31))))) (fun k8 => if r3 = 0 then o2 (f_X8_takes vM_4 16) (fun (r66 : Int32) (vM_67 : Vs) => if r66 = 0 then k8 (-1 : Int32) vM_67 else k8 (1 : Int32) vM_67) else k8 (0 : Int32) vM_4)))
abbrev wsX8_readsBridge : List Cond := .code yX8_readsBridge cX8_readsBridge 5 (some .boolean) :: UW
abbrev rmX8_readsBridge : Room := { frames := 5, cells := 0, slots := 0, locals := 108 }
set_option maxHeartbeats 4000000 in
set_option maxRecDepth 100000 in
theorem c_X8_readsBridge (l : Launch) (g : Gx) (bM : Nat → Nat) (vM : Vs) (x1 : Int32) (r : Int32) (vM1 : Vs) (hf : f_X8_readsBridge vM x1 = some (r, vM1)) : CtI l yX8_readsBridge wsX8_readsBridge rmX8_readsBridge g [.ref (bM 0), .int x1] (cM g bM vM) (cM g bM vM1) r 0 0 := by
  unfold CtI
  intro sz
  refine Met.ofW (cc := cX8_readsBridge) (maxL := 5) (ret := (some .boolean)) (by decide) rfl ?_
  intro p e s m args below meth c s₁ B hml hv
  obtain ⟨rfl, hsz, hP, hK, hD0, hG⟩ := hv
  have hx := B.exec
  have hb := B.bytes
  have hr := B.returns
  have hts := atoms_spec (ws := wsX8_readsBridge) B.pre
  have hown : s.vm.findClass RX8 = some m.cls := findClass_of_methodNamed B.named
  have hlocks := B.notSynchronized
  subst hsz
  have hD := hD0.self (sz := s.heap.size)
  generalize hAe : va_A (cM g bM vM) s.heap.size = A at hD hG ⊢
  have hA : ∀ q : Nat, s.heap.size ≤ q → A q := fun q h => by rw [← hAe]; exact Or.inr h
  clear hAe hD0
  have hS : va_S A s.heap s.heap [] := va_S.rf
  have hl := lv_entry ([.ref (bM 0), .int x1]) (n := 5) (Nat.le_of_ble_eq_true rfl)
  rw [lg_entry_eq]
  generalize (lg_sl ([.ref (bM 0), .int x1]) ++ List.replicate (5 - (lg_sl ([.ref (bM 0), .int x1])).length) Slot.unset).toArray = ls at hl ⊢
  have hl : lv_has ls 5 [(0, .ref (bM 0)), (1, .int x1)] := hl
  have htu : ∀ w ∈ UW, w.before _ s = true := fun w h => hts w (List.mem_cons_of_mem _ h)
  have k_5_74 := htu _ mw_5_74
  have k_5_89 := htu _ mw_5_89
  have k_5_90 := htu _ mw_5_90
  have k_5_86 := htu _ mw_5_86
  unfold f_X8_readsBridge at hf
  obtain ⟨H, hH⟩ : ∃ z, z = s.heap := ⟨_, rfl⟩
  obtain ⟨locs, hlo⟩ : ∃ z : List Loc, z = [] := ⟨_, rfl⟩
  have hS : va_S A s.heap H locs := by rw [hH, hlo]; exact hS
  rw [← hH] at hP
  have hW : W p l e (headSpec wsX8_readsBridge rmX8_readsBridge).room s m ([.ref (bM 0), .int x1] : List Value).toArray below meth c H locs 0 0 (MQ below (qI g A (cM g bM vM1) r) ([.ref (bM 0), .int x1] : List Value).toArray s 0 0 A) (F0 m 0 ls []) := by
    refine lv_aload_n hx hb dX8_readsBridge_0 rfl (lv_at hl 0 rfl) ?_
    refine va_get (D := g.1) (ci := 8) (fs := fcM bM vM) (v := .ref (bM 3)) (C := RX8) (T := TX8) (N := 23) hx hb htu hinX8 hown hK hP 0 rfl rfl 2 (by decide) k_5_74 (fun _ h9 => h9) rfl dX8_readsBridge_1 ?_
    refine lv_iconst (v := (3 : Int32)) hx hb dX8_readsBridge_4 (by decide) ?_
    obtain ⟨h1, hf⟩ := gd_in hf
    refine va_iald (D := g.1) (f := (vM.2.1 2)) hx hb hK hP 2 0 rfl rfl h1 dX8_readsBridge_5 ?_
    refine lv_bipush (v := (8 : Int32)) hx hb dX8_readsBridge_6 (by decide) ?_
    refine lv_icmp_ne (tgt := 19) hx hb dX8_readsBridge_8 (by decide) (fun c2 => ?_) (fun c2 => ?_)
    · have hf := it_f hf c2
      refine lv_aload_n hx hb dX8_readsBridge_19 rfl (lv_at hl 0 rfl) ?_
      refine va_ldcS hx hb hown (tx := "and") (q := adK g 1) (hG.1.1 ("FaultTestsModel", 194, "and", 1) (List.mem_of_getElem? (i := 28) rfl)) dX8_readsBridge_20 ?_
      obtain ⟨r3, vM_4, hg5, hf⟩ := o2_at hf
      refine k_viW ⟨hx, hb, hml, hown, htu⟩ hK hP hD hS hA hG (c_X8_takes l g bM vM 1 (by decide) r3 vM_4 hg5) (cwV 1 htu (gU_V mw_5_175 hcX8_takes) rfl rfl rfl hdX8_takes ⟨Nat.le_of_ble_eq_true rfl, Nat.le_of_ble_eq_true rfl⟩) (q0 := 0) (ci := 8) (fs := fcM bM vM) (q := (RX8, TX8, 23)) rfl rfl rfl (As := [.ref (adK g 1)]) (rest := []) rfl rfl hl.1 (Nat.le_of_ble_eq_true rfl) dX8_readsBridge_22 (k1 := 0) (n1 := 0) rfl rfl ⟨Nat.zero_le _, Nat.zero_le _⟩ (fun H locs hP hD hS => ?_)
      obtain ⟨k8, hk64, hf⟩ := jn_at hf
      have hJ9 : ∀ (t6 : Int32) (vM_7 : Vs), k8 t6 vM_7 = some (r, vM1) → ∀ (H : Heap) (locs : List Loc), va_P g.1 vwCl (cM g bM vM_7) H → va_D A (cM g bM vM_7) → va_S A s.heap H locs → ∀ ls : Array Slot, lv_has ls 5 [(0, .ref (bM 0))] → W p l e (headSpec wsX8_readsBridge rmX8_readsBridge).room s m ([.ref (bM 0), .int x1] : List Value).toArray below meth c H locs 0 0 (MQ below (qI g A (cM g bM vM1) r) ([.ref (bM 0), .int x1] : List Value).toArray s 0 0 A) (F0 m 46 ls [.int t6]) := by
        intro t6 vM_7 hf H locs hP hD hS ls hl
        rw [hk64] at hf
        dsimp only at hf
        clear hk64
        refine lv_istore_n (lv' := [(2, .int t6), (0, .ref (bM 0))]) hx hb dX8_readsBridge_46 rfl hl (by decide) rfl (fun ls hl => ?_)
        refine lv_iload_n hx hb dX8_readsBridge_47 rfl (lv_at hl 0 rfl) ?_
        refine lv_iconst (v := (-1 : Int32)) hx hb dX8_readsBridge_48 (by decide) ?_
        refine lv_icmp_ne (tgt := 63) hx hb dX8_readsBridge_49 (by decide) (fun c10 => ?_) (fun c10 => ?_)
        · have hf := it_f hf c10
          refine lv_aload_n hx hb dX8_readsBridge_63 rfl (lv_at hl 1 rfl) ?_
          obtain ⟨r11, vM_12, hg13, hf⟩ := o2_at hf
          refine k_viW ⟨hx, hb, hml, hown, htu⟩ hK hP hD hS hA hG (c_X8_readsWire l g bM vM_7 r11 vM_12 hg13) (cwV 0 htu (gU_V mw_5_232 hcX8_readsWire) rfl rfl rfl hdX8_readsWire ⟨Nat.le_of_ble_eq_true rfl, Nat.le_of_ble_eq_true rfl⟩) (q0 := 0) (ci := 8) (fs := fcM bM vM_7) (q := (RX8, TX8, 23)) rfl rfl rfl (As := []) (rest := []) rfl rfl hl.1 (Nat.le_of_ble_eq_true rfl) dX8_readsBridge_64 (k1 := 0) (n1 := 0) rfl rfl ⟨Nat.zero_le _, Nat.zero_le _⟩ (fun H locs hP hD hS => ?_)
          refine lv_if_ne (tgt := 72) hx hb dX8_readsBridge_67 (by decide) (fun c14 => ?_) (fun c14 => ?_)
          · have hf := it_f hf c14
            refine lv_aload_n hx hb dX8_readsBridge_72 rfl (lv_at hl 1 rfl) ?_
            refine va_get (D := g.1) (ci := 8) (fs := fcM bM vM_12) (v := .int (vM_12.1 17)) (C := RX8) (T := TX8) (N := 23) hx hb htu hinX8 hown hK hP 0 rfl rfl 17 (by decide) k_5_89 (fun _ h9 => h9) rfl dX8_readsBridge_73 ?_
            refine lv_istore_n (lv' := [(3, .int (vM_12.1 17)), (2, .int t6), (0, .ref (bM 0))]) hx hb dX8_readsBridge_76 rfl hl (by decide) rfl (fun ls hl => ?_)
            refine lv_aload_n hx hb dX8_readsBridge_77 rfl (lv_at hl 2 rfl) ?_
            obtain ⟨r15, vM_16, hg17, hf⟩ := o2_at hf
            refine k_viW ⟨hx, hb, hml, hown, htu⟩ hK hP hD hS hA hG (c_X8_readsWire l g bM vM_12 r15 vM_16 hg17) (cwV 0 htu (gU_V mw_5_232 hcX8_readsWire) rfl rfl rfl hdX8_readsWire ⟨Nat.le_of_ble_eq_true rfl, Nat.le_of_ble_eq_true rfl⟩) (q0 := 0) (ci := 8) (fs := fcM bM vM_12) (q := (RX8, TX8, 23)) rfl rfl rfl (As := []) (rest := []) rfl rfl hl.1 (Nat.le_of_ble_eq_true rfl) dX8_readsBridge_78 (k1 := 0) (n1 := 0) rfl rfl ⟨Nat.zero_le _, Nat.zero_le _⟩ (fun H locs hP hD hS => ?_)
            refine lv_if_ne (tgt := 86) hx hb dX8_readsBridge_81 (by decide) (fun c18 => ?_) (fun c18 => ?_)
            · have hf := it_f hf c18
              refine lv_iload_n hx hb dX8_readsBridge_86 rfl (lv_at hl 0 rfl) ?_
              refine lv_aload_n hx hb dX8_readsBridge_87 rfl (lv_at hl 2 rfl) ?_
              refine va_get (D := g.1) (ci := 8) (fs := fcM bM vM_16) (v := .int (vM_16.1 17)) (C := RX8) (T := TX8) (N := 23) hx hb htu hinX8 hown hK hP 0 rfl rfl 17 (by decide) k_5_89 (fun _ h9 => h9) rfl dX8_readsBridge_88 ?_
              obtain ⟨k20, hk28, hf⟩ := jn_at hf
              have hJ21 : ∀ (vM_19 : Vs), k20 vM_19 = some (r, vM1) → ∀ (H : Heap) (locs : List Loc), va_P g.1 vwCl (cM g bM vM_19) H → va_D A (cM g bM vM_19) → va_S A s.heap H locs → ∀ ls : Array Slot, lv_has ls 5 [(0, .ref (bM 0))] → W p l e (headSpec wsX8_readsBridge rmX8_readsBridge).room s m ([.ref (bM 0), .int x1] : List Value).toArray below meth c H locs 0 0 (MQ below (qI g A (cM g bM vM1) r) ([.ref (bM 0), .int x1] : List Value).toArray s 0 0 A) (F0 m 118 ls []) := by
                intro vM_19 hf H locs hP hD hS ls hl
                rw [hk28] at hf
                dsimp only at hf
                clear hk28
                refine lv_aload_n hx hb dX8_readsBridge_118 rfl (lv_at hl 0 rfl) ?_
                refine lv_bipush (v := (-5 : Int32)) hx hb dX8_readsBridge_119 (by decide) ?_
                refine lv_aload_n hx hb dX8_readsBridge_121 rfl (lv_at hl 0 rfl) ?_
                refine va_get (D := g.1) (ci := 8) (fs := fcM bM vM_19) (v := .int (vM_19.1 18)) (C := RX8) (T := TX8) (N := 23) hx hb htu hinX8 hown hK hP 0 rfl rfl 18 (by decide) k_5_90 (fun _ h9 => h9) rfl dX8_readsBridge_122 ?_
                obtain ⟨r22, vM_23, hg24, hf⟩ := o2_at hf
                refine k_viW ⟨hx, hb, hml, hown, htu⟩ hK hP hD hS hA hG (c_X8_fails l g bM vM_19 (-5 : Int32) (vM_19.1 18) r22 vM_23 hg24) (cwV 2 htu (gU_V mw_5_188 hcX8_fails) rfl rfl rfl hdX8_fails ⟨Nat.le_of_ble_eq_true rfl, Nat.le_of_ble_eq_true rfl⟩) (q0 := 0) (ci := 8) (fs := fcM bM vM_19) (q := (RX8, TX8, 23)) rfl rfl rfl (As := [.int (-5 : Int32), .int (vM_19.1 18)]) (rest := []) rfl rfl hl.1 (Nat.le_of_ble_eq_true rfl) dX8_readsBridge_125 (k1 := 0) (n1 := 0) rfl rfl ⟨Nat.zero_le _, Nat.zero_le _⟩ (fun H locs hP hD hS => ?_)
                obtain ⟨h25, hf⟩ := gd_isB hf
                obtain ⟨e26, e27⟩ := kp_2 hf
                rw [e27] at hP hD
                exact k_zret hx hb hr hlocks hK hP hD hS e26 h25 dX8_readsBridge_128
              refine lv_icmp_eq (tgt := 118) hx hb dX8_readsBridge_91 (by decide) (fun c29 => ?_) (fun c29 => ?_)
              · have hf := it_t hf c29
                exact hJ21 vM_16 hf H locs hP hD hS _ (lv_sub hl [2] rfl)
              · have hf := it_f hf c29
                refine lv_aload_n hx hb dX8_readsBridge_94 rfl (lv_at hl 2 rfl) ?_
                refine lv_iload_n hx hb dX8_readsBridge_95 rfl (lv_at hl 0 rfl) ?_
                refine lv_aload_n hx hb dX8_readsBridge_96 rfl (lv_at hl 2 rfl) ?_
                refine va_get (D := g.1) (ci := 8) (fs := fcM bM vM_16) (v := .int (vM_16.1 17)) (C := RX8) (T := TX8) (N := 23) hx hb htu hinX8 hown hK hP 0 rfl rfl 17 (by decide) k_5_89 (fun _ h9 => h9) rfl dX8_readsBridge_97 ?_
                obtain ⟨r30, vM_31, hg32, hf⟩ := o2_at hf
                refine k_viW ⟨hx, hb, hml, hown, htu⟩ hK hP hD hS hA hG (c_X8_dependsOn l g bM vM_16 (vM_12.1 17) (vM_16.1 17) r30 vM_31 hg32) (cwV 2 htu (gU_V mw_6_6 hcX8_dependsOn) rfl rfl rfl hdX8_dependsOn ⟨Nat.le_of_ble_eq_true rfl, Nat.le_of_ble_eq_true rfl⟩) (q0 := 0) (ci := 8) (fs := fcM bM vM_16) (q := (RX8, TX8, 23)) rfl rfl rfl (As := [.int (vM_12.1 17), .int (vM_16.1 17)]) (rest := []) rfl rfl hl.1 (Nat.le_of_ble_eq_true rfl) dX8_readsBridge_100 (k1 := 0) (n1 := 0) rfl rfl ⟨Nat.zero_le _, Nat.zero_le _⟩ (fun H locs hP hD hS => ?_)
                refine lv_if_ne (tgt := 118) hx hb dX8_readsBridge_103 (by decide) (fun c33 => ?_) (fun c33 => ?_)
                · have hf := it_f hf c33
                  exact hJ21 vM_31 hf H locs hP hD hS _ (lv_sub hl [2] rfl)
                · have hf := it_t hf c33
                  refine lv_aload_n hx hb dX8_readsBridge_106 rfl (lv_at hl 2 rfl) ?_
                  refine lv_aload_n hx hb dX8_readsBridge_107 rfl (lv_at hl 2 rfl) ?_
                  refine va_get (D := g.1) (ci := 8) (fs := fcM bM vM_31) (v := .int (vM_31.1 17)) (C := RX8) (T := TX8) (N := 23) hx hb htu hinX8 hown hK hP 0 rfl rfl 17 (by decide) k_5_89 (fun _ h9 => h9) rfl dX8_readsBridge_108 ?_
                  refine lv_iload_n hx hb dX8_readsBridge_111 rfl (lv_at hl 0 rfl) ?_
                  obtain ⟨r34, vM_35, hg36, hf⟩ := o2_at hf
                  refine k_viW ⟨hx, hb, hml, hown, htu⟩ hK hP hD hS hA hG (c_X8_dependsOn l g bM vM_31 (vM_31.1 17) (vM_12.1 17) r34 vM_35 hg36) (cwV 2 htu (gU_V mw_6_6 hcX8_dependsOn) rfl rfl rfl hdX8_dependsOn ⟨Nat.le_of_ble_eq_true rfl, Nat.le_of_ble_eq_true rfl⟩) (q0 := 0) (ci := 8) (fs := fcM bM vM_31) (q := (RX8, TX8, 23)) rfl rfl rfl (As := [.int (vM_31.1 17), .int (vM_12.1 17)]) (rest := []) rfl rfl hl.1 (Nat.le_of_ble_eq_true rfl) dX8_readsBridge_112 (k1 := 0) (n1 := 0) rfl rfl ⟨Nat.zero_le _, Nat.zero_le _⟩ (fun H locs hP hD hS => ?_)
                  refine lv_if_eq (tgt := 129) hx hb dX8_readsBridge_115 (by decide) (fun c37 => ?_) (fun c37 => ?_)
                  · have hf := it_t hf c37
                    refine lv_sipush (v := (158 : Int32)) hx hb dX8_readsBridge_129 (by decide) ?_
                    refine lv_iconst (v := (3 : Int32)) hx hb dX8_readsBridge_132 (by decide) ?_
                    refine lv_aload_n hx hb dX8_readsBridge_133 rfl (lv_at hl 2 rfl) ?_
                    refine va_get (D := g.1) (ci := 8) (fs := fcM bM vM_35) (v := .ref (bM 3)) (C := RX8) (T := TX8) (N := 23) hx hb htu hinX8 hown hK hP 0 rfl rfl 2 (by decide) k_5_74 (fun _ h9 => h9) rfl dX8_readsBridge_134 ?_
                    refine lv_iconst (v := (3 : Int32)) hx hb dX8_readsBridge_137 (by decide) ?_
                    obtain ⟨h38, hf⟩ := gd_in hf
                    refine va_iald (D := g.1) (f := (vM_35.2.1 2)) hx hb hK hP 2 0 rfl rfl h38 dX8_readsBridge_138 ?_
                    refine lv_imul hx hb dX8_readsBridge_139 ?_
                    refine lv_iadd hx hb dX8_readsBridge_140 ?_
                    refine lv_topi (fun y39 ey39 => ?_)
                    have hf := bn_at hf ey39
                    refine lv_istore (lv' := [(4, .int y39), (3, .int (vM_12.1 17)), (2, .int t6), (0, .ref (bM 0))]) hx hb dX8_readsBridge_141 hl (by decide) rfl (fun ls hl => ?_)
                    refine lv_aload_n hx hb dX8_readsBridge_143 rfl (lv_at hl 3 rfl) ?_
                    refine va_get (D := g.1) (ci := 8) (fs := fcM bM vM_35) (v := .ref (bM 3)) (C := RX8) (T := TX8) (N := 23) hx hb htu hinX8 hown hK hP 0 rfl rfl 2 (by decide) k_5_74 (fun _ h9 => h9) rfl dX8_readsBridge_144 ?_
                    refine lv_iload hx hb dX8_readsBridge_147 (lv_at hl 0 rfl) ?_
                    refine lv_iload_n hx hb dX8_readsBridge_149 rfl (lv_at hl 2 rfl) ?_
                    obtain ⟨h40, hf⟩ := gd_in hf
                    refine va_iast (D := g.1) (f := (vM_35.2.1 2)) hx hb hK hP hD hS 2 0 rfl rfl h40 dX8_readsBridge_150 (fun H locs hP hD hS => ?_)
                    obtain ⟨vM_41, evM_41⟩ : ∃ z, z = sI vM_35 2 (y39).toNatClampNeg t6 := ⟨_, rfl⟩
                    have hf := bn_at hf evM_41
                    have hP : va_P g.1 vwCl (cM g bM vM_41) H := by rw [evM_41]; exact hP
                    have hD : va_D A (cM g bM vM_41) := by rw [evM_41]; exact hD
                    refine lv_aload_n hx hb dX8_readsBridge_151 rfl (lv_at hl 3 rfl) ?_
                    refine va_get (D := g.1) (ci := 8) (fs := fcM bM vM_41) (v := .ref (bM 3)) (C := RX8) (T := TX8) (N := 23) hx hb htu hinX8 hown hK hP 0 rfl rfl 2 (by decide) k_5_74 (fun _ h9 => h9) rfl dX8_readsBridge_152 ?_
                    refine lv_iload hx hb dX8_readsBridge_155 (lv_at hl 0 rfl) ?_
                    refine lv_iconst (v := (1 : Int32)) hx hb dX8_readsBridge_157 (by decide) ?_
                    refine lv_iadd hx hb dX8_readsBridge_158 ?_
                    refine lv_iload_n hx hb dX8_readsBridge_159 rfl (lv_at hl 1 rfl) ?_
                    obtain ⟨h42, hf⟩ := gd_in hf
                    refine va_iast (D := g.1) (f := (vM_41.2.1 2)) hx hb hK hP hD hS 2 0 rfl rfl h42 dX8_readsBridge_160 (fun H locs hP hD hS => ?_)
                    obtain ⟨vM_43, evM_43⟩ : ∃ z, z = sI vM_41 2 ((y39 + (1 : Int32))).toNatClampNeg (vM_12.1 17) := ⟨_, rfl⟩
                    have hf := bn_at hf evM_43
                    have hP : va_P g.1 vwCl (cM g bM vM_43) H := by rw [evM_43]; exact hP
                    have hD : va_D A (cM g bM vM_43) := by rw [evM_43]; exact hD
                    refine lv_aload_n hx hb dX8_readsBridge_161 rfl (lv_at hl 3 rfl) ?_
                    refine va_get (D := g.1) (ci := 8) (fs := fcM bM vM_43) (v := .ref (bM 3)) (C := RX8) (T := TX8) (N := 23) hx hb htu hinX8 hown hK hP 0 rfl rfl 2 (by decide) k_5_74 (fun _ h9 => h9) rfl dX8_readsBridge_162 ?_
                    refine lv_iload hx hb dX8_readsBridge_165 (lv_at hl 0 rfl) ?_
                    refine lv_iconst (v := (2 : Int32)) hx hb dX8_readsBridge_167 (by decide) ?_
                    refine lv_iadd hx hb dX8_readsBridge_168 ?_
                    refine lv_aload_n hx hb dX8_readsBridge_169 rfl (lv_at hl 3 rfl) ?_
                    refine va_get (D := g.1) (ci := 8) (fs := fcM bM vM_43) (v := .int (vM_43.1 17)) (C := RX8) (T := TX8) (N := 23) hx hb htu hinX8 hown hK hP 0 rfl rfl 17 (by decide) k_5_89 (fun _ h9 => h9) rfl dX8_readsBridge_170 ?_
                    obtain ⟨h44, hf⟩ := gd_in hf
                    refine va_iast (D := g.1) (f := (vM_43.2.1 2)) hx hb hK hP hD hS 2 0 rfl rfl h44 dX8_readsBridge_173 (fun H locs hP hD hS => ?_)
                    obtain ⟨vM_45, evM_45⟩ : ∃ z, z = sI vM_43 2 ((y39 + (2 : Int32))).toNatClampNeg (vM_43.1 17) := ⟨_, rfl⟩
                    have hf := bn_at hf evM_45
                    have hP : va_P g.1 vwCl (cM g bM vM_45) H := by rw [evM_45]; exact hP
                    have hD : va_D A (cM g bM vM_45) := by rw [evM_45]; exact hD
                    refine lv_aload_n hx hb dX8_readsBridge_174 rfl (lv_at hl 3 rfl) ?_
                    refine va_get (D := g.1) (ci := 8) (fs := fcM bM vM_45) (v := .ref (bM 3)) (C := RX8) (T := TX8) (N := 23) hx hb htu hinX8 hown hK hP 0 rfl rfl 2 (by decide) k_5_74 (fun _ h9 => h9) rfl dX8_readsBridge_175 ?_
                    refine lv_iconst (v := (3 : Int32)) hx hb dX8_readsBridge_178 (by decide) ?_
                    refine lv_dup2_11 hx hb dX8_readsBridge_179 rfl rfl ?_
                    obtain ⟨h46, hf⟩ := gd_in hf
                    refine va_iald (D := g.1) (f := (vM_45.2.1 2)) hx hb hK hP 2 0 rfl rfl h46 dX8_readsBridge_180 ?_
                    refine lv_iconst (v := (1 : Int32)) hx hb dX8_readsBridge_181 (by decide) ?_
                    refine lv_iadd hx hb dX8_readsBridge_182 ?_
                    obtain ⟨h47, hf⟩ := gd_in hf
                    refine va_iast (D := g.1) (f := (vM_45.2.1 2)) hx hb hK hP hD hS 2 0 rfl rfl h47 dX8_readsBridge_183 (fun H locs hP hD hS => ?_)
                    obtain ⟨vM_48, evM_48⟩ : ∃ z, z = sI vM_45 2 ((3 : Int32)).toNatClampNeg ((vM_45.2.1 2 ((3 : Int32)).toNatClampNeg) + (1 : Int32)) := ⟨_, rfl⟩
                    have hf := bn_at hf evM_48
                    have hP : va_P g.1 vwCl (cM g bM vM_48) H := by rw [evM_48]; exact hP
                    have hD : va_D A (cM g bM vM_48) := by rw [evM_48]; exact hD
                    refine lv_iconst (v := (1 : Int32)) hx hb dX8_readsBridge_184 (by decide) ?_
                    obtain ⟨h49, hf⟩ := gd_isB hf
                    obtain ⟨e50, e51⟩ := kp_2 hf
                    rw [e51] at hP hD
                    exact k_zret hx hb hr hlocks hK hP hD hS e50 h49 dX8_readsBridge_185
                  · have hf := it_f hf c37
                    exact hJ21 vM_35 hf H locs hP hD hS _ (lv_sub hl [2] rfl)
            · have hf := it_t hf c18
              refine lv_iconst (v := (0 : Int32)) hx hb dX8_readsBridge_84 (by decide) ?_
              obtain ⟨h52, hf⟩ := gd_isB hf
              obtain ⟨e53, e54⟩ := kp_2 hf
              rw [e54] at hP hD
              exact k_zret hx hb hr hlocks hK hP hD hS e53 h52 dX8_readsBridge_85
          · have hf := it_t hf c14
            refine lv_iconst (v := (0 : Int32)) hx hb dX8_readsBridge_70 (by decide) ?_
            obtain ⟨h55, hf⟩ := gd_isB hf
            obtain ⟨e56, e57⟩ := kp_2 hf
            rw [e57] at hP hD
            exact k_zret hx hb hr hlocks hK hP hD hS e56 h55 dX8_readsBridge_71
        · have hf := it_t hf c10
          refine lv_aload_n hx hb dX8_readsBridge_52 rfl (lv_at hl 1 rfl) ?_
          refine lv_bipush (v := (-2 : Int32)) hx hb dX8_readsBridge_53 (by decide) ?_
          refine lv_aload_n hx hb dX8_readsBridge_55 rfl (lv_at hl 1 rfl) ?_
          refine va_get (D := g.1) (ci := 8) (fs := fcM bM vM_7) (v := .int (vM_7.1 14)) (C := RX8) (T := TX8) (N := 23) hx hb htu hinX8 hown hK hP 0 rfl rfl 14 (by decide) k_5_86 (fun _ h9 => h9) rfl dX8_readsBridge_56 ?_
          obtain ⟨r58, vM_59, hg60, hf⟩ := o2_at hf
          refine k_viW ⟨hx, hb, hml, hown, htu⟩ hK hP hD hS hA hG (c_X8_fails l g bM vM_7 (-2 : Int32) (vM_7.1 14) r58 vM_59 hg60) (cwV 2 htu (gU_V mw_5_188 hcX8_fails) rfl rfl rfl hdX8_fails ⟨Nat.le_of_ble_eq_true rfl, Nat.le_of_ble_eq_true rfl⟩) (q0 := 0) (ci := 8) (fs := fcM bM vM_7) (q := (RX8, TX8, 23)) rfl rfl rfl (As := [.int (-2 : Int32), .int (vM_7.1 14)]) (rest := []) rfl rfl hl.1 (Nat.le_of_ble_eq_true rfl) dX8_readsBridge_59 (k1 := 0) (n1 := 0) rfl rfl ⟨Nat.zero_le _, Nat.zero_le _⟩ (fun H locs hP hD hS => ?_)
          obtain ⟨h61, hf⟩ := gd_isB hf
          obtain ⟨e62, e63⟩ := kp_2 hf
          rw [e63] at hP hD
          exact k_zret hx hb hr hlocks hK hP hD hS e62 h61 dX8_readsBridge_62
      refine lv_if_eq (tgt := 32) hx hb dX8_readsBridge_25 (by decide) (fun c65 => ?_) (fun c65 => ?_)
      · have hf := it_t hf c65
        refine lv_aload_n hx hb dX8_readsBridge_32 rfl (lv_at hl 0 rfl) ?_
        refine va_ldcS hx hb hown (tx := "or") (q := adK g 16) (hG.1.1 ("FaultTestsModel", 200, "or", 16) (List.mem_of_getElem? (i := 29) rfl)) dX8_readsBridge_33 ?_
        obtain ⟨r66, vM_67, hg68, hf⟩ := o2_at hf
        refine k_viW ⟨hx, hb, hml, hown, htu⟩ hK hP hD hS hA hG (c_X8_takes l g bM vM_4 16 (by decide) r66 vM_67 hg68) (cwV 1 htu (gU_V mw_5_175 hcX8_takes) rfl rfl rfl hdX8_takes ⟨Nat.le_of_ble_eq_true rfl, Nat.le_of_ble_eq_true rfl⟩) (q0 := 0) (ci := 8) (fs := fcM bM vM_4) (q := (RX8, TX8, 23)) rfl rfl rfl (As := [.ref (adK g 16)]) (rest := []) rfl rfl hl.1 (Nat.le_of_ble_eq_true rfl) dX8_readsBridge_35 (k1 := 0) (n1 := 0) rfl rfl ⟨Nat.zero_le _, Nat.zero_le _⟩ (fun H locs hP hD hS => ?_)
        refine lv_if_eq (tgt := 45) hx hb dX8_readsBridge_38 (by decide) (fun c69 => ?_) (fun c69 => ?_)
        · have hf := it_t hf c69
          refine lv_iconst (v := (-1 : Int32)) hx hb dX8_readsBridge_45 (by decide) ?_
          exact hJ9 (-1 : Int32) vM_67 hf H locs hP hD hS _ (lv_sub hl [0] rfl)
        · have hf := it_f hf c69
          refine lv_iconst (v := (1 : Int32)) hx hb dX8_readsBridge_41 (by decide) ?_
          refine lv_goto (tgt := 46) hx hb dX8_readsBridge_42 (by decide) ?_
          exact hJ9 (1 : Int32) vM_67 hf H locs hP hD hS _ (lv_sub hl [0] rfl)
      · have hf := it_f hf c65
        refine lv_iconst (v := (0 : Int32)) hx hb dX8_readsBridge_28 (by decide) ?_
        refine lv_goto (tgt := 46) hx hb dX8_readsBridge_29 (by decide) ?_
        exact hJ9 (0 : Int32) vM_4 hf H locs hP hD hS _ (lv_sub hl [0] rfl)
    · have hf := it_t hf c2
      refine lv_aload_n hx hb dX8_readsBridge_11 rfl (lv_at hl 0 rfl) ?_
      refine lv_bipush (v := (-6 : Int32)) hx hb dX8_readsBridge_12 (by decide) ?_
      refine lv_iload_n hx hb dX8_readsBridge_14 rfl (lv_at hl 1 rfl) ?_
      obtain ⟨r70, vM_71, hg72, hf⟩ := o2_at hf
      refine k_viW ⟨hx, hb, hml, hown, htu⟩ hK hP hD hS hA hG (c_X8_fails l g bM vM (-6 : Int32) x1 r70 vM_71 hg72) (cwV 2 htu (gU_V mw_5_188 hcX8_fails) rfl rfl rfl hdX8_fails ⟨Nat.le_of_ble_eq_true rfl, Nat.le_of_ble_eq_true rfl⟩) (q0 := 0) (ci := 8) (fs := fcM bM vM) (q := (RX8, TX8, 23)) rfl rfl rfl (As := [.int (-6 : Int32), .int x1]) (rest := []) rfl rfl hl.1 (Nat.le_of_ble_eq_true rfl) dX8_readsBridge_15 (k1 := 0) (n1 := 0) rfl rfl ⟨Nat.zero_le _, Nat.zero_le _⟩ (fun H locs hP hD hS => ?_)
      obtain ⟨h73, hf⟩ := gd_isB hf
      obtain ⟨e74, e75⟩ := kp_2 hf
      rw [e75] at hP hD
      exact k_zret hx hb hr hlocks hK hP hD hS e74 h73 dX8_readsBridge_18
  rw [hH, hlo] at hW
  exact hW
def f_X8_readsTest_L35 (y4 : Int32) (self7 : Int32 → Vs → Option (Int32 × Vs)) (x3_5 : Int32) (vM_6 : Vs) : Option (Int32 × Vs) :=
  gd (inb (0 : Int32) 440) (if (vM_6.2.1 2 ((0 : Int32)).toNatClampNeg) ≤ x3_5 then gd (inb (4 : Int32) 440) (gd (inb (4 : Int32) 440) (bn (sI vM_6 2 ((4 : Int32)).toNatClampNeg ((vM_6.2.1 2 ((4 : Int32)).toNatClampNeg) + (1 : Int32))) (fun (vM_14 : Vs) => gd (isB (1 : Int32)) (some ((1 : Int32), vM_14))))) else o2 (f_X8_takes vM_6 23) (fun (r18 : Int32) (vM_19 : Vs) => jn (fun (vM_21 : Vs) => jn (fun (t24 : Int32) => gd (inb (y4 + x3_5) 440) (bn (sI vM_21 2 ((y4 + x3_5)).toNatClampNeg t24) (fun (vM_28 : Vs) => self7 (x3_5 + (1 : Int32)) vM_28))) (fun k25 => if r18 = 0 then k25 (vM_21.1 17) else k25 (2 : Int32))) (fun k22 => if r18 = 0 then o2 (f_X8_reads vM_19 (0 : Int32) (1 : Int32)) (fun (r33 : Int32) (vM_34 : Vs) => if r33 = 0 then gd (isB (0 : Int32)) (some ((0 : Int32), vM_34)) else k22 vM_34) else k22 vM_19)))
def f_X8_readsTest (vM : Vs) (x1 : Int32) : Option (Int32 × Vs) :=
  gd (inb (4 : Int32) 440) (if (vM.2.1 2 ((4 : Int32)).toNatClampNeg) = (16 : Int32) then o2 (f_X8_fails vM (-6 : Int32) x1) (fun (r40 : Int32) (vM_41 : Vs) => gd (isB r40) (some (r40, vM_41))) else gd (inb (4 : Int32) 440) (bn (((182 : Int32) + ((8 : Int32) * (vM.2.1 2 ((4 : Int32)).toNatClampNeg)))) (fun (y4 : Int32) => lp (f_X8_readsTest_L35 y4) (fun _ _ => none) FU (0 : Int32) vM)))
abbrev wsX8_readsTest : List Cond := .code yX8_readsTest cX8_readsTest 5 (some .boolean) :: UW
abbrev rmX8_readsTest : Room := { frames := 5, cells := 0, slots := 0, locals := 108 }
set_option maxHeartbeats 4000000 in
set_option maxRecDepth 100000 in
theorem c_X8_readsTest (l : Launch) (g : Gx) (bM : Nat → Nat) (vM : Vs) (x1 : Int32) (r : Int32) (vM1 : Vs) (hf : f_X8_readsTest vM x1 = some (r, vM1)) : CtI l yX8_readsTest wsX8_readsTest rmX8_readsTest g [.ref (bM 0), .int x1] (cM g bM vM) (cM g bM vM1) r 0 0 := by
  unfold CtI
  intro sz
  refine Met.ofW (cc := cX8_readsTest) (maxL := 5) (ret := (some .boolean)) (by decide) rfl ?_
  intro p e s m args below meth c s₁ B hml hv
  obtain ⟨rfl, hsz, hP, hK, hD0, hG⟩ := hv
  have hx := B.exec
  have hb := B.bytes
  have hr := B.returns
  have hts := atoms_spec (ws := wsX8_readsTest) B.pre
  have hown : s.vm.findClass RX8 = some m.cls := findClass_of_methodNamed B.named
  have hlocks := B.notSynchronized
  subst hsz
  have hD := hD0.self (sz := s.heap.size)
  generalize hAe : va_A (cM g bM vM) s.heap.size = A at hD hG ⊢
  have hA : ∀ q : Nat, s.heap.size ≤ q → A q := fun q h => by rw [← hAe]; exact Or.inr h
  clear hAe hD0
  have hS : va_S A s.heap s.heap [] := va_S.rf
  have hl := lv_entry ([.ref (bM 0), .int x1]) (n := 5) (Nat.le_of_ble_eq_true rfl)
  rw [lg_entry_eq]
  generalize (lg_sl ([.ref (bM 0), .int x1]) ++ List.replicate (5 - (lg_sl ([.ref (bM 0), .int x1])).length) Slot.unset).toArray = ls at hl ⊢
  have hl : lv_has ls 5 [(0, .ref (bM 0)), (1, .int x1)] := hl
  have htu : ∀ w ∈ UW, w.before _ s = true := fun w h => hts w (List.mem_cons_of_mem _ h)
  have k_5_74 := htu _ mw_5_74
  have k_5_89 := htu _ mw_5_89
  unfold f_X8_readsTest at hf
  obtain ⟨H, hH⟩ : ∃ z, z = s.heap := ⟨_, rfl⟩
  obtain ⟨locs, hlo⟩ : ∃ z : List Loc, z = [] := ⟨_, rfl⟩
  have hS : va_S A s.heap H locs := by rw [hH, hlo]; exact hS
  rw [← hH] at hP
  have hW : W p l e (headSpec wsX8_readsTest rmX8_readsTest).room s m ([.ref (bM 0), .int x1] : List Value).toArray below meth c H locs 0 0 (MQ below (qI g A (cM g bM vM1) r) ([.ref (bM 0), .int x1] : List Value).toArray s 0 0 A) (F0 m 0 ls []) := by
    refine lv_aload_n hx hb dX8_readsTest_0 rfl (lv_at hl 0 rfl) ?_
    refine va_get (D := g.1) (ci := 8) (fs := fcM bM vM) (v := .ref (bM 3)) (C := RX8) (T := TX8) (N := 23) hx hb htu hinX8 hown hK hP 0 rfl rfl 2 (by decide) k_5_74 (fun _ h9 => h9) rfl dX8_readsTest_1 ?_
    refine lv_iconst (v := (4 : Int32)) hx hb dX8_readsTest_4 (by decide) ?_
    obtain ⟨h1, hf⟩ := gd_in hf
    refine va_iald (D := g.1) (f := (vM.2.1 2)) hx hb hK hP 2 0 rfl rfl h1 dX8_readsTest_5 ?_
    refine lv_bipush (v := (16 : Int32)) hx hb dX8_readsTest_6 (by decide) ?_
    refine lv_icmp_ne (tgt := 19) hx hb dX8_readsTest_8 (by decide) (fun c2 => ?_) (fun c2 => ?_)
    · have hf := it_f hf c2
      refine lv_sipush (v := (182 : Int32)) hx hb dX8_readsTest_19 (by decide) ?_
      refine lv_bipush (v := (8 : Int32)) hx hb dX8_readsTest_22 (by decide) ?_
      refine lv_aload_n hx hb dX8_readsTest_24 rfl (lv_at hl 0 rfl) ?_
      refine va_get (D := g.1) (ci := 8) (fs := fcM bM vM) (v := .ref (bM 3)) (C := RX8) (T := TX8) (N := 23) hx hb htu hinX8 hown hK hP 0 rfl rfl 2 (by decide) k_5_74 (fun _ h9 => h9) rfl dX8_readsTest_25 ?_
      refine lv_iconst (v := (4 : Int32)) hx hb dX8_readsTest_28 (by decide) ?_
      obtain ⟨h3, hf⟩ := gd_in hf
      refine va_iald (D := g.1) (f := (vM.2.1 2)) hx hb hK hP 2 0 rfl rfl h3 dX8_readsTest_29 ?_
      refine lv_imul hx hb dX8_readsTest_30 ?_
      refine lv_iadd hx hb dX8_readsTest_31 ?_
      refine lv_topi (fun y4 ey4 => ?_)
      have hf := bn_at hf ey4
      refine lv_istore_n (lv' := [(2, .int y4), (0, .ref (bM 0)), (1, .int x1)]) hx hb dX8_readsTest_32 rfl hl (by decide) rfl (fun ls hl => ?_)
      refine lv_iconst (v := (0 : Int32)) hx hb dX8_readsTest_33 (by decide) ?_
      refine lv_istore_n (lv' := [(3, .int (0 : Int32)), (2, .int y4), (0, .ref (bM 0)), (1, .int x1)]) hx hb dX8_readsTest_34 rfl hl (by decide) rfl (fun ls hl => ?_)
      have hL8 : ∀ (x3_5 : Int32) (vM_6 : Vs), lp (f_X8_readsTest_L35 y4) (fun _ _ => none) FU x3_5 vM_6 = some (r, vM1) → ∀ (H : Heap) (locs : List Loc), va_P g.1 vwCl (cM g bM vM_6) H → va_D A (cM g bM vM_6) → va_S A s.heap H locs → ∀ ls : Array Slot, lv_has ls 5 [(0, .ref (bM 0)), (2, .int y4), (3, .int x3_5)] → W p l e (headSpec wsX8_readsTest rmX8_readsTest).room s m ([.ref (bM 0), .int x1] : List Value).toArray below meth c H locs 0 0 (MQ below (qI g A (cM g bM vM1) r) ([.ref (bM 0), .int x1] : List Value).toArray s 0 0 A) (F0 m 35 ls []) := by
        refine lp_ind (T := Int32 → Vs → Option (Int32 × Vs)) (fun self7 => ∀ (x3_5 : Int32) (vM_6 : Vs), self7 x3_5 vM_6 = some (r, vM1) → ∀ (H : Heap) (locs : List Loc), va_P g.1 vwCl (cM g bM vM_6) H → va_D A (cM g bM vM_6) → va_S A s.heap H locs → ∀ ls : Array Slot, lv_has ls 5 [(0, .ref (bM 0)), (2, .int y4), (3, .int x3_5)] → W p l e (headSpec wsX8_readsTest rmX8_readsTest).room s m ([.ref (bM 0), .int x1] : List Value).toArray below meth c H locs 0 0 (MQ below (qI g A (cM g bM vM1) r) ([.ref (bM 0), .int x1] : List Value).toArray s 0 0 A) (F0 m 35 ls [])) ?_ ?_ FU
        · intro x3_5 vM_6 hf; cases hf
        · intro self7 ih9 x3_5 vM_6 hf H locs hP hD hS ls hl
          unfold f_X8_readsTest_L35 at hf
          refine lv_iload_n hx hb dX8_readsTest_35 rfl (lv_at hl 2 rfl) ?_
          refine lv_aload_n hx hb dX8_readsTest_36 rfl (lv_at hl 0 rfl) ?_
          refine va_get (D := g.1) (ci := 8) (fs := fcM bM vM_6) (v := .ref (bM 3)) (C := RX8) (T := TX8) (N := 23) hx hb htu hinX8 hown hK hP 0 rfl rfl 2 (by decide) k_5_74 (fun _ h9 => h9) rfl dX8_readsTest_37 ?_
          refine lv_iconst (v := (0 : Int32)) hx hb dX8_readsTest_40 (by decide) ?_
          obtain ⟨h10, hf⟩ := gd_in hf
          refine va_iald (D := g.1) (f := (vM_6.2.1 2)) hx hb hK hP 2 0 rfl rfl h10 dX8_readsTest_41 ?_
          refine lv_icmp_ge (tgt := 96) hx hb dX8_readsTest_42 (by decide) (fun c11 => ?_) (fun c11 => ?_)
          · have hf := it_t hf c11
            refine lv_aload_n hx hb dX8_readsTest_96 rfl (lv_at hl 0 rfl) ?_
            refine va_get (D := g.1) (ci := 8) (fs := fcM bM vM_6) (v := .ref (bM 3)) (C := RX8) (T := TX8) (N := 23) hx hb htu hinX8 hown hK hP 0 rfl rfl 2 (by decide) k_5_74 (fun _ h9 => h9) rfl dX8_readsTest_97 ?_
            refine lv_iconst (v := (4 : Int32)) hx hb dX8_readsTest_100 (by decide) ?_
            refine lv_dup2_11 hx hb dX8_readsTest_101 rfl rfl ?_
            obtain ⟨h12, hf⟩ := gd_in hf
            refine va_iald (D := g.1) (f := (vM_6.2.1 2)) hx hb hK hP 2 0 rfl rfl h12 dX8_readsTest_102 ?_
            refine lv_iconst (v := (1 : Int32)) hx hb dX8_readsTest_103 (by decide) ?_
            refine lv_iadd hx hb dX8_readsTest_104 ?_
            obtain ⟨h13, hf⟩ := gd_in hf
            refine va_iast (D := g.1) (f := (vM_6.2.1 2)) hx hb hK hP hD hS 2 0 rfl rfl h13 dX8_readsTest_105 (fun H locs hP hD hS => ?_)
            obtain ⟨vM_14, evM_14⟩ : ∃ z, z = sI vM_6 2 ((4 : Int32)).toNatClampNeg ((vM_6.2.1 2 ((4 : Int32)).toNatClampNeg) + (1 : Int32)) := ⟨_, rfl⟩
            have hf := bn_at hf evM_14
            have hP : va_P g.1 vwCl (cM g bM vM_14) H := by rw [evM_14]; exact hP
            have hD : va_D A (cM g bM vM_14) := by rw [evM_14]; exact hD
            refine lv_iconst (v := (1 : Int32)) hx hb dX8_readsTest_106 (by decide) ?_
            obtain ⟨h15, hf⟩ := gd_isB hf
            obtain ⟨e16, e17⟩ := kp_2 hf
            rw [e17] at hP hD
            exact k_zret hx hb hr hlocks hK hP hD hS e16 h15 dX8_readsTest_107
          · have hf := it_f hf c11
            refine lv_aload_n hx hb dX8_readsTest_45 rfl (lv_at hl 0 rfl) ?_
            refine va_ldcS hx hb hown (tx := "x") (q := adK g 23) (hG.1.1 ("FaultTestsModel", 232, "x", 23) (List.mem_of_getElem? (i := 37) rfl)) dX8_readsTest_46 ?_
            obtain ⟨r18, vM_19, hg20, hf⟩ := o2_at hf
            refine k_viW ⟨hx, hb, hml, hown, htu⟩ hK hP hD hS hA hG (c_X8_takes l g bM vM_6 23 (by decide) r18 vM_19 hg20) (cwV 1 htu (gU_V mw_5_175 hcX8_takes) rfl rfl rfl hdX8_takes ⟨Nat.le_of_ble_eq_true rfl, Nat.le_of_ble_eq_true rfl⟩) (q0 := 0) (ci := 8) (fs := fcM bM vM_6) (q := (RX8, TX8, 23)) rfl rfl rfl (As := [.ref (adK g 23)]) (rest := []) rfl rfl hl.1 (Nat.le_of_ble_eq_true rfl) dX8_readsTest_48 (k1 := 0) (n1 := 0) rfl rfl ⟨Nat.zero_le _, Nat.zero_le _⟩ (fun H locs hP hD hS => ?_)
            refine lv_istore (lv' := [(4, .int r18), (0, .ref (bM 0)), (2, .int y4), (3, .int x3_5)]) hx hb dX8_readsTest_51 hl (by decide) rfl (fun ls hl => ?_)
            refine lv_iload hx hb dX8_readsTest_53 (lv_at hl 0 rfl) ?_
            obtain ⟨k22, hk31, hf⟩ := jn_at hf
            have hJ23 : ∀ (vM_21 : Vs), k22 vM_21 = some (r, vM1) → ∀ (H : Heap) (locs : List Loc), va_P g.1 vwCl (cM g bM vM_21) H → va_D A (cM g bM vM_21) → va_S A s.heap H locs → ∀ ls : Array Slot, lv_has ls 5 [(0, .ref (bM 0)), (2, .int y4), (3, .int x3_5), (4, .int r18)] → W p l e (headSpec wsX8_readsTest rmX8_readsTest).room s m ([.ref (bM 0), .int x1] : List Value).toArray below meth c H locs 0 0 (MQ below (qI g A (cM g bM vM1) r) ([.ref (bM 0), .int x1] : List Value).toArray s 0 0 A) (F0 m 69 ls []) := by
              intro vM_21 hf H locs hP hD hS ls hl
              rw [hk31] at hf
              dsimp only at hf
              clear hk31
              refine lv_aload_n hx hb dX8_readsTest_69 rfl (lv_at hl 0 rfl) ?_
              refine va_get (D := g.1) (ci := 8) (fs := fcM bM vM_21) (v := .ref (bM 3)) (C := RX8) (T := TX8) (N := 23) hx hb htu hinX8 hown hK hP 0 rfl rfl 2 (by decide) k_5_74 (fun _ h9 => h9) rfl dX8_readsTest_70 ?_
              refine lv_iload_n hx hb dX8_readsTest_73 rfl (lv_at hl 1 rfl) ?_
              refine lv_iload_n hx hb dX8_readsTest_74 rfl (lv_at hl 2 rfl) ?_
              refine lv_iadd hx hb dX8_readsTest_75 ?_
              refine lv_iload hx hb dX8_readsTest_76 (lv_at hl 3 rfl) ?_
              obtain ⟨k25, hk29, hf⟩ := jn_at hf
              have hJ26 : ∀ (t24 : Int32), k25 t24 = some (r, vM1) → ∀ (H : Heap) (locs : List Loc), va_P g.1 vwCl (cM g bM vM_21) H → va_D A (cM g bM vM_21) → va_S A s.heap H locs → ∀ ls : Array Slot, lv_has ls 5 [(0, .ref (bM 0)), (2, .int y4), (3, .int x3_5)] → W p l e (headSpec wsX8_readsTest rmX8_readsTest).room s m ([.ref (bM 0), .int x1] : List Value).toArray below meth c H locs 0 0 (MQ below (qI g A (cM g bM vM1) r) ([.ref (bM 0), .int x1] : List Value).toArray s 0 0 A) (F0 m 89 ls [.int t24, .int (y4 + x3_5), .ref (bM 3)]) := by
                intro t24 hf H locs hP hD hS ls hl
                rw [hk29] at hf
                dsimp only at hf
                clear hk29
                obtain ⟨h27, hf⟩ := gd_in hf
                refine va_iast (D := g.1) (f := (vM_21.2.1 2)) hx hb hK hP hD hS 2 0 rfl rfl h27 dX8_readsTest_89 (fun H locs hP hD hS => ?_)
                obtain ⟨vM_28, evM_28⟩ : ∃ z, z = sI vM_21 2 ((y4 + x3_5)).toNatClampNeg t24 := ⟨_, rfl⟩
                have hf := bn_at hf evM_28
                have hP : va_P g.1 vwCl (cM g bM vM_28) H := by rw [evM_28]; exact hP
                have hD : va_D A (cM g bM vM_28) := by rw [evM_28]; exact hD
                refine lv_iinc (v := (x3_5 + (1 : Int32))) (lv' := [(3, .int (x3_5 + (1 : Int32))), (0, .ref (bM 0)), (2, .int y4)]) hx hb dX8_readsTest_90 hl (k := 2) rfl rfl (by decide) rfl (fun ls hl => ?_)
                refine lv_goto (tgt := 35) hx hb dX8_readsTest_93 (by decide) ?_
                exact ih9 (x3_5 + (1 : Int32)) vM_28 hf H locs hP hD hS _ (lv_sub hl [1, 2, 0] rfl)
              refine lv_if_eq (tgt := 85) hx hb dX8_readsTest_78 (by decide) (fun c30 => ?_) (fun c30 => ?_)
              · have hf := it_t hf c30
                refine lv_aload_n hx hb dX8_readsTest_85 rfl (lv_at hl 0 rfl) ?_
                refine va_get (D := g.1) (ci := 8) (fs := fcM bM vM_21) (v := .int (vM_21.1 17)) (C := RX8) (T := TX8) (N := 23) hx hb htu hinX8 hown hK hP 0 rfl rfl 17 (by decide) k_5_89 (fun _ h9 => h9) rfl dX8_readsTest_86 ?_
                exact hJ26 (vM_21.1 17) hf H locs hP hD hS _ (lv_sub hl [0, 1, 2] rfl)
              · have hf := it_f hf c30
                refine lv_iconst (v := (2 : Int32)) hx hb dX8_readsTest_81 (by decide) ?_
                refine lv_goto (tgt := 89) hx hb dX8_readsTest_82 (by decide) ?_
                exact hJ26 (2 : Int32) hf H locs hP hD hS _ (lv_sub hl [0, 1, 2] rfl)
            refine lv_if_ne (tgt := 69) hx hb dX8_readsTest_55 (by decide) (fun c32 => ?_) (fun c32 => ?_)
            · have hf := it_f hf c32
              exact hJ23 vM_19 hf H locs hP hD hS _ (lv_sub hl [1, 2, 3, 0] rfl)
            · have hf := it_t hf c32
              refine lv_aload_n hx hb dX8_readsTest_58 rfl (lv_at hl 1 rfl) ?_
              refine lv_iconst (v := (0 : Int32)) hx hb dX8_readsTest_59 (by decide) ?_
              refine lv_iconst (v := (1 : Int32)) hx hb dX8_readsTest_60 (by decide) ?_
              obtain ⟨r33, vM_34, hg35, hf⟩ := o2_at hf
              refine k_viW ⟨hx, hb, hml, hown, htu⟩ hK hP hD hS hA hG (c_X8_reads l g bM vM_19 (0 : Int32) (1 : Int32) r33 vM_34 hg35) (cwV 2 htu (gU_V mw_5_192 hcX8_reads) rfl rfl rfl hdX8_reads ⟨Nat.le_of_ble_eq_true rfl, Nat.le_of_ble_eq_true rfl⟩) (q0 := 0) (ci := 8) (fs := fcM bM vM_19) (q := (RX8, TX8, 23)) rfl rfl rfl (As := [.int (0 : Int32), .int (1 : Int32)]) (rest := []) rfl rfl hl.1 (Nat.le_of_ble_eq_true rfl) dX8_readsTest_61 (k1 := 0) (n1 := 0) rfl rfl ⟨Nat.zero_le _, Nat.zero_le _⟩ (fun H locs hP hD hS => ?_)
              refine lv_if_ne (tgt := 69) hx hb dX8_readsTest_64 (by decide) (fun c36 => ?_) (fun c36 => ?_)
              · have hf := it_f hf c36
                exact hJ23 vM_34 hf H locs hP hD hS _ (lv_sub hl [1, 2, 3, 0] rfl)
              · have hf := it_t hf c36
                refine lv_iconst (v := (0 : Int32)) hx hb dX8_readsTest_67 (by decide) ?_
                obtain ⟨h37, hf⟩ := gd_isB hf
                obtain ⟨e38, e39⟩ := kp_2 hf
                rw [e39] at hP hD
                exact k_zret hx hb hr hlocks hK hP hD hS e38 h37 dX8_readsTest_68
      exact hL8 (0 : Int32) vM hf H locs hP hD hS _ (lv_sub hl [2, 1, 0] rfl)
    · have hf := it_t hf c2
      refine lv_aload_n hx hb dX8_readsTest_11 rfl (lv_at hl 0 rfl) ?_
      refine lv_bipush (v := (-6 : Int32)) hx hb dX8_readsTest_12 (by decide) ?_
      refine lv_iload_n hx hb dX8_readsTest_14 rfl (lv_at hl 1 rfl) ?_
      obtain ⟨r40, vM_41, hg42, hf⟩ := o2_at hf
      refine k_viW ⟨hx, hb, hml, hown, htu⟩ hK hP hD hS hA hG (c_X8_fails l g bM vM (-6 : Int32) x1 r40 vM_41 hg42) (cwV 2 htu (gU_V mw_5_188 hcX8_fails) rfl rfl rfl hdX8_fails ⟨Nat.le_of_ble_eq_true rfl, Nat.le_of_ble_eq_true rfl⟩) (q0 := 0) (ci := 8) (fs := fcM bM vM) (q := (RX8, TX8, 23)) rfl rfl rfl (As := [.int (-6 : Int32), .int x1]) (rest := []) rfl rfl hl.1 (Nat.le_of_ble_eq_true rfl) dX8_readsTest_15 (k1 := 0) (n1 := 0) rfl rfl ⟨Nat.zero_le _, Nat.zero_le _⟩ (fun H locs hP hD hS => ?_)
      obtain ⟨h43, hf⟩ := gd_isB hf
      obtain ⟨e44, e45⟩ := kp_2 hf
      rw [e45] at hP hD
      exact k_zret hx hb hr hlocks hK hP hD hS e44 h43 dX8_readsTest_18
  rw [hH, hlo] at hW
  exact hW
def f_X8_readsLine (vM : Vs) : Option (Int32 × Vs) :=
  o2 (f_X8_takes vM 6) (fun (r1 : Int32) (vM_2 : Vs) => jn (fun (t4 : Int32) (vM_5 : Vs) => jn (fun (t8 : Int32) (vM_9 : Vs) => gd (isB t8) (some (t8, vM_9))) (fun k10 => jn (fun (vM_16 : Vs) => k10 (0 : Int32) vM_16) (fun k17 => if t4 = 0 then k17 vM_5 else o2 (f_X8_sign vM_5 (59 : Int32)) (fun (r21 : Int32) (vM_22 : Vs) => if r21 = 0 then k17 vM_22 else k10 (1 : Int32) vM_22)))) (fun k6 => if r1 = 0 then o2 (f_X8_takes vM_2 17) (fun (r27 : Int32) (vM_28 : Vs) => if r27 = 0 then o2 (f_X8_takes vM_28 2) (fun (r31 : Int32) (vM_32 : Vs) => if r31 = 0 then o2 (f_X8_takes vM_32 19) (fun (r35 : Int32) (vM_36 : Vs) => if r35 = 0 then o2 (f_X8_fails vM_36 (-2 : Int32) (vM_36.1 14)) (fun (r39 : Int32) (vM_40 : Vs) => k6 r39 vM_40) else o2 (f_X8_readsTest vM_36 (vM.1 14)) (fun (r42 : Int32) (vM_43 : Vs) => k6 r42 vM_43)) else o2 (f_X8_readsBridge vM_32 (vM.1 14)) (fun (r45 : Int32) (vM_46 : Vs) => k6 r45 vM_46)) else o2 (f_X8_readsOutputs vM_28) (fun (r48 : Int32) (vM_49 : Vs) => k6 r48 vM_49)) else o2 (f_X8_readsGate vM_2 (vM.1 14)) (fun (r51 : Int32) (vM_52 : Vs) => k6 r51 vM_52)))
abbrev wsX8_readsLine : List Cond := .code yX8_readsLine cX8_readsLine 3 (some .boolean) :: UW
abbrev rmX8_readsLine : Room := { frames := 7, cells := 0, slots := 0, locals := 152 }
set_option maxHeartbeats 4000000 in
set_option maxRecDepth 100000 in
theorem c_X8_readsLine (l : Launch) (g : Gx) (bM : Nat → Nat) (vM : Vs) (r : Int32) (vM1 : Vs) (hf : f_X8_readsLine vM = some (r, vM1)) : CtI l yX8_readsLine wsX8_readsLine rmX8_readsLine g [.ref (bM 0)] (cM g bM vM) (cM g bM vM1) r 0 0 := by
  unfold CtI
  intro sz
  refine Met.ofW (cc := cX8_readsLine) (maxL := 3) (ret := (some .boolean)) (by decide) rfl ?_
  intro p e s m args below meth c s₁ B hml hv
  obtain ⟨rfl, hsz, hP, hK, hD0, hG⟩ := hv
  have hx := B.exec
  have hb := B.bytes
  have hr := B.returns
  have hts := atoms_spec (ws := wsX8_readsLine) B.pre
  have hown : s.vm.findClass RX8 = some m.cls := findClass_of_methodNamed B.named
  have hlocks := B.notSynchronized
  subst hsz
  have hD := hD0.self (sz := s.heap.size)
  generalize hAe : va_A (cM g bM vM) s.heap.size = A at hD hG ⊢
  have hA : ∀ q : Nat, s.heap.size ≤ q → A q := fun q h => by rw [← hAe]; exact Or.inr h
  clear hAe hD0
  have hS : va_S A s.heap s.heap [] := va_S.rf
  have hl := lv_entry ([.ref (bM 0)]) (n := 3) (Nat.le_of_ble_eq_true rfl)
  rw [lg_entry_eq]
  generalize (lg_sl ([.ref (bM 0)]) ++ List.replicate (3 - (lg_sl ([.ref (bM 0)])).length) Slot.unset).toArray = ls at hl ⊢
  have hl : lv_has ls 3 [(0, .ref (bM 0))] := hl
  have htu : ∀ w ∈ UW, w.before _ s = true := fun w h => hts w (List.mem_cons_of_mem _ h)
  have k_5_86 := htu _ mw_5_86
  unfold f_X8_readsLine at hf
  obtain ⟨H, hH⟩ : ∃ z, z = s.heap := ⟨_, rfl⟩
  obtain ⟨locs, hlo⟩ : ∃ z : List Loc, z = [] := ⟨_, rfl⟩
  have hS : va_S A s.heap H locs := by rw [hH, hlo]; exact hS
  rw [← hH] at hP
  have hW : W p l e (headSpec wsX8_readsLine rmX8_readsLine).room s m ([.ref (bM 0)] : List Value).toArray below meth c H locs 0 0 (MQ below (qI g A (cM g bM vM1) r) ([.ref (bM 0)] : List Value).toArray s 0 0 A) (F0 m 0 ls []) := by
    refine lv_aload_n hx hb dX8_readsLine_0 rfl (lv_at hl 0 rfl) ?_
    refine va_get (D := g.1) (ci := 8) (fs := fcM bM vM) (v := .int (vM.1 14)) (C := RX8) (T := TX8) (N := 23) hx hb htu hinX8 hown hK hP 0 rfl rfl 14 (by decide) k_5_86 (fun _ h9 => h9) rfl dX8_readsLine_1 ?_
    refine lv_istore_n (lv' := [(1, .int (vM.1 14)), (0, .ref (bM 0))]) hx hb dX8_readsLine_4 rfl hl (by decide) rfl (fun ls hl => ?_)
    refine lv_aload_n hx hb dX8_readsLine_5 rfl (lv_at hl 1 rfl) ?_
    refine va_ldcS hx hb hown (tx := "gate") (q := adK g 6) (hG.1.1 ("FaultTestsModel", 234, "gate", 6) (List.mem_of_getElem? (i := 38) rfl)) dX8_readsLine_6 ?_
    obtain ⟨r1, vM_2, hg3, hf⟩ := o2_at hf
    refine k_viW ⟨hx, hb, hml, hown, htu⟩ hK hP hD hS hA hG (c_X8_takes l g bM vM 6 (by decide) r1 vM_2 hg3) (cwV 1 htu (gU_V mw_5_175 hcX8_takes) rfl rfl rfl hdX8_takes ⟨Nat.le_of_ble_eq_true rfl, Nat.le_of_ble_eq_true rfl⟩) (q0 := 0) (ci := 8) (fs := fcM bM vM) (q := (RX8, TX8, 23)) rfl rfl rfl (As := [.ref (adK g 6)]) (rest := []) rfl rfl hl.1 (Nat.le_of_ble_eq_true rfl) dX8_readsLine_8 (k1 := 0) (n1 := 0) rfl rfl ⟨Nat.zero_le _, Nat.zero_le _⟩ (fun H locs hP hD hS => ?_)
    obtain ⟨k6, hk25, hf⟩ := jn_at hf
    have hJ7 : ∀ (t4 : Int32) (vM_5 : Vs), k6 t4 vM_5 = some (r, vM1) → ∀ (H : Heap) (locs : List Loc), va_P g.1 vwCl (cM g bM vM_5) H → va_D A (cM g bM vM_5) → va_S A s.heap H locs → ∀ ls : Array Slot, lv_has ls 3 [(0, .ref (bM 0))] → W p l e (headSpec wsX8_readsLine rmX8_readsLine).room s m ([.ref (bM 0)] : List Value).toArray below meth c H locs 0 0 (MQ below (qI g A (cM g bM vM1) r) ([.ref (bM 0)] : List Value).toArray s 0 0 A) (F0 m 82 ls [.int t4]) := by
      intro t4 vM_5 hf H locs hP hD hS ls hl
      rw [hk25] at hf
      dsimp only at hf
      clear hk25
      refine lv_istore_n (lv' := [(2, .int t4), (0, .ref (bM 0))]) hx hb dX8_readsLine_82 rfl hl (by decide) rfl (fun ls hl => ?_)
      refine lv_iload_n hx hb dX8_readsLine_83 rfl (lv_at hl 0 rfl) ?_
      obtain ⟨k10, hk15, hf⟩ := jn_at hf
      have hJ11 : ∀ (t8 : Int32) (vM_9 : Vs), k10 t8 vM_9 = some (r, vM1) → ∀ (H : Heap) (locs : List Loc), va_P g.1 vwCl (cM g bM vM_9) H → va_D A (cM g bM vM_9) → va_S A s.heap H locs → ∀ ls : Array Slot, lv_has ls 3 [] → W p l e (headSpec wsX8_readsLine rmX8_readsLine).room s m ([.ref (bM 0)] : List Value).toArray below meth c H locs 0 0 (MQ below (qI g A (cM g bM vM1) r) ([.ref (bM 0)] : List Value).toArray s 0 0 A) (F0 m 101 ls [.int t8]) := by
        intro t8 vM_9 hf H locs hP hD hS ls hl
        rw [hk15] at hf
        dsimp only at hf
        clear hk15
        obtain ⟨h12, hf⟩ := gd_isB hf
        obtain ⟨e13, e14⟩ := kp_2 hf
        rw [e14] at hP hD
        exact k_zret hx hb hr hlocks hK hP hD hS e13 h12 dX8_readsLine_101
      obtain ⟨k17, hk19, hf⟩ := jn_at hf
      have hJ18 : ∀ (vM_16 : Vs), k17 vM_16 = some (r, vM1) → ∀ (H : Heap) (locs : List Loc), va_P g.1 vwCl (cM g bM vM_16) H → va_D A (cM g bM vM_16) → va_S A s.heap H locs → ∀ ls : Array Slot, lv_has ls 3 [] → W p l e (headSpec wsX8_readsLine rmX8_readsLine).room s m ([.ref (bM 0)] : List Value).toArray below meth c H locs 0 0 (MQ below (qI g A (cM g bM vM1) r) ([.ref (bM 0)] : List Value).toArray s 0 0 A) (F0 m 100 ls []) := by
        intro vM_16 hf H locs hP hD hS ls hl
        rw [hk19] at hf
        dsimp only at hf
        clear hk19
        refine lv_iconst (v := (0 : Int32)) hx hb dX8_readsLine_100 (by decide) ?_
        exact hJ11 (0 : Int32) vM_16 hf H locs hP hD hS _ (lv_sub hl [] rfl)
      refine lv_if_eq (tgt := 100) hx hb dX8_readsLine_84 (by decide) (fun c20 => ?_) (fun c20 => ?_)
      · have hf := it_t hf c20
        exact hJ18 vM_5 hf H locs hP hD hS _ (lv_sub hl [] rfl)
      · have hf := it_f hf c20
        refine lv_aload_n hx hb dX8_readsLine_87 rfl (lv_at hl 1 rfl) ?_
        refine lv_bipush (v := (59 : Int32)) hx hb dX8_readsLine_88 (by decide) ?_
        obtain ⟨r21, vM_22, hg23, hf⟩ := o2_at hf
        refine k_viW ⟨hx, hb, hml, hown, htu⟩ hK hP hD hS hA hG (c_X8_sign l g bM vM_5 (59 : Int32) r21 vM_22 hg23) (cwV 1 htu (gU_V mw_5_200 hcX8_sign) rfl rfl rfl hdX8_sign ⟨Nat.le_of_ble_eq_true rfl, Nat.le_of_ble_eq_true rfl⟩) (q0 := 0) (ci := 8) (fs := fcM bM vM_5) (q := (RX8, TX8, 23)) rfl rfl rfl (As := [.int (59 : Int32)]) (rest := []) rfl rfl hl.1 (Nat.le_of_ble_eq_true rfl) dX8_readsLine_90 (k1 := 0) (n1 := 0) rfl rfl ⟨Nat.zero_le _, Nat.zero_le _⟩ (fun H locs hP hD hS => ?_)
        refine lv_if_eq (tgt := 100) hx hb dX8_readsLine_93 (by decide) (fun c24 => ?_) (fun c24 => ?_)
        · have hf := it_t hf c24
          exact hJ18 vM_22 hf H locs hP hD hS _ (lv_sub hl [] rfl)
        · have hf := it_f hf c24
          refine lv_iconst (v := (1 : Int32)) hx hb dX8_readsLine_96 (by decide) ?_
          refine lv_goto (tgt := 101) hx hb dX8_readsLine_97 (by decide) ?_
          exact hJ11 (1 : Int32) vM_22 hf H locs hP hD hS _ (lv_sub hl [] rfl)
    refine lv_if_eq (tgt := 22) hx hb dX8_readsLine_11 (by decide) (fun c26 => ?_) (fun c26 => ?_)
    · have hf := it_t hf c26
      refine lv_aload_n hx hb dX8_readsLine_22 rfl (lv_at hl 1 rfl) ?_
      refine va_ldcS hx hb hown (tx := "output") (q := adK g 17) (hG.1.1 ("FaultTestsModel", 238, "output", 17) (List.mem_of_getElem? (i := 39) rfl)) dX8_readsLine_23 ?_
      obtain ⟨r27, vM_28, hg29, hf⟩ := o2_at hf
      refine k_viW ⟨hx, hb, hml, hown, htu⟩ hK hP hD hS hA hG (c_X8_takes l g bM vM_2 17 (by decide) r27 vM_28 hg29) (cwV 1 htu (gU_V mw_5_175 hcX8_takes) rfl rfl rfl hdX8_takes ⟨Nat.le_of_ble_eq_true rfl, Nat.le_of_ble_eq_true rfl⟩) (q0 := 0) (ci := 8) (fs := fcM bM vM_2) (q := (RX8, TX8, 23)) rfl rfl rfl (As := [.ref (adK g 17)]) (rest := []) rfl rfl hl.1 (Nat.le_of_ble_eq_true rfl) dX8_readsLine_25 (k1 := 0) (n1 := 0) rfl rfl ⟨Nat.zero_le _, Nat.zero_le _⟩ (fun H locs hP hD hS => ?_)
      refine lv_if_eq (tgt := 38) hx hb dX8_readsLine_28 (by decide) (fun c30 => ?_) (fun c30 => ?_)
      · have hf := it_t hf c30
        refine lv_aload_n hx hb dX8_readsLine_38 rfl (lv_at hl 1 rfl) ?_
        refine va_ldcS hx hb hown (tx := "bridge") (q := adK g 2) (hG.1.1 ("FaultTestsModel", 243, "bridge", 2) (List.mem_of_getElem? (i := 40) rfl)) dX8_readsLine_39 ?_
        obtain ⟨r31, vM_32, hg33, hf⟩ := o2_at hf
        refine k_viW ⟨hx, hb, hml, hown, htu⟩ hK hP hD hS hA hG (c_X8_takes l g bM vM_28 2 (by decide) r31 vM_32 hg33) (cwV 1 htu (gU_V mw_5_175 hcX8_takes) rfl rfl rfl hdX8_takes ⟨Nat.le_of_ble_eq_true rfl, Nat.le_of_ble_eq_true rfl⟩) (q0 := 0) (ci := 8) (fs := fcM bM vM_28) (q := (RX8, TX8, 23)) rfl rfl rfl (As := [.ref (adK g 2)]) (rest := []) rfl rfl hl.1 (Nat.le_of_ble_eq_true rfl) dX8_readsLine_41 (k1 := 0) (n1 := 0) rfl rfl ⟨Nat.zero_le _, Nat.zero_le _⟩ (fun H locs hP hD hS => ?_)
        refine lv_if_eq (tgt := 55) hx hb dX8_readsLine_44 (by decide) (fun c34 => ?_) (fun c34 => ?_)
        · have hf := it_t hf c34
          refine lv_aload_n hx hb dX8_readsLine_55 rfl (lv_at hl 1 rfl) ?_
          refine va_ldcS hx hb hown (tx := "test") (q := adK g 19) (hG.1.1 ("FaultTestsModel", 248, "test", 19) (List.mem_of_getElem? (i := 41) rfl)) dX8_readsLine_56 ?_
          obtain ⟨r35, vM_36, hg37, hf⟩ := o2_at hf
          refine k_viW ⟨hx, hb, hml, hown, htu⟩ hK hP hD hS hA hG (c_X8_takes l g bM vM_32 19 (by decide) r35 vM_36 hg37) (cwV 1 htu (gU_V mw_5_175 hcX8_takes) rfl rfl rfl hdX8_takes ⟨Nat.le_of_ble_eq_true rfl, Nat.le_of_ble_eq_true rfl⟩) (q0 := 0) (ci := 8) (fs := fcM bM vM_32) (q := (RX8, TX8, 23)) rfl rfl rfl (As := [.ref (adK g 19)]) (rest := []) rfl rfl hl.1 (Nat.le_of_ble_eq_true rfl) dX8_readsLine_58 (k1 := 0) (n1 := 0) rfl rfl ⟨Nat.zero_le _, Nat.zero_le _⟩ (fun H locs hP hD hS => ?_)
          refine lv_if_eq (tgt := 72) hx hb dX8_readsLine_61 (by decide) (fun c38 => ?_) (fun c38 => ?_)
          · have hf := it_t hf c38
            refine lv_aload_n hx hb dX8_readsLine_72 rfl (lv_at hl 1 rfl) ?_
            refine lv_bipush (v := (-2 : Int32)) hx hb dX8_readsLine_73 (by decide) ?_
            refine lv_aload_n hx hb dX8_readsLine_75 rfl (lv_at hl 1 rfl) ?_
            refine va_get (D := g.1) (ci := 8) (fs := fcM bM vM_36) (v := .int (vM_36.1 14)) (C := RX8) (T := TX8) (N := 23) hx hb htu hinX8 hown hK hP 0 rfl rfl 14 (by decide) k_5_86 (fun _ h9 => h9) rfl dX8_readsLine_76 ?_
            obtain ⟨r39, vM_40, hg41, hf⟩ := o2_at hf
            refine k_viW ⟨hx, hb, hml, hown, htu⟩ hK hP hD hS hA hG (c_X8_fails l g bM vM_36 (-2 : Int32) (vM_36.1 14) r39 vM_40 hg41) (cwV 2 htu (gU_V mw_5_188 hcX8_fails) rfl rfl rfl hdX8_fails ⟨Nat.le_of_ble_eq_true rfl, Nat.le_of_ble_eq_true rfl⟩) (q0 := 0) (ci := 8) (fs := fcM bM vM_36) (q := (RX8, TX8, 23)) rfl rfl rfl (As := [.int (-2 : Int32), .int (vM_36.1 14)]) (rest := []) rfl rfl hl.1 (Nat.le_of_ble_eq_true rfl) dX8_readsLine_79 (k1 := 0) (n1 := 0) rfl rfl ⟨Nat.zero_le _, Nat.zero_le _⟩ (fun H locs hP hD hS => ?_)
            exact hJ7 r39 vM_40 hf H locs hP hD hS _ (lv_sub hl [1] rfl)
          · have hf := it_f hf c38
            refine lv_aload_n hx hb dX8_readsLine_64 rfl (lv_at hl 1 rfl) ?_
            refine lv_iload_n hx hb dX8_readsLine_65 rfl (lv_at hl 0 rfl) ?_
            obtain ⟨r42, vM_43, hg44, hf⟩ := o2_at hf
            refine k_viW ⟨hx, hb, hml, hown, htu⟩ hK hP hD hS hA hG (c_X8_readsTest l g bM vM_36 (vM.1 14) r42 vM_43 hg44) (cwV 1 htu (gU_V mw_6_11 hcX8_readsTest) rfl rfl rfl hdX8_readsTest ⟨Nat.le_of_ble_eq_true rfl, Nat.le_of_ble_eq_true rfl⟩) (q0 := 0) (ci := 8) (fs := fcM bM vM_36) (q := (RX8, TX8, 23)) rfl rfl rfl (As := [.int (vM.1 14)]) (rest := []) rfl rfl hl.1 (Nat.le_of_ble_eq_true rfl) dX8_readsLine_66 (k1 := 0) (n1 := 0) rfl rfl ⟨Nat.zero_le _, Nat.zero_le _⟩ (fun H locs hP hD hS => ?_)
            refine lv_goto (tgt := 82) hx hb dX8_readsLine_69 (by decide) ?_
            exact hJ7 r42 vM_43 hf H locs hP hD hS _ (lv_sub hl [1] rfl)
        · have hf := it_f hf c34
          refine lv_aload_n hx hb dX8_readsLine_47 rfl (lv_at hl 1 rfl) ?_
          refine lv_iload_n hx hb dX8_readsLine_48 rfl (lv_at hl 0 rfl) ?_
          obtain ⟨r45, vM_46, hg47, hf⟩ := o2_at hf
          refine k_viW ⟨hx, hb, hml, hown, htu⟩ hK hP hD hS hA hG (c_X8_readsBridge l g bM vM_32 (vM.1 14) r45 vM_46 hg47) (cwV 1 htu (gU_V mw_6_2 hcX8_readsBridge) rfl rfl rfl hdX8_readsBridge ⟨Nat.le_of_ble_eq_true rfl, Nat.le_of_ble_eq_true rfl⟩) (q0 := 0) (ci := 8) (fs := fcM bM vM_32) (q := (RX8, TX8, 23)) rfl rfl rfl (As := [.int (vM.1 14)]) (rest := []) rfl rfl hl.1 (Nat.le_of_ble_eq_true rfl) dX8_readsLine_49 (k1 := 0) (n1 := 0) rfl rfl ⟨Nat.zero_le _, Nat.zero_le _⟩ (fun H locs hP hD hS => ?_)
          refine lv_goto (tgt := 82) hx hb dX8_readsLine_52 (by decide) ?_
          exact hJ7 r45 vM_46 hf H locs hP hD hS _ (lv_sub hl [1] rfl)
      · have hf := it_f hf c30
        refine lv_aload_n hx hb dX8_readsLine_31 rfl (lv_at hl 1 rfl) ?_
        obtain ⟨r48, vM_49, hg50, hf⟩ := o2_at hf
        refine k_viW ⟨hx, hb, hml, hown, htu⟩ hK hP hD hS hA hG (c_X8_readsOutputs l g bM vM_28 r48 vM_49 hg50) (cwV 0 htu (gU_V mw_5_237 hcX8_readsOutputs) rfl rfl rfl hdX8_readsOutputs ⟨Nat.le_of_ble_eq_true rfl, Nat.le_of_ble_eq_true rfl⟩) (q0 := 0) (ci := 8) (fs := fcM bM vM_28) (q := (RX8, TX8, 23)) rfl rfl rfl (As := []) (rest := []) rfl rfl hl.1 (Nat.le_of_ble_eq_true rfl) dX8_readsLine_32 (k1 := 0) (n1 := 0) rfl rfl ⟨Nat.zero_le _, Nat.zero_le _⟩ (fun H locs hP hD hS => ?_)
        refine lv_goto (tgt := 82) hx hb dX8_readsLine_35 (by decide) ?_
        exact hJ7 r48 vM_49 hf H locs hP hD hS _ (lv_sub hl [1] rfl)
    · have hf := it_f hf c26
      refine lv_aload_n hx hb dX8_readsLine_14 rfl (lv_at hl 1 rfl) ?_
      refine lv_iload_n hx hb dX8_readsLine_15 rfl (lv_at hl 0 rfl) ?_
      obtain ⟨r51, vM_52, hg53, hf⟩ := o2_at hf
      refine k_viW ⟨hx, hb, hml, hown, htu⟩ hK hP hD hS hA hG (c_X8_readsGate l g bM vM_2 (vM.1 14) r51 vM_52 hg53) (cwV 1 htu (gU_V mw_5_209 hcX8_readsGate) rfl rfl rfl hdX8_readsGate ⟨Nat.le_of_ble_eq_true rfl, Nat.le_of_ble_eq_true rfl⟩) (q0 := 0) (ci := 8) (fs := fcM bM vM_2) (q := (RX8, TX8, 23)) rfl rfl rfl (As := [.int (vM.1 14)]) (rest := []) rfl rfl hl.1 (Nat.le_of_ble_eq_true rfl) dX8_readsLine_16 (k1 := 0) (n1 := 0) rfl rfl ⟨Nat.zero_le _, Nat.zero_le _⟩ (fun H locs hP hD hS => ?_)
      refine lv_goto (tgt := 82) hx hb dX8_readsLine_19 (by decide) ?_
      exact hJ7 r51 vM_52 hf H locs hP hD hS _ (lv_sub hl [1] rfl)
  rw [hH, hlo] at hW
  exact hW
