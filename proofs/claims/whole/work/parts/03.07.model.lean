def f_X8_readsGate_L62 (r7 : Int32) (vM_8 : Vs) (self14 : Int32 → Vs → Option (Int32 × Vs)) (x4_12 : Int32) (vM_13 : Vs) : Option (Int32 × Vs) :=
  o1 (f_X8_fewest r7) (fun (r17 : Int32) => jn (fun (vM_19 : Vs) => o2 (f_X8_readsWire vM_19) (fun (r22 : Int32) (vM_23 : Vs) => if r22 = 0 then gd (isB (0 : Int32)) (some ((0 : Int32), vM_23)) else gd (inb (((56 : Int32) + ((4 : Int32) * (vM_8.2.1 2 ((1 : Int32)).toNatClampNeg))) + x4_12) 440) (bn (sI vM_23 2 ((((56 : Int32) + ((4 : Int32) * (vM_8.2.1 2 ((1 : Int32)).toNatClampNeg))) + x4_12)).toNatClampNeg (vM_23.1 17)) (fun (vM_27 : Vs) => self14 (x4_12 + (1 : Int32)) vM_27)))) (fun k20 => if x4_12 < r17 then k20 vM_13 else o1 (f_X8_mostOf r7) (fun (r33 : Int32) => jn (fun (vM_35 : Vs) => gd (inb ((8 : Int32) + (vM_8.2.1 2 ((1 : Int32)).toNatClampNeg)) 440) (bn (sI vM_35 2 (((8 : Int32) + (vM_8.2.1 2 ((1 : Int32)).toNatClampNeg))).toNatClampNeg r7) (fun (vM_39 : Vs) => gd (inb ((32 : Int32) + (vM_8.2.1 2 ((1 : Int32)).toNatClampNeg)) 440) (bn (sI vM_39 2 (((32 : Int32) + (vM_8.2.1 2 ((1 : Int32)).toNatClampNeg))).toNatClampNeg x4_12) (fun (vM_41 : Vs) => gd (inb (1 : Int32) 440) (gd (inb (1 : Int32) 440) (bn (sI vM_41 2 ((1 : Int32)).toNatClampNeg ((vM_41.2.1 2 ((1 : Int32)).toNatClampNeg) + (1 : Int32))) (fun (vM_44 : Vs) => gd (isB (1 : Int32)) (some ((1 : Int32), vM_44)))))))))) (fun k36 => if r33 ≤ x4_12 then k36 vM_13 else o2 (f_X8_here vM_13) (fun (r50 : Int32) (vM_51 : Vs) => o1 (f_X8_isDigit r50) (fun (r53 : Int32) => if r53 = 0 then k36 vM_51 else k20 vM_51))))))
def f_X8_readsGate (vM : Vs) (x1 : Int32) : Option (Int32 × Vs) :=
  gd (inb (1 : Int32) 440) (gd (inb (0 : Int32) 440) (if ((vM.2.1 2 ((1 : Int32)).toNatClampNeg) - (vM.2.1 2 ((0 : Int32)).toNatClampNeg)) = (16 : Int32) then o2 (f_X8_fails vM (-6 : Int32) x1) (fun (r62 : Int32) (vM_63 : Vs) => gd (isB r62) (some (r62, vM_63))) else o2 (f_X8_here vM) (fun (r4 : Int32) (vM_5 : Vs) => o2 (f_X8_kindHere vM_5) (fun (r7 : Int32) (vM_8 : Vs) => if r7 = (-1 : Int32) then o2 (f_X8_fails vM_8 (-2 : Int32) (vM_8.1 14)) (fun (r56 : Int32) (vM_57 : Vs) => gd (isB r56) (some (r56, vM_57))) else gd (inb (1 : Int32) 440) (lp (f_X8_readsGate_L62 r7 vM_8) (fun _ _ => none) FU (0 : Int32) vM_8)))))
abbrev wsX8_readsGate : List Cond := .code yX8_readsGate cX8_readsGate 5 (some .boolean) :: UW
abbrev rmX8_readsGate : Room := { frames := 6, cells := 0, slots := 0, locals := 128 }
set_option maxHeartbeats 4000000 in
set_option maxRecDepth 100000 in
theorem c_X8_readsGate (l : Launch) (g : Gx) (bM : Nat → Nat) (vM : Vs) (x1 : Int32) (r : Int32) (vM1 : Vs) (hf : f_X8_readsGate vM x1 = some (r, vM1)) : CtI l yX8_readsGate wsX8_readsGate rmX8_readsGate g [.ref (bM 0), .int x1] (cM g bM vM) (cM g bM vM1) r 0 0 := by
  unfold CtI
  intro sz
  refine Met.ofW (cc := cX8_readsGate) (maxL := 5) (ret := (some .boolean)) (by decide) rfl ?_
  intro p e s m args below meth c s₁ B hml hv
  obtain ⟨rfl, hsz, hP, hK, hD0, hG⟩ := hv
  have hx := B.exec
  have hb := B.bytes
  have hr := B.returns
  have hts := atoms_spec (ws := wsX8_readsGate) B.pre
  have hown : s.vm.findClass RX8 = some m.cls := findClass_of_methodNamed B.named
  have hlocks := B.notSynchronized
  subst hsz
  have hD := hD0.self (sz := s.heap.size)
  generalize hAe : va_A (cM g bM vM) s.heap.size = A at hD hG ⊢
  have hA : ∀ q : Nat, s.heap.size ≤ q → A q := fun q h => by rw [← hAe]; exact Or.inr h
  clear hAe hD0
  have hS : va_S A s.heap s.heap [] := va_S.rf
  have hl := lv_entry ([.ref (bM 0), .int x1]) (n := 5) (Nat.le_of_ble_eq_true rfl)
  rw [lg_entry_eq]
  generalize (lg_sl ([.ref (bM 0), .int x1]) ++ List.replicate (5 - (lg_sl ([.ref (bM 0), .int x1])).length) Slot.unset).toArray = ls at hl ⊢
  have hl : lv_has ls 5 [(0, .ref (bM 0)), (1, .int x1)] := hl
  have htu : ∀ w ∈ UW, w.before _ s = true := fun w h => hts w (List.mem_cons_of_mem _ h)
  have k_5_74 := htu _ mw_5_74
  have k_5_89 := htu _ mw_5_89
  have k_5_86 := htu _ mw_5_86
  unfold f_X8_readsGate at hf
  obtain ⟨H, hH⟩ : ∃ z, z = s.heap := ⟨_, rfl⟩
  obtain ⟨locs, hlo⟩ : ∃ z : List Loc, z = [] := ⟨_, rfl⟩
  have hS : va_S A s.heap H locs := by rw [hH, hlo]; exact hS
  rw [← hH] at hP
  have hW : W p l e (headSpec wsX8_readsGate rmX8_readsGate).room s m ([.ref (bM 0), .int x1] : List Value).toArray below meth c H locs 0 0 (MQ below (qI g A (cM g bM vM1) r) ([.ref (bM 0), .int x1] : List Value).toArray s 0 0 A) (F0 m 0 ls []) := by
    refine lv_aload_n hx hb dX8_readsGate_0 rfl (lv_at hl 0 rfl) ?_
    refine va_get (D := g.1) (ci := 8) (fs := fcM bM vM) (v := .ref (bM 3)) (C := RX8) (T := TX8) (N := 23) hx hb htu hinX8 hown hK hP 0 rfl rfl 2 (by decide) k_5_74 (fun _ h9 => h9) rfl dX8_readsGate_1 ?_
    refine lv_iconst (v := (1 : Int32)) hx hb dX8_readsGate_4 (by decide) ?_
    obtain ⟨h1, hf⟩ := gd_in hf
    refine va_iald (D := g.1) (f := (vM.2.1 2)) hx hb hK hP 2 0 rfl rfl h1 dX8_readsGate_5 ?_
    refine lv_aload_n hx hb dX8_readsGate_6 rfl (lv_at hl 0 rfl) ?_
    refine va_get (D := g.1) (ci := 8) (fs := fcM bM vM) (v := .ref (bM 3)) (C := RX8) (T := TX8) (N := 23) hx hb htu hinX8 hown hK hP 0 rfl rfl 2 (by decide) k_5_74 (fun _ h9 => h9) rfl dX8_readsGate_7 ?_
    refine lv_iconst (v := (0 : Int32)) hx hb dX8_readsGate_10 (by decide) ?_
    obtain ⟨h2, hf⟩ := gd_in hf
    refine va_iald (D := g.1) (f := (vM.2.1 2)) hx hb hK hP 2 0 rfl rfl h2 dX8_readsGate_11 ?_
    refine lv_isub hx hb dX8_readsGate_12 ?_
    refine lv_bipush (v := (16 : Int32)) hx hb dX8_readsGate_13 (by decide) ?_
    refine lv_icmp_ne (tgt := 26) hx hb dX8_readsGate_15 (by decide) (fun c3 => ?_) (fun c3 => ?_)
    · have hf := it_f hf c3
      refine lv_aload_n hx hb dX8_readsGate_26 rfl (lv_at hl 0 rfl) ?_
      obtain ⟨r4, vM_5, hg6, hf⟩ := o2_at hf
      refine k_viW ⟨hx, hb, hml, hown, htu⟩ hK hP hD hS hA hG (c_X8_here l g bM vM r4 vM_5 hg6) (cwV 0 htu (gU_V mw_5_179 hcX8_here) rfl rfl rfl hdX8_here ⟨Nat.le_of_ble_eq_true rfl, Nat.le_of_ble_eq_true rfl⟩) (q0 := 0) (ci := 8) (fs := fcM bM vM) (q := (RX8, TX8, 23)) rfl rfl rfl (As := []) (rest := []) rfl rfl hl.1 (Nat.le_of_ble_eq_true rfl) dX8_readsGate_27 (k1 := 0) (n1 := 0) rfl rfl ⟨Nat.zero_le _, Nat.zero_le _⟩ (fun H locs hP hD hS => ?_)
      refine lv_pop hx hb dX8_readsGate_30 rfl ?_
      refine lv_aload_n hx hb dX8_readsGate_31 rfl (lv_at hl 0 rfl) ?_
      obtain ⟨r7, vM_8, hg9, hf⟩ := o2_at hf
      refine k_viW ⟨hx, hb, hml, hown, htu⟩ hK hP hD hS hA hG (c_X8_kindHere l g bM vM_5 r7 vM_8 hg9) (cwV 0 htu (gU_V mw_5_213 hcX8_kindHere) rfl rfl rfl hdX8_kindHere ⟨Nat.le_of_ble_eq_true rfl, Nat.le_of_ble_eq_true rfl⟩) (q0 := 0) (ci := 8) (fs := fcM bM vM_5) (q := (RX8, TX8, 23)) rfl rfl rfl (As := []) (rest := []) rfl rfl hl.1 (Nat.le_of_ble_eq_true rfl) dX8_readsGate_32 (k1 := 0) (n1 := 0) rfl rfl ⟨Nat.zero_le _, Nat.zero_le _⟩ (fun H locs hP hD hS => ?_)
      refine lv_istore_n (lv' := [(2, .int r7), (0, .ref (bM 0)), (1, .int x1)]) hx hb dX8_readsGate_35 rfl hl (by decide) rfl (fun ls hl => ?_)
      refine lv_iload_n hx hb dX8_readsGate_36 rfl (lv_at hl 0 rfl) ?_
      refine lv_iconst (v := (-1 : Int32)) hx hb dX8_readsGate_37 (by decide) ?_
      refine lv_icmp_ne (tgt := 52) hx hb dX8_readsGate_38 (by decide) (fun c10 => ?_) (fun c10 => ?_)
      · have hf := it_f hf c10
        refine lv_aload_n hx hb dX8_readsGate_52 rfl (lv_at hl 1 rfl) ?_
        refine va_get (D := g.1) (ci := 8) (fs := fcM bM vM_8) (v := .ref (bM 3)) (C := RX8) (T := TX8) (N := 23) hx hb htu hinX8 hown hK hP 0 rfl rfl 2 (by decide) k_5_74 (fun _ h9 => h9) rfl dX8_readsGate_53 ?_
        refine lv_iconst (v := (1 : Int32)) hx hb dX8_readsGate_56 (by decide) ?_
        obtain ⟨h11, hf⟩ := gd_in hf
        refine va_iald (D := g.1) (f := (vM_8.2.1 2)) hx hb hK hP 2 0 rfl rfl h11 dX8_readsGate_57 ?_
        refine lv_istore_n (lv' := [(3, .int (vM_8.2.1 2 ((1 : Int32)).toNatClampNeg)), (2, .int r7), (0, .ref (bM 0)), (1, .int x1)]) hx hb dX8_readsGate_58 rfl hl (by decide) rfl (fun ls hl => ?_)
        refine lv_iconst (v := (0 : Int32)) hx hb dX8_readsGate_59 (by decide) ?_
        refine lv_istore (lv' := [(4, .int (0 : Int32)), (3, .int (vM_8.2.1 2 ((1 : Int32)).toNatClampNeg)), (2, .int r7), (0, .ref (bM 0)), (1, .int x1)]) hx hb dX8_readsGate_60 hl (by decide) rfl (fun ls hl => ?_)
        have hL15 : ∀ (x4_12 : Int32) (vM_13 : Vs), lp (f_X8_readsGate_L62 r7 vM_8) (fun _ _ => none) FU x4_12 vM_13 = some (r, vM1) → ∀ (H : Heap) (locs : List Loc), va_P g.1 vwCl (cM g bM vM_13) H → va_D A (cM g bM vM_13) → va_S A s.heap H locs → ∀ ls : Array Slot, lv_has ls 5 [(0, .ref (bM 0)), (2, .int r7), (3, .int (vM_8.2.1 2 ((1 : Int32)).toNatClampNeg)), (4, .int x4_12)] → W p l e (headSpec wsX8_readsGate rmX8_readsGate).room s m ([.ref (bM 0), .int x1] : List Value).toArray below meth c H locs 0 0 (MQ below (qI g A (cM g bM vM1) r) ([.ref (bM 0), .int x1] : List Value).toArray s 0 0 A) (F0 m 62 ls []) := by
          refine lp_ind (T := Int32 → Vs → Option (Int32 × Vs)) (fun self14 => ∀ (x4_12 : Int32) (vM_13 : Vs), self14 x4_12 vM_13 = some (r, vM1) → ∀ (H : Heap) (locs : List Loc), va_P g.1 vwCl (cM g bM vM_13) H → va_D A (cM g bM vM_13) → va_S A s.heap H locs → ∀ ls : Array Slot, lv_has ls 5 [(0, .ref (bM 0)), (2, .int r7), (3, .int (vM_8.2.1 2 ((1 : Int32)).toNatClampNeg)), (4, .int x4_12)] → W p l e (headSpec wsX8_readsGate rmX8_readsGate).room s m ([.ref (bM 0), .int x1] : List Value).toArray below meth c H locs 0 0 (MQ below (qI g A (cM g bM vM1) r) ([.ref (bM 0), .int x1] : List Value).toArray s 0 0 A) (F0 m 62 ls [])) ?_ ?_ FU
          · intro x4_12 vM_13 hf; cases hf
          · intro self14 ih16 x4_12 vM_13 hf H locs hP hD hS ls hl
            unfold f_X8_readsGate_L62 at hf
            refine lv_iload hx hb dX8_readsGate_62 (lv_at hl 3 rfl) ?_
            refine lv_iload_n hx hb dX8_readsGate_64 rfl (lv_at hl 1 rfl) ?_
            obtain ⟨r17, hg18, hf⟩ := o1_at hf
            refine k_si0 ⟨hx, hb, hml, hown, htu⟩ hK hP hD hS hA hG (c_X8_fewest l g r7 r17 hg18) (va_cwS 1 htu (gU_S mw_5_226 hcX8_fewest) rfl rfl rfl hdX8_fewest ⟨Nat.le_of_ble_eq_true rfl, Nat.le_of_ble_eq_true rfl⟩) (As := [.int r7]) (rest := [.int x4_12]) rfl rfl hl.1 (Nat.le_of_ble_eq_true rfl) dX8_readsGate_65 (k1 := 0) (n1 := 0) rfl rfl ⟨Nat.zero_le _, Nat.zero_le _⟩ (fun H locs hP hD hS => ?_)
            obtain ⟨k20, hk31, hf⟩ := jn_at hf
            have hJ21 : ∀ (vM_19 : Vs), k20 vM_19 = some (r, vM1) → ∀ (H : Heap) (locs : List Loc), va_P g.1 vwCl (cM g bM vM_19) H → va_D A (cM g bM vM_19) → va_S A s.heap H locs → ∀ ls : Array Slot, lv_has ls 5 [(0, .ref (bM 0)), (2, .int r7), (3, .int (vM_8.2.1 2 ((1 : Int32)).toNatClampNeg)), (4, .int x4_12)] → W p l e (headSpec wsX8_readsGate rmX8_readsGate).room s m ([.ref (bM 0), .int x1] : List Value).toArray below meth c H locs 0 0 (MQ below (qI g A (cM g bM vM1) r) ([.ref (bM 0), .int x1] : List Value).toArray s 0 0 A) (F0 m 90 ls []) := by
              intro vM_19 hf H locs hP hD hS ls hl
              rw [hk31] at hf
              dsimp only at hf
              clear hk31
              refine lv_aload_n hx hb dX8_readsGate_90 rfl (lv_at hl 0 rfl) ?_
              obtain ⟨r22, vM_23, hg24, hf⟩ := o2_at hf
              refine k_viW ⟨hx, hb, hml, hown, htu⟩ hK hP hD hS hA hG (c_X8_readsWire l g bM vM_19 r22 vM_23 hg24) (cwV 0 htu (gU_V mw_5_232 hcX8_readsWire) rfl rfl rfl hdX8_readsWire ⟨Nat.le_of_ble_eq_true rfl, Nat.le_of_ble_eq_true rfl⟩) (q0 := 0) (ci := 8) (fs := fcM bM vM_19) (q := (RX8, TX8, 23)) rfl rfl rfl (As := []) (rest := []) rfl rfl hl.1 (Nat.le_of_ble_eq_true rfl) dX8_readsGate_91 (k1 := 0) (n1 := 0) rfl rfl ⟨Nat.zero_le _, Nat.zero_le _⟩ (fun H locs hP hD hS => ?_)
              refine lv_if_ne (tgt := 99) hx hb dX8_readsGate_94 (by decide) (fun c25 => ?_) (fun c25 => ?_)
              · have hf := it_f hf c25
                refine lv_aload_n hx hb dX8_readsGate_99 rfl (lv_at hl 0 rfl) ?_
                refine va_get (D := g.1) (ci := 8) (fs := fcM bM vM_23) (v := .ref (bM 3)) (C := RX8) (T := TX8) (N := 23) hx hb htu hinX8 hown hK hP 0 rfl rfl 2 (by decide) k_5_74 (fun _ h9 => h9) rfl dX8_readsGate_100 ?_
                refine lv_bipush (v := (56 : Int32)) hx hb dX8_readsGate_103 (by decide) ?_
                refine lv_iconst (v := (4 : Int32)) hx hb dX8_readsGate_105 (by decide) ?_
                refine lv_iload_n hx hb dX8_readsGate_106 rfl (lv_at hl 2 rfl) ?_
                refine lv_imul hx hb dX8_readsGate_107 ?_
                refine lv_iadd hx hb dX8_readsGate_108 ?_
                refine lv_iload hx hb dX8_readsGate_109 (lv_at hl 3 rfl) ?_
                refine lv_iadd hx hb dX8_readsGate_111 ?_
                refine lv_aload_n hx hb dX8_readsGate_112 rfl (lv_at hl 0 rfl) ?_
                refine va_get (D := g.1) (ci := 8) (fs := fcM bM vM_23) (v := .int (vM_23.1 17)) (C := RX8) (T := TX8) (N := 23) hx hb htu hinX8 hown hK hP 0 rfl rfl 17 (by decide) k_5_89 (fun _ h9 => h9) rfl dX8_readsGate_113 ?_
                obtain ⟨h26, hf⟩ := gd_in hf
                refine va_iast (D := g.1) (f := (vM_23.2.1 2)) hx hb hK hP hD hS 2 0 rfl rfl h26 dX8_readsGate_116 (fun H locs hP hD hS => ?_)
                obtain ⟨vM_27, evM_27⟩ : ∃ z, z = sI vM_23 2 ((((56 : Int32) + ((4 : Int32) * (vM_8.2.1 2 ((1 : Int32)).toNatClampNeg))) + x4_12)).toNatClampNeg (vM_23.1 17) := ⟨_, rfl⟩
                have hf := bn_at hf evM_27
                have hP : va_P g.1 vwCl (cM g bM vM_27) H := by rw [evM_27]; exact hP
                have hD : va_D A (cM g bM vM_27) := by rw [evM_27]; exact hD
                refine lv_iinc (v := (x4_12 + (1 : Int32))) (lv' := [(4, .int (x4_12 + (1 : Int32))), (0, .ref (bM 0)), (2, .int r7), (3, .int (vM_8.2.1 2 ((1 : Int32)).toNatClampNeg))]) hx hb dX8_readsGate_117 hl (k := 3) rfl rfl (by decide) rfl (fun ls hl => ?_)
                refine lv_goto (tgt := 62) hx hb dX8_readsGate_120 (by decide) ?_
                exact ih16 (x4_12 + (1 : Int32)) vM_27 hf H locs hP hD hS _ (lv_sub hl [1, 2, 3, 0] rfl)
              · have hf := it_t hf c25
                refine lv_iconst (v := (0 : Int32)) hx hb dX8_readsGate_97 (by decide) ?_
                obtain ⟨h28, hf⟩ := gd_isB hf
                obtain ⟨e29, e30⟩ := kp_2 hf
                rw [e30] at hP hD
                exact k_zret hx hb hr hlocks hK hP hD hS e29 h28 dX8_readsGate_98
            refine lv_icmp_lt (tgt := 90) hx hb dX8_readsGate_68 (by decide) (fun c32 => ?_) (fun c32 => ?_)
            · have hf := it_t hf c32
              exact hJ21 vM_13 hf H locs hP hD hS _ (lv_sub hl [0, 1, 2, 3] rfl)
            · have hf := it_f hf c32
              refine lv_iload hx hb dX8_readsGate_71 (lv_at hl 3 rfl) ?_
              refine lv_iload_n hx hb dX8_readsGate_73 rfl (lv_at hl 1 rfl) ?_
              obtain ⟨r33, hg34, hf⟩ := o1_at hf
              refine k_si0 ⟨hx, hb, hml, hown, htu⟩ hK hP hD hS hA hG (c_X8_mostOf l g r7 r33 hg34) (va_cwS 1 htu (gU_S mw_5_229 hcX8_mostOf) rfl rfl rfl hdX8_mostOf ⟨Nat.le_of_ble_eq_true rfl, Nat.le_of_ble_eq_true rfl⟩) (As := [.int r7]) (rest := [.int x4_12]) rfl rfl hl.1 (Nat.le_of_ble_eq_true rfl) dX8_readsGate_74 (k1 := 0) (n1 := 0) rfl rfl ⟨Nat.zero_le _, Nat.zero_le _⟩ (fun H locs hP hD hS => ?_)
              obtain ⟨k36, hk48, hf⟩ := jn_at hf
              have hJ37 : ∀ (vM_35 : Vs), k36 vM_35 = some (r, vM1) → ∀ (H : Heap) (locs : List Loc), va_P g.1 vwCl (cM g bM vM_35) H → va_D A (cM g bM vM_35) → va_S A s.heap H locs → ∀ ls : Array Slot, lv_has ls 5 [(0, .ref (bM 0)), (2, .int r7), (3, .int (vM_8.2.1 2 ((1 : Int32)).toNatClampNeg)), (4, .int x4_12)] → W p l e (headSpec wsX8_readsGate rmX8_readsGate).room s m ([.ref (bM 0), .int x1] : List Value).toArray below meth c H locs 0 0 (MQ below (qI g A (cM g bM vM1) r) ([.ref (bM 0), .int x1] : List Value).toArray s 0 0 A) (F0 m 123 ls []) := by
                intro vM_35 hf H locs hP hD hS ls hl
                rw [hk48] at hf
                dsimp only at hf
                clear hk48
                refine lv_aload_n hx hb dX8_readsGate_123 rfl (lv_at hl 0 rfl) ?_
                refine va_get (D := g.1) (ci := 8) (fs := fcM bM vM_35) (v := .ref (bM 3)) (C := RX8) (T := TX8) (N := 23) hx hb htu hinX8 hown hK hP 0 rfl rfl 2 (by decide) k_5_74 (fun _ h9 => h9) rfl dX8_readsGate_124 ?_
                refine lv_bipush (v := (8 : Int32)) hx hb dX8_readsGate_127 (by decide) ?_
                refine lv_iload_n hx hb dX8_readsGate_129 rfl (lv_at hl 2 rfl) ?_
                refine lv_iadd hx hb dX8_readsGate_130 ?_
                refine lv_iload_n hx hb dX8_readsGate_131 rfl (lv_at hl 1 rfl) ?_
                obtain ⟨h38, hf⟩ := gd_in hf
                refine va_iast (D := g.1) (f := (vM_35.2.1 2)) hx hb hK hP hD hS 2 0 rfl rfl h38 dX8_readsGate_132 (fun H locs hP hD hS => ?_)
                obtain ⟨vM_39, evM_39⟩ : ∃ z, z = sI vM_35 2 (((8 : Int32) + (vM_8.2.1 2 ((1 : Int32)).toNatClampNeg))).toNatClampNeg r7 := ⟨_, rfl⟩
                have hf := bn_at hf evM_39
                have hP : va_P g.1 vwCl (cM g bM vM_39) H := by rw [evM_39]; exact hP
                have hD : va_D A (cM g bM vM_39) := by rw [evM_39]; exact hD
                refine lv_aload_n hx hb dX8_readsGate_133 rfl (lv_at hl 0 rfl) ?_
                refine va_get (D := g.1) (ci := 8) (fs := fcM bM vM_39) (v := .ref (bM 3)) (C := RX8) (T := TX8) (N := 23) hx hb htu hinX8 hown hK hP 0 rfl rfl 2 (by decide) k_5_74 (fun _ h9 => h9) rfl dX8_readsGate_134 ?_
                refine lv_bipush (v := (32 : Int32)) hx hb dX8_readsGate_137 (by decide) ?_
                refine lv_iload_n hx hb dX8_readsGate_139 rfl (lv_at hl 2 rfl) ?_
                refine lv_iadd hx hb dX8_readsGate_140 ?_
                refine lv_iload hx hb dX8_readsGate_141 (lv_at hl 3 rfl) ?_
                obtain ⟨h40, hf⟩ := gd_in hf
                refine va_iast (D := g.1) (f := (vM_39.2.1 2)) hx hb hK hP hD hS 2 0 rfl rfl h40 dX8_readsGate_143 (fun H locs hP hD hS => ?_)
                obtain ⟨vM_41, evM_41⟩ : ∃ z, z = sI vM_39 2 (((32 : Int32) + (vM_8.2.1 2 ((1 : Int32)).toNatClampNeg))).toNatClampNeg x4_12 := ⟨_, rfl⟩
                have hf := bn_at hf evM_41
                have hP : va_P g.1 vwCl (cM g bM vM_41) H := by rw [evM_41]; exact hP
                have hD : va_D A (cM g bM vM_41) := by rw [evM_41]; exact hD
                refine lv_aload_n hx hb dX8_readsGate_144 rfl (lv_at hl 0 rfl) ?_
                refine va_get (D := g.1) (ci := 8) (fs := fcM bM vM_41) (v := .ref (bM 3)) (C := RX8) (T := TX8) (N := 23) hx hb htu hinX8 hown hK hP 0 rfl rfl 2 (by decide) k_5_74 (fun _ h9 => h9) rfl dX8_readsGate_145 ?_
                refine lv_iconst (v := (1 : Int32)) hx hb dX8_readsGate_148 (by decide) ?_
                refine lv_dup2_11 hx hb dX8_readsGate_149 rfl rfl ?_
                obtain ⟨h42, hf⟩ := gd_in hf
                refine va_iald (D := g.1) (f := (vM_41.2.1 2)) hx hb hK hP 2 0 rfl rfl h42 dX8_readsGate_150 ?_
                refine lv_iconst (v := (1 : Int32)) hx hb dX8_readsGate_151 (by decide) ?_
                refine lv_iadd hx hb dX8_readsGate_152 ?_
                obtain ⟨h43, hf⟩ := gd_in hf
                refine va_iast (D := g.1) (f := (vM_41.2.1 2)) hx hb hK hP hD hS 2 0 rfl rfl h43 dX8_readsGate_153 (fun H locs hP hD hS => ?_)
                obtain ⟨vM_44, evM_44⟩ : ∃ z, z = sI vM_41 2 ((1 : Int32)).toNatClampNeg ((vM_41.2.1 2 ((1 : Int32)).toNatClampNeg) + (1 : Int32)) := ⟨_, rfl⟩
                have hf := bn_at hf evM_44
                have hP : va_P g.1 vwCl (cM g bM vM_44) H := by rw [evM_44]; exact hP
                have hD : va_D A (cM g bM vM_44) := by rw [evM_44]; exact hD
                refine lv_iconst (v := (1 : Int32)) hx hb dX8_readsGate_154 (by decide) ?_
                obtain ⟨h45, hf⟩ := gd_isB hf
                obtain ⟨e46, e47⟩ := kp_2 hf
                rw [e47] at hP hD
                exact k_zret hx hb hr hlocks hK hP hD hS e46 h45 dX8_readsGate_155
              refine lv_icmp_ge (tgt := 123) hx hb dX8_readsGate_77 (by decide) (fun c49 => ?_) (fun c49 => ?_)
              · have hf := it_t hf c49
                exact hJ37 vM_13 hf H locs hP hD hS _ (lv_sub hl [0, 1, 2, 3] rfl)
              · have hf := it_f hf c49
                refine lv_aload_n hx hb dX8_readsGate_80 rfl (lv_at hl 0 rfl) ?_
                obtain ⟨r50, vM_51, hg52, hf⟩ := o2_at hf
                refine k_viW ⟨hx, hb, hml, hown, htu⟩ hK hP hD hS hA hG (c_X8_here l g bM vM_13 r50 vM_51 hg52) (cwV 0 htu (gU_V mw_5_179 hcX8_here) rfl rfl rfl hdX8_here ⟨Nat.le_of_ble_eq_true rfl, Nat.le_of_ble_eq_true rfl⟩) (q0 := 0) (ci := 8) (fs := fcM bM vM_13) (q := (RX8, TX8, 23)) rfl rfl rfl (As := []) (rest := []) rfl rfl hl.1 (Nat.le_of_ble_eq_true rfl) dX8_readsGate_81 (k1 := 0) (n1 := 0) rfl rfl ⟨Nat.zero_le _, Nat.zero_le _⟩ (fun H locs hP hD hS => ?_)
                obtain ⟨r53, hg54, hf⟩ := o1_at hf
                refine k_si0 ⟨hx, hb, hml, hown, htu⟩ hK hP hD hS hA hG (c_X8_isDigit l g r50 r53 hg54) (va_cwS 1 htu (gU_S mw_5_196 hcX8_isDigit) rfl rfl rfl hdX8_isDigit ⟨Nat.le_of_ble_eq_true rfl, Nat.le_of_ble_eq_true rfl⟩) (As := [.int r50]) (rest := []) rfl rfl hl.1 (Nat.le_of_ble_eq_true rfl) dX8_readsGate_84 (k1 := 0) (n1 := 0) rfl rfl ⟨Nat.zero_le _, Nat.zero_le _⟩ (fun H locs hP hD hS => ?_)
                refine lv_if_eq (tgt := 123) hx hb dX8_readsGate_87 (by decide) (fun c55 => ?_) (fun c55 => ?_)
                · have hf := it_t hf c55
                  exact hJ37 vM_51 hf H locs hP hD hS _ (lv_sub hl [0, 1, 2, 3] rfl)
                · have hf := it_f hf c55
                  exact hJ21 vM_51 hf H locs hP hD hS _ (lv_sub hl [0, 1, 2, 3] rfl)
        exact hL15 (0 : Int32) vM_8 hf H locs hP hD hS _ (lv_sub hl [3, 2, 1, 0] rfl)
      · have hf := it_t hf c10
        refine lv_aload_n hx hb dX8_readsGate_41 rfl (lv_at hl 1 rfl) ?_
        refine lv_bipush (v := (-2 : Int32)) hx hb dX8_readsGate_42 (by decide) ?_
        refine lv_aload_n hx hb dX8_readsGate_44 rfl (lv_at hl 1 rfl) ?_
        refine va_get (D := g.1) (ci := 8) (fs := fcM bM vM_8) (v := .int (vM_8.1 14)) (C := RX8) (T := TX8) (N := 23) hx hb htu hinX8 hown hK hP 0 rfl rfl 14 (by decide) k_5_86 (fun _ h9 => h9) rfl dX8_readsGate_45 ?_
        obtain ⟨r56, vM_57, hg58, hf⟩ := o2_at hf
        refine k_viW ⟨hx, hb, hml, hown, htu⟩ hK hP hD hS hA hG (c_X8_fails l g bM vM_8 (-2 : Int32) (vM_8.1 14) r56 vM_57 hg58) (cwV 2 htu (gU_V mw_5_188 hcX8_fails) rfl rfl rfl hdX8_fails ⟨Nat.le_of_ble_eq_true rfl, Nat.le_of_ble_eq_true rfl⟩) (q0 := 0) (ci := 8) (fs := fcM bM vM_8) (q := (RX8, TX8, 23)) rfl rfl rfl (As := [.int (-2 : Int32), .int (vM_8.1 14)]) (rest := []) rfl rfl hl.1 (Nat.le_of_ble_eq_true rfl) dX8_readsGate_48 (k1 := 0) (n1 := 0) rfl rfl ⟨Nat.zero_le _, Nat.zero_le _⟩ (fun H locs hP hD hS => ?_)
        obtain ⟨h59, hf⟩ := gd_isB hf
        obtain ⟨e60, e61⟩ := kp_2 hf
        rw [e61] at hP hD
        exact k_zret hx hb hr hlocks hK hP hD hS e60 h59 dX8_readsGate_51
    · have hf := it_t hf c3
      refine lv_aload_n hx hb dX8_readsGate_18 rfl (lv_at hl 0 rfl) ?_
      refine lv_bipush (v := (-6 : Int32)) hx hb dX8_readsGate_19 (by decide) ?_
      refine lv_iload_n hx hb dX8_readsGate_21 rfl (lv_at hl 1 rfl) ?_
      obtain ⟨r62, vM_63, hg64, hf⟩ := o2_at hf
      refine k_viW ⟨hx, hb, hml, hown, htu⟩ hK hP hD hS hA hG (c_X8_fails l g bM vM (-6 : Int32) x1 r62 vM_63 hg64) (cwV 2 htu (gU_V mw_5_188 hcX8_fails) rfl rfl rfl hdX8_fails ⟨Nat.le_of_ble_eq_true rfl, Nat.le_of_ble_eq_true rfl⟩) (q0 := 0) (ci := 8) (fs := fcM bM vM) (q := (RX8, TX8, 23)) rfl rfl rfl (As := [.int (-6 : Int32), .int x1]) (rest := []) rfl rfl hl.1 (Nat.le_of_ble_eq_true rfl) dX8_readsGate_22 (k1 := 0) (n1 := 0) rfl rfl ⟨Nat.zero_le _, Nat.zero_le _⟩ (fun H locs hP hD hS => ?_)
      obtain ⟨h65, hf⟩ := gd_isB hf
      obtain ⟨e66, e67⟩ := kp_2 hf
      rw [e67] at hP hD
      exact k_zret hx hb hr hlocks hK hP hD hS e66 h65 dX8_readsGate_25
  rw [hH, hlo] at hW
  exact hW
def f_X8_readsOutputs_L17 (self3 : Int32 → Vs → Option (Int32 × Vs)) (vM_11 : Vs) (self15 : Int32 → Option (Int32 × Vs)) (x2_14 : Int32) : Option (Int32 × Vs) :=
  gd (inb (2 : Int32) 440) (if (vM_11.2.1 2 ((2 : Int32)).toNatClampNeg) ≤ x2_14 then gd (inb (2 : Int32) 440) (if (vM_11.2.1 2 ((2 : Int32)).toNatClampNeg) = (6 : Int32) then o2 (f_X8_fails vM_11 (-6 : Int32) (vM_11.1 18)) (fun (r33 : Int32) (vM_34 : Vs) => gd (isB r33) (some (r33, vM_34))) else gd (inb (2 : Int32) 440) (gd (inb ((152 : Int32) + (vM_11.2.1 2 ((2 : Int32)).toNatClampNeg)) 440) (bn (sI vM_11 2 (((152 : Int32) + (vM_11.2.1 2 ((2 : Int32)).toNatClampNeg))).toNatClampNeg (vM_11.1 17)) (fun (vM_24 : Vs) => gd (inb (2 : Int32) 440) (gd (inb (2 : Int32) 440) (bn (sI vM_24 2 ((2 : Int32)).toNatClampNeg ((vM_24.2.1 2 ((2 : Int32)).toNatClampNeg) + (1 : Int32))) (fun (vM_27 : Vs) => o2 (f_X8_here vM_27) (fun (r28 : Int32) (vM_29 : Vs) => o1 (f_X8_isDigit r28) (fun (r31 : Int32) => self3 r31 vM_29))))))))) else gd (inb ((152 : Int32) + x2_14) 440) (if (vM_11.2.1 2 (((152 : Int32) + x2_14)).toNatClampNeg) = (vM_11.1 17) then o2 (f_X8_fails vM_11 (-4 : Int32) (vM_11.1 18)) (fun (r41 : Int32) (vM_42 : Vs) => gd (isB r41) (some (r41, vM_42))) else self15 (x2_14 + (1 : Int32))))
def f_X8_readsOutputs_L2 (self3 : Int32 → Vs → Option (Int32 × Vs)) (x1_1 : Int32) (vM_2 : Vs) : Option (Int32 × Vs) :=
  if x1_1 = 0 then gd (isB (1 : Int32)) (some ((1 : Int32), vM_2)) else o2 (f_X8_readsWire vM_2) (fun (r10 : Int32) (vM_11 : Vs) => if r10 = 0 then gd (isB (0 : Int32)) (some ((0 : Int32), vM_11)) else lp (f_X8_readsOutputs_L17 self3 vM_11) (fun _ => none) FU (0 : Int32))
def f_X8_readsOutputs (vM : Vs) : Option (Int32 × Vs) :=
  lp f_X8_readsOutputs_L2 (fun _ _ => none) FU (1 : Int32) vM
abbrev wsX8_readsOutputs : List Cond := .code yX8_readsOutputs cX8_readsOutputs 3 (some .boolean) :: UW
abbrev rmX8_readsOutputs : Room := { frames := 3, cells := 0, slots := 0, locals := 64 }
set_option maxHeartbeats 4000000 in
set_option maxRecDepth 100000 in
theorem c_X8_readsOutputs (l : Launch) (g : Gx) (bM : Nat → Nat) (vM : Vs) (r : Int32) (vM1 : Vs) (hf : f_X8_readsOutputs vM = some (r, vM1)) : CtI l yX8_readsOutputs wsX8_readsOutputs rmX8_readsOutputs g [.ref (bM 0)] (cM g bM vM) (cM g bM vM1) r 0 0 := by
  unfold CtI
  intro sz
  refine Met.ofW (cc := cX8_readsOutputs) (maxL := 3) (ret := (some .boolean)) (by decide) rfl ?_
  intro p e s m args below meth c s₁ B hml hv
  obtain ⟨rfl, hsz, hP, hK, hD0, hG⟩ := hv
  have hx := B.exec
  have hb := B.bytes
  have hr := B.returns
  have hts := atoms_spec (ws := wsX8_readsOutputs) B.pre
  have hown : s.vm.findClass RX8 = some m.cls := findClass_of_methodNamed B.named
  have hlocks := B.notSynchronized
  subst hsz
  have hD := hD0.self (sz := s.heap.size)
  generalize hAe : va_A (cM g bM vM) s.heap.size = A at hD hG ⊢
  have hA : ∀ q : Nat, s.heap.size ≤ q → A q := fun q h => by rw [← hAe]; exact Or.inr h
  clear hAe hD0
  have hS : va_S A s.heap s.heap [] := va_S.rf
  have hl := lv_entry ([.ref (bM 0)]) (n := 3) (Nat.le_of_ble_eq_true rfl)
  rw [lg_entry_eq]
  generalize (lg_sl ([.ref (bM 0)]) ++ List.replicate (3 - (lg_sl ([.ref (bM 0)])).length) Slot.unset).toArray = ls at hl ⊢
  have hl : lv_has ls 3 [(0, .ref (bM 0))] := hl
  have htu : ∀ w ∈ UW, w.before _ s = true := fun w h => hts w (List.mem_cons_of_mem _ h)
  have k_5_74 := htu _ mw_5_74
  have k_5_89 := htu _ mw_5_89
  have k_5_90 := htu _ mw_5_90
  unfold f_X8_readsOutputs at hf
  obtain ⟨H, hH⟩ : ∃ z, z = s.heap := ⟨_, rfl⟩
  obtain ⟨locs, hlo⟩ : ∃ z : List Loc, z = [] := ⟨_, rfl⟩
  have hS : va_S A s.heap H locs := by rw [hH, hlo]; exact hS
  rw [← hH] at hP
  have hW : W p l e (headSpec wsX8_readsOutputs rmX8_readsOutputs).room s m ([.ref (bM 0)] : List Value).toArray below meth c H locs 0 0 (MQ below (qI g A (cM g bM vM1) r) ([.ref (bM 0)] : List Value).toArray s 0 0 A) (F0 m 0 ls []) := by
    refine lv_iconst (v := (1 : Int32)) hx hb dX8_readsOutputs_0 (by decide) ?_
    refine lv_istore_n (lv' := [(1, .int (1 : Int32)), (0, .ref (bM 0))]) hx hb dX8_readsOutputs_1 rfl hl (by decide) rfl (fun ls hl => ?_)
    have hL4 : ∀ (x1_1 : Int32) (vM_2 : Vs), lp f_X8_readsOutputs_L2 (fun _ _ => none) FU x1_1 vM_2 = some (r, vM1) → ∀ (H : Heap) (locs : List Loc), va_P g.1 vwCl (cM g bM vM_2) H → va_D A (cM g bM vM_2) → va_S A s.heap H locs → ∀ ls : Array Slot, lv_has ls 3 [(0, .ref (bM 0)), (1, .int x1_1)] → W p l e (headSpec wsX8_readsOutputs rmX8_readsOutputs).room s m ([.ref (bM 0)] : List Value).toArray below meth c H locs 0 0 (MQ below (qI g A (cM g bM vM1) r) ([.ref (bM 0)] : List Value).toArray s 0 0 A) (F0 m 2 ls []) := by
      refine lp_ind (T := Int32 → Vs → Option (Int32 × Vs)) (fun self3 => ∀ (x1_1 : Int32) (vM_2 : Vs), self3 x1_1 vM_2 = some (r, vM1) → ∀ (H : Heap) (locs : List Loc), va_P g.1 vwCl (cM g bM vM_2) H → va_D A (cM g bM vM_2) → va_S A s.heap H locs → ∀ ls : Array Slot, lv_has ls 3 [(0, .ref (bM 0)), (1, .int x1_1)] → W p l e (headSpec wsX8_readsOutputs rmX8_readsOutputs).room s m ([.ref (bM 0)] : List Value).toArray below meth c H locs 0 0 (MQ below (qI g A (cM g bM vM1) r) ([.ref (bM 0)] : List Value).toArray s 0 0 A) (F0 m 2 ls [])) ?_ ?_ FU
      · intro x1_1 vM_2 hf; cases hf
      · intro self3 ih5 x1_1 vM_2 hf H locs hP hD hS ls hl
        unfold f_X8_readsOutputs_L2 at hf
        refine lv_iload_n hx hb dX8_readsOutputs_2 rfl (lv_at hl 1 rfl) ?_
        refine lv_if_eq (tgt := 123) hx hb dX8_readsOutputs_3 (by decide) (fun c6 => ?_) (fun c6 => ?_)
        · have hf := it_t hf c6
          refine lv_iconst (v := (1 : Int32)) hx hb dX8_readsOutputs_123 (by decide) ?_
          obtain ⟨h7, hf⟩ := gd_isB hf
          obtain ⟨e8, e9⟩ := kp_2 hf
          rw [e9] at hP hD
          exact k_zret hx hb hr hlocks hK hP hD hS e8 h7 dX8_readsOutputs_124
        · have hf := it_f hf c6
          refine lv_aload_n hx hb dX8_readsOutputs_6 rfl (lv_at hl 0 rfl) ?_
          obtain ⟨r10, vM_11, hg12, hf⟩ := o2_at hf
          refine k_viW ⟨hx, hb, hml, hown, htu⟩ hK hP hD hS hA hG (c_X8_readsWire l g bM vM_2 r10 vM_11 hg12) (cwV 0 htu (gU_V mw_5_232 hcX8_readsWire) rfl rfl rfl hdX8_readsWire ⟨Nat.le_of_ble_eq_true rfl, Nat.le_of_ble_eq_true rfl⟩) (q0 := 0) (ci := 8) (fs := fcM bM vM_2) (q := (RX8, TX8, 23)) rfl rfl rfl (As := []) (rest := []) rfl rfl hl.1 (Nat.le_of_ble_eq_true rfl) dX8_readsOutputs_7 (k1 := 0) (n1 := 0) rfl rfl ⟨Nat.zero_le _, Nat.zero_le _⟩ (fun H locs hP hD hS => ?_)
          refine lv_if_ne (tgt := 15) hx hb dX8_readsOutputs_10 (by decide) (fun c13 => ?_) (fun c13 => ?_)
          · have hf := it_f hf c13
            refine lv_iconst (v := (0 : Int32)) hx hb dX8_readsOutputs_15 (by decide) ?_
            refine lv_istore_n (lv' := [(2, .int (0 : Int32)), (0, .ref (bM 0)), (1, .int x1_1)]) hx hb dX8_readsOutputs_16 rfl hl (by decide) rfl (fun ls hl => ?_)
            have hL16 : ∀ (x2_14 : Int32), lp (f_X8_readsOutputs_L17 self3 vM_11) (fun _ => none) FU x2_14 = some (r, vM1) → ∀ (H : Heap) (locs : List Loc), va_P g.1 vwCl (cM g bM vM_11) H → va_D A (cM g bM vM_11) → va_S A s.heap H locs → ∀ ls : Array Slot, lv_has ls 3 [(0, .ref (bM 0)), (2, .int x2_14)] → W p l e (headSpec wsX8_readsOutputs rmX8_readsOutputs).room s m ([.ref (bM 0)] : List Value).toArray below meth c H locs 0 0 (MQ below (qI g A (cM g bM vM1) r) ([.ref (bM 0)] : List Value).toArray s 0 0 A) (F0 m 17 ls []) := by
              refine lp_ind (T := Int32 → Option (Int32 × Vs)) (fun self15 => ∀ (x2_14 : Int32), self15 x2_14 = some (r, vM1) → ∀ (H : Heap) (locs : List Loc), va_P g.1 vwCl (cM g bM vM_11) H → va_D A (cM g bM vM_11) → va_S A s.heap H locs → ∀ ls : Array Slot, lv_has ls 3 [(0, .ref (bM 0)), (2, .int x2_14)] → W p l e (headSpec wsX8_readsOutputs rmX8_readsOutputs).room s m ([.ref (bM 0)] : List Value).toArray below meth c H locs 0 0 (MQ below (qI g A (cM g bM vM1) r) ([.ref (bM 0)] : List Value).toArray s 0 0 A) (F0 m 17 ls [])) ?_ ?_ FU
              · intro x2_14 hf; cases hf
              · intro self15 ih17 x2_14 hf H locs hP hD hS ls hl
                unfold f_X8_readsOutputs_L17 at hf
                refine lv_iload_n hx hb dX8_readsOutputs_17 rfl (lv_at hl 1 rfl) ?_
                refine lv_aload_n hx hb dX8_readsOutputs_18 rfl (lv_at hl 0 rfl) ?_
                refine va_get (D := g.1) (ci := 8) (fs := fcM bM vM_11) (v := .ref (bM 3)) (C := RX8) (T := TX8) (N := 23) hx hb htu hinX8 hown hK hP 0 rfl rfl 2 (by decide) k_5_74 (fun _ h9 => h9) rfl dX8_readsOutputs_19 ?_
                refine lv_iconst (v := (2 : Int32)) hx hb dX8_readsOutputs_22 (by decide) ?_
                obtain ⟨h18, hf⟩ := gd_in hf
                refine va_iald (D := g.1) (f := (vM_11.2.1 2)) hx hb hK hP 2 0 rfl rfl h18 dX8_readsOutputs_23 ?_
                refine lv_icmp_ge (tgt := 61) hx hb dX8_readsOutputs_24 (by decide) (fun c19 => ?_) (fun c19 => ?_)
                · have hf := it_t hf c19
                  refine lv_aload_n hx hb dX8_readsOutputs_61 rfl (lv_at hl 0 rfl) ?_
                  refine va_get (D := g.1) (ci := 8) (fs := fcM bM vM_11) (v := .ref (bM 3)) (C := RX8) (T := TX8) (N := 23) hx hb htu hinX8 hown hK hP 0 rfl rfl 2 (by decide) k_5_74 (fun _ h9 => h9) rfl dX8_readsOutputs_62 ?_
                  refine lv_iconst (v := (2 : Int32)) hx hb dX8_readsOutputs_65 (by decide) ?_
                  obtain ⟨h20, hf⟩ := gd_in hf
                  refine va_iald (D := g.1) (f := (vM_11.2.1 2)) hx hb hK hP 2 0 rfl rfl h20 dX8_readsOutputs_66 ?_
                  refine lv_bipush (v := (6 : Int32)) hx hb dX8_readsOutputs_67 (by decide) ?_
                  refine lv_icmp_ne (tgt := 83) hx hb dX8_readsOutputs_69 (by decide) (fun c21 => ?_) (fun c21 => ?_)
                  · have hf := it_f hf c21
                    refine lv_aload_n hx hb dX8_readsOutputs_83 rfl (lv_at hl 0 rfl) ?_
                    refine va_get (D := g.1) (ci := 8) (fs := fcM bM vM_11) (v := .ref (bM 3)) (C := RX8) (T := TX8) (N := 23) hx hb htu hinX8 hown hK hP 0 rfl rfl 2 (by decide) k_5_74 (fun _ h9 => h9) rfl dX8_readsOutputs_84 ?_
                    refine lv_sipush (v := (152 : Int32)) hx hb dX8_readsOutputs_87 (by decide) ?_
                    refine lv_aload_n hx hb dX8_readsOutputs_90 rfl (lv_at hl 0 rfl) ?_
                    refine va_get (D := g.1) (ci := 8) (fs := fcM bM vM_11) (v := .ref (bM 3)) (C := RX8) (T := TX8) (N := 23) hx hb htu hinX8 hown hK hP 0 rfl rfl 2 (by decide) k_5_74 (fun _ h9 => h9) rfl dX8_readsOutputs_91 ?_
                    refine lv_iconst (v := (2 : Int32)) hx hb dX8_readsOutputs_94 (by decide) ?_
                    obtain ⟨h22, hf⟩ := gd_in hf
                    refine va_iald (D := g.1) (f := (vM_11.2.1 2)) hx hb hK hP 2 0 rfl rfl h22 dX8_readsOutputs_95 ?_
                    refine lv_iadd hx hb dX8_readsOutputs_96 ?_
                    refine lv_aload_n hx hb dX8_readsOutputs_97 rfl (lv_at hl 0 rfl) ?_
                    refine va_get (D := g.1) (ci := 8) (fs := fcM bM vM_11) (v := .int (vM_11.1 17)) (C := RX8) (T := TX8) (N := 23) hx hb htu hinX8 hown hK hP 0 rfl rfl 17 (by decide) k_5_89 (fun _ h9 => h9) rfl dX8_readsOutputs_98 ?_
                    obtain ⟨h23, hf⟩ := gd_in hf
                    refine va_iast (D := g.1) (f := (vM_11.2.1 2)) hx hb hK hP hD hS 2 0 rfl rfl h23 dX8_readsOutputs_101 (fun H locs hP hD hS => ?_)
                    obtain ⟨vM_24, evM_24⟩ : ∃ z, z = sI vM_11 2 (((152 : Int32) + (vM_11.2.1 2 ((2 : Int32)).toNatClampNeg))).toNatClampNeg (vM_11.1 17) := ⟨_, rfl⟩
                    have hf := bn_at hf evM_24
                    have hP : va_P g.1 vwCl (cM g bM vM_24) H := by rw [evM_24]; exact hP
                    have hD : va_D A (cM g bM vM_24) := by rw [evM_24]; exact hD
                    refine lv_aload_n hx hb dX8_readsOutputs_102 rfl (lv_at hl 0 rfl) ?_
                    refine va_get (D := g.1) (ci := 8) (fs := fcM bM vM_24) (v := .ref (bM 3)) (C := RX8) (T := TX8) (N := 23) hx hb htu hinX8 hown hK hP 0 rfl rfl 2 (by decide) k_5_74 (fun _ h9 => h9) rfl dX8_readsOutputs_103 ?_
                    refine lv_iconst (v := (2 : Int32)) hx hb dX8_readsOutputs_106 (by decide) ?_
                    refine lv_dup2_11 hx hb dX8_readsOutputs_107 rfl rfl ?_
                    obtain ⟨h25, hf⟩ := gd_in hf
                    refine va_iald (D := g.1) (f := (vM_24.2.1 2)) hx hb hK hP 2 0 rfl rfl h25 dX8_readsOutputs_108 ?_
                    refine lv_iconst (v := (1 : Int32)) hx hb dX8_readsOutputs_109 (by decide) ?_
                    refine lv_iadd hx hb dX8_readsOutputs_110 ?_
                    obtain ⟨h26, hf⟩ := gd_in hf
                    refine va_iast (D := g.1) (f := (vM_24.2.1 2)) hx hb hK hP hD hS 2 0 rfl rfl h26 dX8_readsOutputs_111 (fun H locs hP hD hS => ?_)
                    obtain ⟨vM_27, evM_27⟩ : ∃ z, z = sI vM_24 2 ((2 : Int32)).toNatClampNeg ((vM_24.2.1 2 ((2 : Int32)).toNatClampNeg) + (1 : Int32)) := ⟨_, rfl⟩
                    have hf := bn_at hf evM_27
                    have hP : va_P g.1 vwCl (cM g bM vM_27) H := by rw [evM_27]; exact hP
                    have hD : va_D A (cM g bM vM_27) := by rw [evM_27]; exact hD
                    refine lv_aload_n hx hb dX8_readsOutputs_112 rfl (lv_at hl 0 rfl) ?_
                    obtain ⟨r28, vM_29, hg30, hf⟩ := o2_at hf
                    refine k_viW ⟨hx, hb, hml, hown, htu⟩ hK hP hD hS hA hG (c_X8_here l g bM vM_27 r28 vM_29 hg30) (cwV 0 htu (gU_V mw_5_179 hcX8_here) rfl rfl rfl hdX8_here ⟨Nat.le_of_ble_eq_true rfl, Nat.le_of_ble_eq_true rfl⟩) (q0 := 0) (ci := 8) (fs := fcM bM vM_27) (q := (RX8, TX8, 23)) rfl rfl rfl (As := []) (rest := []) rfl rfl hl.1 (Nat.le_of_ble_eq_true rfl) dX8_readsOutputs_113 (k1 := 0) (n1 := 0) rfl rfl ⟨Nat.zero_le _, Nat.zero_le _⟩ (fun H locs hP hD hS => ?_)
                    obtain ⟨r31, hg32, hf⟩ := o1_at hf
                    refine k_si0 ⟨hx, hb, hml, hown, htu⟩ hK hP hD hS hA hG (c_X8_isDigit l g r28 r31 hg32) (va_cwS 1 htu (gU_S mw_5_196 hcX8_isDigit) rfl rfl rfl hdX8_isDigit ⟨Nat.le_of_ble_eq_true rfl, Nat.le_of_ble_eq_true rfl⟩) (As := [.int r28]) (rest := []) rfl rfl hl.1 (Nat.le_of_ble_eq_true rfl) dX8_readsOutputs_116 (k1 := 0) (n1 := 0) rfl rfl ⟨Nat.zero_le _, Nat.zero_le _⟩ (fun H locs hP hD hS => ?_)
                    refine lv_istore_n (lv' := [(1, .int r31), (0, .ref (bM 0)), (2, .int x2_14)]) hx hb dX8_readsOutputs_119 rfl hl (by decide) rfl (fun ls hl => ?_)
                    refine lv_goto (tgt := 2) hx hb dX8_readsOutputs_120 (by decide) ?_
                    exact ih5 r31 vM_29 hf H locs hP hD hS _ (lv_sub hl [1, 0] rfl)
                  · have hf := it_t hf c21
                    refine lv_aload_n hx hb dX8_readsOutputs_72 rfl (lv_at hl 0 rfl) ?_
                    refine lv_bipush (v := (-6 : Int32)) hx hb dX8_readsOutputs_73 (by decide) ?_
                    refine lv_aload_n hx hb dX8_readsOutputs_75 rfl (lv_at hl 0 rfl) ?_
                    refine va_get (D := g.1) (ci := 8) (fs := fcM bM vM_11) (v := .int (vM_11.1 18)) (C := RX8) (T := TX8) (N := 23) hx hb htu hinX8 hown hK hP 0 rfl rfl 18 (by decide) k_5_90 (fun _ h9 => h9) rfl dX8_readsOutputs_76 ?_
                    obtain ⟨r33, vM_34, hg35, hf⟩ := o2_at hf
                    refine k_viW ⟨hx, hb, hml, hown, htu⟩ hK hP hD hS hA hG (c_X8_fails l g bM vM_11 (-6 : Int32) (vM_11.1 18) r33 vM_34 hg35) (cwV 2 htu (gU_V mw_5_188 hcX8_fails) rfl rfl rfl hdX8_fails ⟨Nat.le_of_ble_eq_true rfl, Nat.le_of_ble_eq_true rfl⟩) (q0 := 0) (ci := 8) (fs := fcM bM vM_11) (q := (RX8, TX8, 23)) rfl rfl rfl (As := [.int (-6 : Int32), .int (vM_11.1 18)]) (rest := []) rfl rfl hl.1 (Nat.le_of_ble_eq_true rfl) dX8_readsOutputs_79 (k1 := 0) (n1 := 0) rfl rfl ⟨Nat.zero_le _, Nat.zero_le _⟩ (fun H locs hP hD hS => ?_)
                    obtain ⟨h36, hf⟩ := gd_isB hf
                    obtain ⟨e37, e38⟩ := kp_2 hf
                    rw [e38] at hP hD
                    exact k_zret hx hb hr hlocks hK hP hD hS e37 h36 dX8_readsOutputs_82
                · have hf := it_f hf c19
                  refine lv_aload_n hx hb dX8_readsOutputs_27 rfl (lv_at hl 0 rfl) ?_
                  refine va_get (D := g.1) (ci := 8) (fs := fcM bM vM_11) (v := .ref (bM 3)) (C := RX8) (T := TX8) (N := 23) hx hb htu hinX8 hown hK hP 0 rfl rfl 2 (by decide) k_5_74 (fun _ h9 => h9) rfl dX8_readsOutputs_28 ?_
                  refine lv_sipush (v := (152 : Int32)) hx hb dX8_readsOutputs_31 (by decide) ?_
                  refine lv_iload_n hx hb dX8_readsOutputs_34 rfl (lv_at hl 1 rfl) ?_
                  refine lv_iadd hx hb dX8_readsOutputs_35 ?_
                  obtain ⟨h39, hf⟩ := gd_in hf
                  refine va_iald (D := g.1) (f := (vM_11.2.1 2)) hx hb hK hP 2 0 rfl rfl h39 dX8_readsOutputs_36 ?_
                  refine lv_aload_n hx hb dX8_readsOutputs_37 rfl (lv_at hl 0 rfl) ?_
                  refine va_get (D := g.1) (ci := 8) (fs := fcM bM vM_11) (v := .int (vM_11.1 17)) (C := RX8) (T := TX8) (N := 23) hx hb htu hinX8 hown hK hP 0 rfl rfl 17 (by decide) k_5_89 (fun _ h9 => h9) rfl dX8_readsOutputs_38 ?_
                  refine lv_icmp_ne (tgt := 55) hx hb dX8_readsOutputs_41 (by decide) (fun c40 => ?_) (fun c40 => ?_)
                  · have hf := it_f hf c40
                    refine lv_iinc (v := (x2_14 + (1 : Int32))) (lv' := [(2, .int (x2_14 + (1 : Int32))), (0, .ref (bM 0))]) hx hb dX8_readsOutputs_55 hl (k := 1) rfl rfl (by decide) rfl (fun ls hl => ?_)
                    refine lv_goto (tgt := 17) hx hb dX8_readsOutputs_58 (by decide) ?_
                    exact ih17 (x2_14 + (1 : Int32)) hf H locs hP hD hS _ (lv_sub hl [1, 0] rfl)
                  · have hf := it_t hf c40
                    refine lv_aload_n hx hb dX8_readsOutputs_44 rfl (lv_at hl 0 rfl) ?_
                    refine lv_bipush (v := (-4 : Int32)) hx hb dX8_readsOutputs_45 (by decide) ?_
                    refine lv_aload_n hx hb dX8_readsOutputs_47 rfl (lv_at hl 0 rfl) ?_
                    refine va_get (D := g.1) (ci := 8) (fs := fcM bM vM_11) (v := .int (vM_11.1 18)) (C := RX8) (T := TX8) (N := 23) hx hb htu hinX8 hown hK hP 0 rfl rfl 18 (by decide) k_5_90 (fun _ h9 => h9) rfl dX8_readsOutputs_48 ?_
                    obtain ⟨r41, vM_42, hg43, hf⟩ := o2_at hf
                    refine k_viW ⟨hx, hb, hml, hown, htu⟩ hK hP hD hS hA hG (c_X8_fails l g bM vM_11 (-4 : Int32) (vM_11.1 18) r41 vM_42 hg43) (cwV 2 htu (gU_V mw_5_188 hcX8_fails) rfl rfl rfl hdX8_fails ⟨Nat.le_of_ble_eq_true rfl, Nat.le_of_ble_eq_true rfl⟩) (q0 := 0) (ci := 8) (fs := fcM bM vM_11) (q := (RX8, TX8, 23)) rfl rfl rfl (As := [.int (-4 : Int32), .int (vM_11.1 18)]) (rest := []) rfl rfl hl.1 (Nat.le_of_ble_eq_true rfl) dX8_readsOutputs_51 (k1 := 0) (n1 := 0) rfl rfl ⟨Nat.zero_le _, Nat.zero_le _⟩ (fun H locs hP hD hS => ?_)
                    obtain ⟨h44, hf⟩ := gd_isB hf
                    obtain ⟨e45, e46⟩ := kp_2 hf
                    rw [e46] at hP hD
                    exact k_zret hx hb hr hlocks hK hP hD hS e45 h44 dX8_readsOutputs_54
            exact hL16 (0 : Int32) hf H locs hP hD hS _ (lv_sub hl [1, 0] rfl)
          · have hf := it_t hf c13
            refine lv_iconst (v := (0 : Int32)) hx hb dX8_readsOutputs_13 (by decide) ?_
            obtain ⟨h47, hf⟩ := gd_isB hf
            obtain ⟨e48, e49⟩ := kp_2 hf
            rw [e49] at hP hD
            exact k_zret hx hb hr hlocks hK hP hD hS e48 h47 dX8_readsOutputs_14
    exact hL4 (1 : Int32) vM hf H locs hP hD hS _ (lv_sub hl [1, 0] rfl)
  rw [hH, hlo] at hW
  exact hW
