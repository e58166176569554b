def f_X8_dependsOn_L26 (x3_1 : Int32) (self3 : Int32 → Vs → Option (Int32 × Vs)) (self27 : Int32 → Vs → Option (Int32 × Vs)) (x4_25 : Int32) (vM_26 : Vs) : Option (Int32 × Vs) :=
  gd (inb ((32 : Int32) + x3_1) 440) (if (vM_26.2.1 2 (((32 : Int32) + x3_1)).toNatClampNeg) ≤ x4_25 then self3 (x3_1 + (1 : Int32)) vM_26 else gd (inb x3_1 24) (jn (fun (t33 : Int32) => gd (inb x3_1 24) (bn (sI vM_26 19 (x3_1).toNatClampNeg (vp_nar .boolean t33)) (fun (vM_37 : Vs) => self27 (x4_25 + (1 : Int32)) vM_37))) (fun k34 => jn (k34 (1 : Int32)) (fun k39 => if (vM_26.2.1 19 (x3_1).toNatClampNeg) = 0 then gd (inb (((56 : Int32) + ((4 : Int32) * x3_1)) + x4_25) 440) (gd (inb (vM_26.2.1 2 ((((56 : Int32) + ((4 : Int32) * x3_1)) + x4_25)).toNatClampNeg) 24) (if (vM_26.2.1 19 ((vM_26.2.1 2 ((((56 : Int32) + ((4 : Int32) * x3_1)) + x4_25)).toNatClampNeg)).toNatClampNeg) = 0 then k34 (0 : Int32) else k39)) else k39))))
def f_X8_dependsOn_L2 (x1 : Int32) (x2 : Int32) (self3 : Int32 → Vs → Option (Int32 × Vs)) (x3_1 : Int32) (vM_2 : Vs) : Option (Int32 × Vs) :=
  if x1 < x3_1 then jn (fun (t7 : Int32) => gd (isB t7) (some (t7, vM_2))) (fun k8 => jn (k8 (0 : Int32)) (fun k14 => if x1 = x2 then k14 else gd (inb x1 24) (if (vM_2.2.1 19 (x1).toNatClampNeg) = 0 then k14 else k8 (1 : Int32)))) else jn (fun (t20 : Int32) => gd (inb x3_1 24) (bn (sI vM_2 19 (x3_1).toNatClampNeg (vp_nar .boolean t20)) (fun (vM_24 : Vs) => lp (f_X8_dependsOn_L26 x3_1 self3) (fun _ _ => none) FU (0 : Int32) vM_24))) (fun k21 => if x3_1 = x2 then k21 (1 : Int32) else k21 (0 : Int32))
def f_X8_dependsOn (vM : Vs) (x1 : Int32) (x2 : Int32) : Option (Int32 × Vs) :=
  lp (f_X8_dependsOn_L2 x1 x2) (fun _ _ => none) FU (0 : Int32) vM
abbrev wsX8_dependsOn : List Cond := .code yX8_dependsOn cX8_dependsOn 5 (some .boolean) :: UW
abbrev rmX8_dependsOn : Room := { frames := 0, cells := 0, slots := 0, locals := 0 }
set_option maxHeartbeats 4000000 in
set_option maxRecDepth 100000 in
theorem c_X8_dependsOn (l : Launch) (g : Gx) (bM : Nat → Nat) (vM : Vs) (x1 : Int32) (x2 : Int32) (r : Int32) (vM1 : Vs) (hf : f_X8_dependsOn vM x1 x2 = some (r, vM1)) : CtI l yX8_dependsOn wsX8_dependsOn rmX8_dependsOn g [.ref (bM 0), .int x1, .int x2] (cM g bM vM) (cM g bM vM1) r 0 0 := by
  unfold CtI
  intro sz
  refine Met.ofW (cc := cX8_dependsOn) (maxL := 5) (ret := (some .boolean)) (by decide) rfl ?_
  intro p e s m args below meth c s₁ B hml hv
  obtain ⟨rfl, hsz, hP, hK, hD0, hG⟩ := hv
  have hx := B.exec
  have hb := B.bytes
  have hr := B.returns
  have hts := atoms_spec (ws := wsX8_dependsOn) B.pre
  have hown : s.vm.findClass RX8 = some m.cls := findClass_of_methodNamed B.named
  have hlocks := B.notSynchronized
  subst hsz
  have hD := hD0.self (sz := s.heap.size)
  generalize hAe : va_A (cM g bM vM) s.heap.size = A at hD hG ⊢
  have hA : ∀ q : Nat, s.heap.size ≤ q → A q := fun q h => by rw [← hAe]; exact Or.inr h
  clear hAe hD0
  have hS : va_S A s.heap s.heap [] := va_S.rf
  have hl := lv_entry ([.ref (bM 0), .int x1, .int x2]) (n := 5) (Nat.le_of_ble_eq_true rfl)
  rw [lg_entry_eq]
  generalize (lg_sl ([.ref (bM 0), .int x1, .int x2]) ++ List.replicate (5 - (lg_sl ([.ref (bM 0), .int x1, .int x2])).length) Slot.unset).toArray = ls at hl ⊢
  have hl : lv_has ls 5 [(0, .ref (bM 0)), (1, .int x1), (2, .int x2)] := hl
  have htu : ∀ w ∈ UW, w.before _ s = true := fun w h => hts w (List.mem_cons_of_mem _ h)
  have k_5_91 := htu _ mw_5_91
  have k_5_74 := htu _ mw_5_74
  unfold f_X8_dependsOn at hf
  obtain ⟨H, hH⟩ : ∃ z, z = s.heap := ⟨_, rfl⟩
  obtain ⟨locs, hlo⟩ : ∃ z : List Loc, z = [] := ⟨_, rfl⟩
  have hS : va_S A s.heap H locs := by rw [hH, hlo]; exact hS
  rw [← hH] at hP
  have hW : W p l e (headSpec wsX8_dependsOn rmX8_dependsOn).room s m ([.ref (bM 0), .int x1, .int x2] : List Value).toArray below meth c H locs 0 0 (MQ below (qI g A (cM g bM vM1) r) ([.ref (bM 0), .int x1, .int x2] : List Value).toArray s 0 0 A) (F0 m 0 ls []) := by
    refine lv_iconst (v := (0 : Int32)) hx hb dX8_dependsOn_0 (by decide) ?_
    refine lv_istore_n (lv' := [(3, .int (0 : Int32)), (0, .ref (bM 0)), (1, .int x1), (2, .int x2)]) hx hb dX8_dependsOn_1 rfl hl (by decide) rfl (fun ls hl => ?_)
    have hL4 : ∀ (x3_1 : Int32) (vM_2 : Vs), lp (f_X8_dependsOn_L2 x1 x2) (fun _ _ => none) FU x3_1 vM_2 = some (r, vM1) → ∀ (H : Heap) (locs : List Loc), va_P g.1 vwCl (cM g bM vM_2) H → va_D A (cM g bM vM_2) → va_S A s.heap H locs → ∀ ls : Array Slot, lv_has ls 5 [(0, .ref (bM 0)), (1, .int x1), (2, .int x2), (3, .int x3_1)] → W p l e (headSpec wsX8_dependsOn rmX8_dependsOn).room s m ([.ref (bM 0), .int x1, .int x2] : List Value).toArray below meth c H locs 0 0 (MQ below (qI g A (cM g bM vM1) r) ([.ref (bM 0), .int x1, .int x2] : List Value).toArray s 0 0 A) (F0 m 2 ls []) := by
      refine lp_ind (T := Int32 → Vs → Option (Int32 × Vs)) (fun self3 => ∀ (x3_1 : Int32) (vM_2 : Vs), self3 x3_1 vM_2 = some (r, vM1) → ∀ (H : Heap) (locs : List Loc), va_P g.1 vwCl (cM g bM vM_2) H → va_D A (cM g bM vM_2) → va_S A s.heap H locs → ∀ ls : Array Slot, lv_has ls 5 [(0, .ref (bM 0)), (1, .int x1), (2, .int x2), (3, .int x3_1)] → W p l e (headSpec wsX8_dependsOn rmX8_dependsOn).room s m ([.ref (bM 0), .int x1, .int x2] : List Value).toArray below meth c H locs 0 0 (MQ below (qI g A (cM g bM vM1) r) ([.ref (bM 0), .int x1, .int x2] : List Value).toArray s 0 0 A) (F0 m 2 ls [])) ?_ ?_ FU
      · intro x3_1 vM_2 hf; cases hf
      · intro self3 ih5 x3_1 vM_2 hf H locs hP hD hS ls hl
        unfold f_X8_dependsOn_L2 at hf
        refine lv_iload_n hx hb dX8_dependsOn_2 rfl (lv_at hl 3 rfl) ?_
        refine lv_iload_n hx hb dX8_dependsOn_3 rfl (lv_at hl 1 rfl) ?_
        refine lv_icmp_gt (tgt := 94) hx hb dX8_dependsOn_4 (by decide) (fun c6 => ?_) (fun c6 => ?_)
        · have hf := it_t hf c6
          refine lv_iload_n hx hb dX8_dependsOn_94 rfl (lv_at hl 1 rfl) ?_
          refine lv_iload_n hx hb dX8_dependsOn_95 rfl (lv_at hl 2 rfl) ?_
          obtain ⟨k8, hk13, hf⟩ := jn_at hf
          have hJ9 : ∀ (t7 : Int32), k8 t7 = some (r, vM1) → ∀ (H : Heap) (locs : List Loc), va_P g.1 vwCl (cM g bM vM_2) H → va_D A (cM g bM vM_2) → va_S A s.heap H locs → ∀ ls : Array Slot, lv_has ls 5 [] → W p l e (headSpec wsX8_dependsOn rmX8_dependsOn).room s m ([.ref (bM 0), .int x1, .int x2] : List Value).toArray below meth c H locs 0 0 (MQ below (qI g A (cM g bM vM1) r) ([.ref (bM 0), .int x1, .int x2] : List Value).toArray s 0 0 A) (F0 m 113 ls [.int t7]) := by
            intro t7 hf H locs hP hD hS ls hl
            rw [hk13] at hf
            dsimp only at hf
            clear hk13
            obtain ⟨h10, hf⟩ := gd_isB hf
            obtain ⟨e11, e12⟩ := kp_2 hf
            rw [e12] at hP hD
            exact k_zret hx hb hr hlocks hK hP hD hS e11 h10 dX8_dependsOn_113
          obtain ⟨k14, hk16, hf⟩ := jn_at hf
          have hJ15 : k14 = some (r, vM1) → ∀ (H : Heap) (locs : List Loc), va_P g.1 vwCl (cM g bM vM_2) H → va_D A (cM g bM vM_2) → va_S A s.heap H locs → ∀ ls : Array Slot, lv_has ls 5 [] → W p l e (headSpec wsX8_dependsOn rmX8_dependsOn).room s m ([.ref (bM 0), .int x1, .int x2] : List Value).toArray below meth c H locs 0 0 (MQ below (qI g A (cM g bM vM1) r) ([.ref (bM 0), .int x1, .int x2] : List Value).toArray s 0 0 A) (F0 m 112 ls []) := by
            intro hf H locs hP hD hS ls hl
            rw [hk16] at hf
            clear hk16
            refine lv_iconst (v := (0 : Int32)) hx hb dX8_dependsOn_112 (by decide) ?_
            exact hJ9 (0 : Int32) hf H locs hP hD hS _ (lv_sub hl [] rfl)
          refine lv_icmp_eq (tgt := 112) hx hb dX8_dependsOn_96 (by decide) (fun c17 => ?_) (fun c17 => ?_)
          · have hf := it_t hf c17
            exact hJ15 hf H locs hP hD hS _ (lv_sub hl [] rfl)
          · have hf := it_f hf c17
            refine lv_aload_n hx hb dX8_dependsOn_99 rfl (lv_at hl 0 rfl) ?_
            refine va_get (D := g.1) (ci := 8) (fs := fcM bM vM_2) (v := .ref (bM 20)) (C := RX8) (T := TX8) (N := 23) hx hb htu hinX8 hown hK hP 0 rfl rfl 19 (by decide) k_5_91 (fun _ h9 => h9) rfl dX8_dependsOn_100 ?_
            refine lv_iload_n hx hb dX8_dependsOn_103 rfl (lv_at hl 1 rfl) ?_
            obtain ⟨h18, hf⟩ := gd_in hf
            refine va_zald (D := g.1) (f := (vM_2.2.1 19)) hx hb hK hP 10 2 rfl rfl h18 dX8_dependsOn_104 ?_
            refine lv_if_eq (tgt := 112) hx hb dX8_dependsOn_105 (by decide) (fun c19 => ?_) (fun c19 => ?_)
            · have hf := it_t hf c19
              exact hJ15 hf H locs hP hD hS _ (lv_sub hl [] rfl)
            · have hf := it_f hf c19
              refine lv_iconst (v := (1 : Int32)) hx hb dX8_dependsOn_108 (by decide) ?_
              refine lv_goto (tgt := 113) hx hb dX8_dependsOn_109 (by decide) ?_
              exact hJ9 (1 : Int32) hf H locs hP hD hS _ (lv_sub hl [] rfl)
        · have hf := it_f hf c6
          refine lv_aload_n hx hb dX8_dependsOn_7 rfl (lv_at hl 0 rfl) ?_
          refine va_get (D := g.1) (ci := 8) (fs := fcM bM vM_2) (v := .ref (bM 20)) (C := RX8) (T := TX8) (N := 23) hx hb htu hinX8 hown hK hP 0 rfl rfl 19 (by decide) k_5_91 (fun _ h9 => h9) rfl dX8_dependsOn_8 ?_
          refine lv_iload_n hx hb dX8_dependsOn_11 rfl (lv_at hl 3 rfl) ?_
          refine lv_iload_n hx hb dX8_dependsOn_12 rfl (lv_at hl 3 rfl) ?_
          refine lv_iload_n hx hb dX8_dependsOn_13 rfl (lv_at hl 2 rfl) ?_
          obtain ⟨k21, hk46, hf⟩ := jn_at hf
          have hJ22 : ∀ (t20 : Int32), k21 t20 = some (r, vM1) → ∀ (H : Heap) (locs : List Loc), va_P g.1 vwCl (cM g bM vM_2) H → va_D A (cM g bM vM_2) → va_S A s.heap H locs → ∀ ls : Array Slot, lv_has ls 5 [(0, .ref (bM 0)), (1, .int x1), (2, .int x2), (3, .int x3_1)] → W p l e (headSpec wsX8_dependsOn rmX8_dependsOn).room s m ([.ref (bM 0), .int x1, .int x2] : List Value).toArray below meth c H locs 0 0 (MQ below (qI g A (cM g bM vM1) r) ([.ref (bM 0), .int x1, .int x2] : List Value).toArray s 0 0 A) (F0 m 22 ls [.int t20, .int x3_1, .ref (bM 20)]) := by
            intro t20 hf H locs hP hD hS ls hl
            rw [hk46] at hf
            dsimp only at hf
            clear hk46
            obtain ⟨h23, hf⟩ := gd_in hf
            refine va_zast (D := g.1) (f := (vM_2.2.1 19)) hx hb hK hP hD hS 10 2 rfl rfl h23 dX8_dependsOn_22 (fun H locs hP hD hS => ?_)
            obtain ⟨vM_24, evM_24⟩ : ∃ z, z = sI vM_2 19 (x3_1).toNatClampNeg (vp_nar .boolean t20) := ⟨_, rfl⟩
            have hf := bn_at hf evM_24
            have hP : va_P g.1 vwCl (cM g bM vM_24) H := by rw [evM_24]; exact hP
            have hD : va_D A (cM g bM vM_24) := by rw [evM_24]; exact hD
            refine lv_iconst (v := (0 : Int32)) hx hb dX8_dependsOn_23 (by decide) ?_
            refine lv_istore (lv' := [(4, .int (0 : Int32)), (0, .ref (bM 0)), (1, .int x1), (2, .int x2), (3, .int x3_1)]) hx hb dX8_dependsOn_24 hl (by decide) rfl (fun ls hl => ?_)
            have hL28 : ∀ (x4_25 : Int32) (vM_26 : Vs), lp (f_X8_dependsOn_L26 x3_1 self3) (fun _ _ => none) FU x4_25 vM_26 = some (r, vM1) → ∀ (H : Heap) (locs : List Loc), va_P g.1 vwCl (cM g bM vM_26) H → va_D A (cM g bM vM_26) → va_S A s.heap H locs → ∀ ls : Array Slot, lv_has ls 5 [(0, .ref (bM 0)), (1, .int x1), (2, .int x2), (3, .int x3_1), (4, .int x4_25)] → W p l e (headSpec wsX8_dependsOn rmX8_dependsOn).room s m ([.ref (bM 0), .int x1, .int x2] : List Value).toArray below meth c H locs 0 0 (MQ below (qI g A (cM g bM vM1) r) ([.ref (bM 0), .int x1, .int x2] : List Value).toArray s 0 0 A) (F0 m 26 ls []) := by
              refine lp_ind (T := Int32 → Vs → Option (Int32 × Vs)) (fun self27 => ∀ (x4_25 : Int32) (vM_26 : Vs), self27 x4_25 vM_26 = some (r, vM1) → ∀ (H : Heap) (locs : List Loc), va_P g.1 vwCl (cM g bM vM_26) H → va_D A (cM g bM vM_26) → va_S A s.heap H locs → ∀ ls : Array Slot, lv_has ls 5 [(0, .ref (bM 0)), (1, .int x1), (2, .int x2), (3, .int x3_1), (4, .int x4_25)] → W p l e (headSpec wsX8_dependsOn rmX8_dependsOn).room s m ([.ref (bM 0), .int x1, .int x2] : List Value).toArray below meth c H locs 0 0 (MQ below (qI g A (cM g bM vM1) r) ([.ref (bM 0), .int x1, .int x2] : List Value).toArray s 0 0 A) (F0 m 26 ls [])) ?_ ?_ FU
              · intro x4_25 vM_26 hf; cases hf
              · intro self27 ih29 x4_25 vM_26 hf H locs hP hD hS ls hl
                unfold f_X8_dependsOn_L26 at hf
                refine lv_iload hx hb dX8_dependsOn_26 (lv_at hl 4 rfl) ?_
                refine lv_aload_n hx hb dX8_dependsOn_28 rfl (lv_at hl 0 rfl) ?_
                refine va_get (D := g.1) (ci := 8) (fs := fcM bM vM_26) (v := .ref (bM 3)) (C := RX8) (T := TX8) (N := 23) hx hb htu hinX8 hown hK hP 0 rfl rfl 2 (by decide) k_5_74 (fun _ h9 => h9) rfl dX8_dependsOn_29 ?_
                refine lv_bipush (v := (32 : Int32)) hx hb dX8_dependsOn_32 (by decide) ?_
                refine lv_iload_n hx hb dX8_dependsOn_34 rfl (lv_at hl 3 rfl) ?_
                refine lv_iadd hx hb dX8_dependsOn_35 ?_
                obtain ⟨h30, hf⟩ := gd_in hf
                refine va_iald (D := g.1) (f := (vM_26.2.1 2)) hx hb hK hP 2 0 rfl rfl h30 dX8_dependsOn_36 ?_
                refine lv_icmp_ge (tgt := 88) hx hb dX8_dependsOn_37 (by decide) (fun c31 => ?_) (fun c31 => ?_)
                · have hf := it_t hf c31
                  refine lv_iinc (v := (x3_1 + (1 : Int32))) (lv' := [(3, .int (x3_1 + (1 : Int32))), (0, .ref (bM 0)), (1, .int x1), (2, .int x2), (4, .int x4_25)]) hx hb dX8_dependsOn_88 hl (k := 3) rfl rfl (by decide) rfl (fun ls hl => ?_)
                  refine lv_goto (tgt := 2) hx hb dX8_dependsOn_91 (by decide) ?_
                  exact ih5 (x3_1 + (1 : Int32)) vM_26 hf H locs hP hD hS _ (lv_sub hl [1, 2, 3, 0] rfl)
                · have hf := it_f hf c31
                  refine lv_aload_n hx hb dX8_dependsOn_40 rfl (lv_at hl 0 rfl) ?_
                  refine va_get (D := g.1) (ci := 8) (fs := fcM bM vM_26) (v := .ref (bM 20)) (C := RX8) (T := TX8) (N := 23) hx hb htu hinX8 hown hK hP 0 rfl rfl 19 (by decide) k_5_91 (fun _ h9 => h9) rfl dX8_dependsOn_41 ?_
                  refine lv_iload_n hx hb dX8_dependsOn_44 rfl (lv_at hl 3 rfl) ?_
                  refine lv_aload_n hx hb dX8_dependsOn_45 rfl (lv_at hl 0 rfl) ?_
                  refine va_get (D := g.1) (ci := 8) (fs := fcM bM vM_26) (v := .ref (bM 20)) (C := RX8) (T := TX8) (N := 23) hx hb htu hinX8 hown hK hP 0 rfl rfl 19 (by decide) k_5_91 (fun _ h9 => h9) rfl dX8_dependsOn_46 ?_
                  refine lv_iload_n hx hb dX8_dependsOn_49 rfl (lv_at hl 3 rfl) ?_
                  obtain ⟨h32, hf⟩ := gd_in hf
                  refine va_zald (D := g.1) (f := (vM_26.2.1 19)) hx hb hK hP 10 2 rfl rfl h32 dX8_dependsOn_50 ?_
                  obtain ⟨k34, hk38, hf⟩ := jn_at hf
                  have hJ35 : ∀ (t33 : Int32), k34 t33 = some (r, vM1) → ∀ (H : Heap) (locs : List Loc), va_P g.1 vwCl (cM g bM vM_26) H → va_D A (cM g bM vM_26) → va_S A s.heap H locs → ∀ ls : Array Slot, lv_has ls 5 [(0, .ref (bM 0)), (1, .int x1), (2, .int x2), (3, .int x3_1), (4, .int x4_25)] → W p l e (headSpec wsX8_dependsOn rmX8_dependsOn).room s m ([.ref (bM 0), .int x1, .int x2] : List Value).toArray below meth c H locs 0 0 (MQ below (qI g A (cM g bM vM1) r) ([.ref (bM 0), .int x1, .int x2] : List Value).toArray s 0 0 A) (F0 m 81 ls [.int t33, .int x3_1, .ref (bM 20)]) := by
                    intro t33 hf H locs hP hD hS ls hl
                    rw [hk38] at hf
                    dsimp only at hf
                    clear hk38
                    obtain ⟨h36, hf⟩ := gd_in hf
                    refine va_zast (D := g.1) (f := (vM_26.2.1 19)) hx hb hK hP hD hS 10 2 rfl rfl h36 dX8_dependsOn_81 (fun H locs hP hD hS => ?_)
                    obtain ⟨vM_37, evM_37⟩ : ∃ z, z = sI vM_26 19 (x3_1).toNatClampNeg (vp_nar .boolean t33) := ⟨_, rfl⟩
                    have hf := bn_at hf evM_37
                    have hP : va_P g.1 vwCl (cM g bM vM_37) H := by rw [evM_37]; exact hP
                    have hD : va_D A (cM g bM vM_37) := by rw [evM_37]; exact hD
                    refine lv_iinc (v := (x4_25 + (1 : Int32))) (lv' := [(4, .int (x4_25 + (1 : Int32))), (0, .ref (bM 0)), (1, .int x1), (2, .int x2), (3, .int x3_1)]) hx hb dX8_dependsOn_82 hl (k := 4) rfl rfl (by decide) rfl (fun ls hl => ?_)
                    refine lv_goto (tgt := 26) hx hb dX8_dependsOn_85 (by decide) ?_
                    exact ih29 (x4_25 + (1 : Int32)) vM_37 hf H locs hP hD hS _ (lv_sub hl [1, 2, 3, 4, 0] rfl)
                  obtain ⟨k39, hk41, hf⟩ := jn_at hf
                  have hJ40 : k39 = some (r, vM1) → ∀ (H : Heap) (locs : List Loc), va_P g.1 vwCl (cM g bM vM_26) H → va_D A (cM g bM vM_26) → va_S A s.heap H locs → ∀ ls : Array Slot, lv_has ls 5 [(0, .ref (bM 0)), (1, .int x1), (2, .int x2), (3, .int x3_1), (4, .int x4_25)] → W p l e (headSpec wsX8_dependsOn rmX8_dependsOn).room s m ([.ref (bM 0), .int x1, .int x2] : List Value).toArray below meth c H locs 0 0 (MQ below (qI g A (cM g bM vM1) r) ([.ref (bM 0), .int x1, .int x2] : List Value).toArray s 0 0 A) (F0 m 76 ls [.int x3_1, .ref (bM 20)]) := by
                    intro hf H locs hP hD hS ls hl
                    rw [hk41] at hf
                    clear hk41
                    refine lv_iconst (v := (1 : Int32)) hx hb dX8_dependsOn_76 (by decide) ?_
                    refine lv_goto (tgt := 81) hx hb dX8_dependsOn_77 (by decide) ?_
                    exact hJ35 (1 : Int32) hf H locs hP hD hS _ (lv_sub hl [0, 1, 2, 3, 4] rfl)
                  refine lv_if_ne (tgt := 76) hx hb dX8_dependsOn_51 (by decide) (fun c42 => ?_) (fun c42 => ?_)
                  · have hf := it_f hf c42
                    exact hJ40 hf H locs hP hD hS _ (lv_sub hl [0, 1, 2, 3, 4] rfl)
                  · have hf := it_t hf c42
                    refine lv_aload_n hx hb dX8_dependsOn_54 rfl (lv_at hl 0 rfl) ?_
                    refine va_get (D := g.1) (ci := 8) (fs := fcM bM vM_26) (v := .ref (bM 20)) (C := RX8) (T := TX8) (N := 23) hx hb htu hinX8 hown hK hP 0 rfl rfl 19 (by decide) k_5_91 (fun _ h9 => h9) rfl dX8_dependsOn_55 ?_
                    refine lv_aload_n hx hb dX8_dependsOn_58 rfl (lv_at hl 0 rfl) ?_
                    refine va_get (D := g.1) (ci := 8) (fs := fcM bM vM_26) (v := .ref (bM 3)) (C := RX8) (T := TX8) (N := 23) hx hb htu hinX8 hown hK hP 0 rfl rfl 2 (by decide) k_5_74 (fun _ h9 => h9) rfl dX8_dependsOn_59 ?_
                    refine lv_bipush (v := (56 : Int32)) hx hb dX8_dependsOn_62 (by decide) ?_
                    refine lv_iconst (v := (4 : Int32)) hx hb dX8_dependsOn_64 (by decide) ?_
                    refine lv_iload_n hx hb dX8_dependsOn_65 rfl (lv_at hl 3 rfl) ?_
                    refine lv_imul hx hb dX8_dependsOn_66 ?_
                    refine lv_iadd hx hb dX8_dependsOn_67 ?_
                    refine lv_iload hx hb dX8_dependsOn_68 (lv_at hl 4 rfl) ?_
                    refine lv_iadd hx hb dX8_dependsOn_70 ?_
                    obtain ⟨h43, hf⟩ := gd_in hf
                    refine va_iald (D := g.1) (f := (vM_26.2.1 2)) hx hb hK hP 2 0 rfl rfl h43 dX8_dependsOn_71 ?_
                    obtain ⟨h44, hf⟩ := gd_in hf
                    refine va_zald (D := g.1) (f := (vM_26.2.1 19)) hx hb hK hP 10 2 rfl rfl h44 dX8_dependsOn_72 ?_
                    refine lv_if_eq (tgt := 80) hx hb dX8_dependsOn_73 (by decide) (fun c45 => ?_) (fun c45 => ?_)
                    · have hf := it_t hf c45
                      refine lv_iconst (v := (0 : Int32)) hx hb dX8_dependsOn_80 (by decide) ?_
                      exact hJ35 (0 : Int32) hf H locs hP hD hS _ (lv_sub hl [0, 1, 2, 3, 4] rfl)
                    · have hf := it_f hf c45
                      exact hJ40 hf H locs hP hD hS _ (lv_sub hl [0, 1, 2, 3, 4] rfl)
            exact hL28 (0 : Int32) vM_24 hf H locs hP hD hS _ (lv_sub hl [1, 2, 3, 4, 0] rfl)
          refine lv_icmp_ne (tgt := 21) hx hb dX8_dependsOn_14 (by decide) (fun c47 => ?_) (fun c47 => ?_)
          · have hf := it_f hf c47
            refine lv_iconst (v := (0 : Int32)) hx hb dX8_dependsOn_21 (by decide) ?_
            exact hJ22 (0 : Int32) hf H locs hP hD hS _ (lv_sub hl [0, 1, 2, 3] rfl)
          · have hf := it_t hf c47
            refine lv_iconst (v := (1 : Int32)) hx hb dX8_dependsOn_17 (by decide) ?_
            refine lv_goto (tgt := 22) hx hb dX8_dependsOn_18 (by decide) ?_
            exact hJ22 (1 : Int32) hf H locs hP hD hS _ (lv_sub hl [0, 1, 2, 3] rfl)
    exact hL4 (0 : Int32) vM hf H locs hP hD hS _ (lv_sub hl [1, 2, 3, 0] rfl)
  rw [hH, hlo] at hW
  exact hW
def f_X8_takes_L55 (i0 : Nat) (vM_2 : Vs) (x2_4 : Int32) (self14 : Int32 → Option (Int32 × Vs)) (x3_13 : Int32) : Option (Int32 × Vs) :=
  if x2_4 ≤ x3_13 then bn (sF vM_2 14 ((vM_2.1 14) + x2_4)) (fun (vM_18 : Vs) => gd (isB (1 : Int32)) (some ((1 : Int32), vM_18))) else gd (inb ((vM_2.1 14) + x3_13) 800) (o1 (f_J0_charAt_5068e x3_13 i0) (fun (r23 : Int32) => if (vM_2.2.1 11 (((vM_2.1 14) + x3_13)).toNatClampNeg) = r23 then self14 (x3_13 + (1 : Int32)) else gd (isB (0 : Int32)) (some ((0 : Int32), vM_2))))
def f_X8_takes_L7 (i0 : Nat) (vM_2 : Vs) (self5 : Int32 → Option (Int32 × Vs)) (x2_4 : Int32) : Option (Int32 × Vs) :=
  jn (o1 (f_J0_length_8abf5 i0) (fun (r10 : Int32) => if x2_4 = r10 then lp (f_X8_takes_L55 i0 vM_2 x2_4) (fun _ => none) FU (0 : Int32) else gd (isB (0 : Int32)) (some ((0 : Int32), vM_2)))) (fun k8 => if (vM_2.1 13) ≤ ((vM_2.1 14) + x2_4) then k8 else gd (inb ((vM_2.1 14) + x2_4) 800) (o1 (f_X8_isLetter (vM_2.2.1 11 (((vM_2.1 14) + x2_4)).toNatClampNeg)) (fun (r35 : Int32) => if r35 = 0 then k8 else self5 (x2_4 + (1 : Int32)))))
def f_X8_takes (vM : Vs) (i0 : Nat) : Option (Int32 × Vs) :=
  o2 (f_X8_here vM) (fun (r1 : Int32) (vM_2 : Vs) => lp (f_X8_takes_L7 i0 vM_2) (fun _ => none) FU (0 : Int32))
abbrev wsX8_takes : List Cond := .code yX8_takes cX8_takes 4 (some .boolean) :: UW
abbrev rmX8_takes : Room := { frames := 4, cells := 0, slots := 0, locals := 85 }
set_option maxHeartbeats 4000000 in
set_option maxRecDepth 100000 in
theorem c_X8_takes (l : Launch) (g : Gx) (bM : Nat → Nat) (vM : Vs) (i0 : Nat) (hi0 : i0 < 26) (r : Int32) (vM1 : Vs) (hf : f_X8_takes vM i0 = some (r, vM1)) : CtI l yX8_takes wsX8_takes rmX8_takes g [.ref (bM 0), .ref (adK g i0)] (cM g bM vM) (cM g bM vM1) r 0 0 := by
  unfold CtI
  intro sz
  refine Met.ofW (cc := cX8_takes) (maxL := 4) (ret := (some .boolean)) (by decide) rfl ?_
  intro p e s m args below meth c s₁ B hml hv
  obtain ⟨rfl, hsz, hP, hK, hD0, hG⟩ := hv
  have hx := B.exec
  have hb := B.bytes
  have hr := B.returns
  have hts := atoms_spec (ws := wsX8_takes) B.pre
  have hown : s.vm.findClass RX8 = some m.cls := findClass_of_methodNamed B.named
  have hlocks := B.notSynchronized
  subst hsz
  have hD := hD0.self (sz := s.heap.size)
  generalize hAe : va_A (cM g bM vM) s.heap.size = A at hD hG ⊢
  have hA : ∀ q : Nat, s.heap.size ≤ q → A q := fun q h => by rw [← hAe]; exact Or.inr h
  clear hAe hD0
  have hS : va_S A s.heap s.heap [] := va_S.rf
  have hl := lv_entry ([.ref (bM 0), .ref (adK g i0)]) (n := 4) (Nat.le_of_ble_eq_true rfl)
  rw [lg_entry_eq]
  generalize (lg_sl ([.ref (bM 0), .ref (adK g i0)]) ++ List.replicate (4 - (lg_sl ([.ref (bM 0), .ref (adK g i0)])).length) Slot.unset).toArray = ls at hl ⊢
  have hl : lv_has ls 4 [(0, .ref (bM 0)), (1, .ref (adK g i0))] := hl
  have htu : ∀ w ∈ UW, w.before _ s = true := fun w h => hts w (List.mem_cons_of_mem _ h)
  have k_5_86 := htu _ mw_5_86
  have k_5_85 := htu _ mw_5_85
  have k_5_83 := htu _ mw_5_83
  unfold f_X8_takes at hf
  obtain ⟨H, hH⟩ : ∃ z, z = s.heap := ⟨_, rfl⟩
  obtain ⟨locs, hlo⟩ : ∃ z : List Loc, z = [] := ⟨_, rfl⟩
  have hS : va_S A s.heap H locs := by rw [hH, hlo]; exact hS
  rw [← hH] at hP
  have hW : W p l e (headSpec wsX8_takes rmX8_takes).room s m ([.ref (bM 0), .ref (adK g i0)] : List Value).toArray below meth c H locs 0 0 (MQ below (qI g A (cM g bM vM1) r) ([.ref (bM 0), .ref (adK g i0)] : List Value).toArray s 0 0 A) (F0 m 0 ls []) := by
    refine lv_aload_n hx hb dX8_takes_0 rfl (lv_at hl 0 rfl) ?_
    obtain ⟨r1, vM_2, hg3, hf⟩ := o2_at hf
    refine k_viW ⟨hx, hb, hml, hown, htu⟩ hK hP hD hS hA hG (c_X8_here l g bM vM r1 vM_2 hg3) (cwV 0 htu (gU_V mw_5_179 hcX8_here) rfl rfl rfl hdX8_here ⟨Nat.le_of_ble_eq_true rfl, Nat.le_of_ble_eq_true rfl⟩) (q0 := 0) (ci := 8) (fs := fcM bM vM) (q := (RX8, TX8, 23)) rfl rfl rfl (As := []) (rest := []) rfl rfl hl.1 (Nat.le_of_ble_eq_true rfl) dX8_takes_1 (k1 := 0) (n1 := 0) rfl rfl ⟨Nat.zero_le _, Nat.zero_le _⟩ (fun H locs hP hD hS => ?_)
    refine lv_pop hx hb dX8_takes_4 rfl ?_
    refine lv_iconst (v := (0 : Int32)) hx hb dX8_takes_5 (by decide) ?_
    refine lv_istore_n (lv' := [(2, .int (0 : Int32)), (0, .ref (bM 0)), (1, .ref (adK g i0))]) hx hb dX8_takes_6 rfl hl (by decide) rfl (fun ls hl => ?_)
    have hL6 : ∀ (x2_4 : Int32), lp (f_X8_takes_L7 i0 vM_2) (fun _ => none) FU x2_4 = some (r, vM1) → ∀ (H : Heap) (locs : List Loc), va_P g.1 vwCl (cM g bM vM_2) H → va_D A (cM g bM vM_2) → va_S A s.heap H locs → ∀ ls : Array Slot, lv_has ls 4 [(0, .ref (bM 0)), (1, .ref (adK g i0)), (2, .int x2_4)] → W p l e (headSpec wsX8_takes rmX8_takes).room s m ([.ref (bM 0), .ref (adK g i0)] : List Value).toArray below meth c H locs 0 0 (MQ below (qI g A (cM g bM vM1) r) ([.ref (bM 0), .ref (adK g i0)] : List Value).toArray s 0 0 A) (F0 m 7 ls []) := by
      refine lp_ind (T := Int32 → Option (Int32 × Vs)) (fun self5 => ∀ (x2_4 : Int32), self5 x2_4 = some (r, vM1) → ∀ (H : Heap) (locs : List Loc), va_P g.1 vwCl (cM g bM vM_2) H → va_D A (cM g bM vM_2) → va_S A s.heap H locs → ∀ ls : Array Slot, lv_has ls 4 [(0, .ref (bM 0)), (1, .ref (adK g i0)), (2, .int x2_4)] → W p l e (headSpec wsX8_takes rmX8_takes).room s m ([.ref (bM 0), .ref (adK g i0)] : List Value).toArray below meth c H locs 0 0 (MQ below (qI g A (cM g bM vM1) r) ([.ref (bM 0), .ref (adK g i0)] : List Value).toArray s 0 0 A) (F0 m 7 ls [])) ?_ ?_ FU
      · intro x2_4 hf; cases hf
      · intro self5 ih7 x2_4 hf H locs hP hD hS ls hl
        unfold f_X8_takes_L7 at hf
        refine lv_aload_n hx hb dX8_takes_7 rfl (lv_at hl 0 rfl) ?_
        refine va_get (D := g.1) (ci := 8) (fs := fcM bM vM_2) (v := .int (vM_2.1 14)) (C := RX8) (T := TX8) (N := 23) hx hb htu hinX8 hown hK hP 0 rfl rfl 14 (by decide) k_5_86 (fun _ h9 => h9) rfl dX8_takes_8 ?_
        refine lv_iload_n hx hb dX8_takes_11 rfl (lv_at hl 2 rfl) ?_
        refine lv_iadd hx hb dX8_takes_12 ?_
        refine lv_aload_n hx hb dX8_takes_13 rfl (lv_at hl 0 rfl) ?_
        refine va_get (D := g.1) (ci := 8) (fs := fcM bM vM_2) (v := .int (vM_2.1 13)) (C := RX8) (T := TX8) (N := 23) hx hb htu hinX8 hown hK hP 0 rfl rfl 13 (by decide) k_5_85 (fun _ h9 => h9) rfl dX8_takes_14 ?_
        obtain ⟨k8, hk32, hf⟩ := jn_at hf
        have hJ9 : k8 = some (r, vM1) → ∀ (H : Heap) (locs : List Loc), va_P g.1 vwCl (cM g bM vM_2) H → va_D A (cM g bM vM_2) → va_S A s.heap H locs → ∀ ls : Array Slot, lv_has ls 4 [(0, .ref (bM 0)), (1, .ref (adK g i0)), (2, .int x2_4)] → W p l e (headSpec wsX8_takes rmX8_takes).room s m ([.ref (bM 0), .ref (adK g i0)] : List Value).toArray below meth c H locs 0 0 (MQ below (qI g A (cM g bM vM1) r) ([.ref (bM 0), .ref (adK g i0)] : List Value).toArray s 0 0 A) (F0 m 43 ls []) := by
          intro hf H locs hP hD hS ls hl
          rw [hk32] at hf
          clear hk32
          refine lv_iload_n hx hb dX8_takes_43 rfl (lv_at hl 2 rfl) ?_
          refine lv_aload_n hx hb dX8_takes_44 rfl (lv_at hl 1 rfl) ?_
          obtain ⟨r10, hg11, hf⟩ := o1_at hf
          refine k_viS ⟨hx, hb, hml, hown, htu⟩ hK hP hD hS hA hG (c_J0_length_8abf5 l g i0 hi0 r10 hg11) (cwV 0 htu (gU_V mw_5_186 hcJ0_length_8abf5) rfl rfl rfl hdJ0_length_8abf5 ⟨Nat.le_of_ble_eq_true rfl, Nat.le_of_ble_eq_true rfl⟩) (vk_recv hG.2.2.1 hi0 hS) (As := []) (rest := [.int x2_4]) rfl rfl hl.1 (Nat.le_of_ble_eq_true rfl) dX8_takes_45 (k1 := 0) (n1 := 0) rfl rfl ⟨Nat.zero_le _, Nat.zero_le _⟩ (fun H locs hP hD hS => ?_)
          refine lv_icmp_eq (tgt := 53) hx hb dX8_takes_48 (by decide) (fun c12 => ?_) (fun c12 => ?_)
          · have hf := it_t hf c12
            refine lv_iconst (v := (0 : Int32)) hx hb dX8_takes_53 (by decide) ?_
            refine lv_istore_n (lv' := [(3, .int (0 : Int32)), (0, .ref (bM 0)), (1, .ref (adK g i0)), (2, .int x2_4)]) hx hb dX8_takes_54 rfl hl (by decide) rfl (fun ls hl => ?_)
            have hL15 : ∀ (x3_13 : Int32), lp (f_X8_takes_L55 i0 vM_2 x2_4) (fun _ => none) FU x3_13 = some (r, vM1) → ∀ (H : Heap) (locs : List Loc), va_P g.1 vwCl (cM g bM vM_2) H → va_D A (cM g bM vM_2) → va_S A s.heap H locs → ∀ ls : Array Slot, lv_has ls 4 [(0, .ref (bM 0)), (1, .ref (adK g i0)), (2, .int x2_4), (3, .int x3_13)] → W p l e (headSpec wsX8_takes rmX8_takes).room s m ([.ref (bM 0), .ref (adK g i0)] : List Value).toArray below meth c H locs 0 0 (MQ below (qI g A (cM g bM vM1) r) ([.ref (bM 0), .ref (adK g i0)] : List Value).toArray s 0 0 A) (F0 m 55 ls []) := by
              refine lp_ind (T := Int32 → Option (Int32 × Vs)) (fun self14 => ∀ (x3_13 : Int32), self14 x3_13 = some (r, vM1) → ∀ (H : Heap) (locs : List Loc), va_P g.1 vwCl (cM g bM vM_2) H → va_D A (cM g bM vM_2) → va_S A s.heap H locs → ∀ ls : Array Slot, lv_has ls 4 [(0, .ref (bM 0)), (1, .ref (adK g i0)), (2, .int x2_4), (3, .int x3_13)] → W p l e (headSpec wsX8_takes rmX8_takes).room s m ([.ref (bM 0), .ref (adK g i0)] : List Value).toArray below meth c H locs 0 0 (MQ below (qI g A (cM g bM vM1) r) ([.ref (bM 0), .ref (adK g i0)] : List Value).toArray s 0 0 A) (F0 m 55 ls [])) ?_ ?_ FU
              · intro x3_13 hf; cases hf
              · intro self14 ih16 x3_13 hf H locs hP hD hS ls hl
                unfold f_X8_takes_L55 at hf
                refine lv_iload_n hx hb dX8_takes_55 rfl (lv_at hl 3 rfl) ?_
                refine lv_iload_n hx hb dX8_takes_56 rfl (lv_at hl 2 rfl) ?_
                refine lv_icmp_ge (tgt := 87) hx hb dX8_takes_57 (by decide) (fun c17 => ?_) (fun c17 => ?_)
                · have hf := it_t hf c17
                  refine lv_aload_n hx hb dX8_takes_87 rfl (lv_at hl 0 rfl) ?_
                  refine lv_dup hx hb dX8_takes_88 rfl ?_
                  refine va_get (D := g.1) (ci := 8) (fs := fcM bM vM_2) (v := .int (vM_2.1 14)) (C := RX8) (T := TX8) (N := 23) hx hb htu hinX8 hown hK hP 0 rfl rfl 14 (by decide) k_5_86 (fun _ h9 => h9) rfl dX8_takes_89 ?_
                  refine lv_iload_n hx hb dX8_takes_92 rfl (lv_at hl 2 rfl) ?_
                  refine lv_iadd hx hb dX8_takes_93 ?_
                  refine va_put (D := g.1) (ci := 8) (fs := fcM bM vM_2) (v := .int ((vM_2.1 14) + x2_4)) (ty := .int) (C := RX8) (T := TX8) (N := 23) hx hb htu hinX8 tyX8 tyX8_ok nmX8 hown hK hP hD hS 0 rfl rfl 14 (by decide) k_5_86 (fun _ h9 => h9) rfl (by decide +kernel) rfl rfl (Nat.le_of_ble_eq_true rfl) dX8_takes_94 (fun H locs hP hD hS => ?_)
                  obtain ⟨vM_18, evM_18⟩ : ∃ z, z = sF vM_2 14 ((vM_2.1 14) + x2_4) := ⟨_, rfl⟩
                  have hf := bn_at hf evM_18
                  have hP : va_P g.1 vwCl (cM g bM vM_18) H := by rw [evM_18]; exact hP
                  have hD : va_D A (cM g bM vM_18) := by rw [evM_18]; exact hD
                  refine lv_iconst (v := (1 : Int32)) hx hb dX8_takes_97 (by decide) ?_
                  obtain ⟨h19, hf⟩ := gd_isB hf
                  obtain ⟨e20, e21⟩ := kp_2 hf
                  rw [e21] at hP hD
                  exact k_zret hx hb hr hlocks hK hP hD hS e20 h19 dX8_takes_98
                · have hf := it_f hf c17
                  refine lv_aload_n hx hb dX8_takes_60 rfl (lv_at hl 0 rfl) ?_
                  refine va_get (D := g.1) (ci := 8) (fs := fcM bM vM_2) (v := .ref (bM 12)) (C := RX8) (T := TX8) (N := 23) hx hb htu hinX8 hown hK hP 0 rfl rfl 11 (by decide) k_5_83 (fun _ h9 => h9) rfl dX8_takes_61 ?_
                  refine lv_aload_n hx hb dX8_takes_64 rfl (lv_at hl 0 rfl) ?_
                  refine va_get (D := g.1) (ci := 8) (fs := fcM bM vM_2) (v := .int (vM_2.1 14)) (C := RX8) (T := TX8) (N := 23) hx hb htu hinX8 hown hK hP 0 rfl rfl 14 (by decide) k_5_86 (fun _ h9 => h9) rfl dX8_takes_65 ?_
                  refine lv_iload_n hx hb dX8_takes_68 rfl (lv_at hl 3 rfl) ?_
                  refine lv_iadd hx hb dX8_takes_69 ?_
                  obtain ⟨h22, hf⟩ := gd_in hf
                  refine va_iald (D := g.1) (f := (vM_2.2.1 11)) hx hb hK hP 9 0 rfl rfl h22 dX8_takes_70 ?_
                  refine lv_aload_n hx hb dX8_takes_71 rfl (lv_at hl 1 rfl) ?_
                  refine lv_iload_n hx hb dX8_takes_72 rfl (lv_at hl 3 rfl) ?_
                  obtain ⟨r23, hg24, hf⟩ := o1_at hf
                  refine k_viS ⟨hx, hb, hml, hown, htu⟩ hK hP hD hS hA hG (c_J0_charAt_5068e l g x3_13 i0 hi0 r23 hg24) (cwV 1 htu (gU_V mw_5_187 hcJ0_charAt_5068e) rfl rfl rfl hdJ0_charAt_5068e ⟨Nat.le_of_ble_eq_true rfl, Nat.le_of_ble_eq_true rfl⟩) (vk_recv hG.2.2.1 hi0 hS) (As := [.int x3_13]) (rest := [.int (vM_2.2.1 11 (((vM_2.1 14) + x3_13)).toNatClampNeg)]) rfl rfl hl.1 (Nat.le_of_ble_eq_true rfl) dX8_takes_73 (k1 := 0) (n1 := 0) rfl rfl ⟨Nat.zero_le _, Nat.zero_le _⟩ (fun H locs hP hD hS => ?_)
                  refine lv_icmp_eq (tgt := 81) hx hb dX8_takes_76 (by decide) (fun c25 => ?_) (fun c25 => ?_)
                  · have hf := it_t hf c25
                    refine lv_iinc (v := (x3_13 + (1 : Int32))) (lv' := [(3, .int (x3_13 + (1 : Int32))), (0, .ref (bM 0)), (1, .ref (adK g i0)), (2, .int x2_4)]) hx hb dX8_takes_81 hl (k := 3) rfl rfl (by decide) rfl (fun ls hl => ?_)
                    refine lv_goto (tgt := 55) hx hb dX8_takes_84 (by decide) ?_
                    exact ih16 (x3_13 + (1 : Int32)) hf H locs hP hD hS _ (lv_sub hl [1, 2, 3, 0] rfl)
                  · have hf := it_f hf c25
                    refine lv_iconst (v := (0 : Int32)) hx hb dX8_takes_79 (by decide) ?_
                    obtain ⟨h26, hf⟩ := gd_isB hf
                    obtain ⟨e27, e28⟩ := kp_2 hf
                    rw [e28] at hP hD
                    exact k_zret hx hb hr hlocks hK hP hD hS e27 h26 dX8_takes_80
            exact hL15 (0 : Int32) hf H locs hP hD hS _ (lv_sub hl [1, 2, 3, 0] rfl)
          · have hf := it_f hf c12
            refine lv_iconst (v := (0 : Int32)) hx hb dX8_takes_51 (by decide) ?_
            obtain ⟨h29, hf⟩ := gd_isB hf
            obtain ⟨e30, e31⟩ := kp_2 hf
            rw [e31] at hP hD
            exact k_zret hx hb hr hlocks hK hP hD hS e30 h29 dX8_takes_52
        refine lv_icmp_ge (tgt := 43) hx hb dX8_takes_17 (by decide) (fun c33 => ?_) (fun c33 => ?_)
        · have hf := it_t hf c33
          exact hJ9 hf H locs hP hD hS _ (lv_sub hl [0, 1, 2] rfl)
        · have hf := it_f hf c33
          refine lv_aload_n hx hb dX8_takes_20 rfl (lv_at hl 0 rfl) ?_
          refine va_get (D := g.1) (ci := 8) (fs := fcM bM vM_2) (v := .ref (bM 12)) (C := RX8) (T := TX8) (N := 23) hx hb htu hinX8 hown hK hP 0 rfl rfl 11 (by decide) k_5_83 (fun _ h9 => h9) rfl dX8_takes_21 ?_
          refine lv_aload_n hx hb dX8_takes_24 rfl (lv_at hl 0 rfl) ?_
          refine va_get (D := g.1) (ci := 8) (fs := fcM bM vM_2) (v := .int (vM_2.1 14)) (C := RX8) (T := TX8) (N := 23) hx hb htu hinX8 hown hK hP 0 rfl rfl 14 (by decide) k_5_86 (fun _ h9 => h9) rfl dX8_takes_25 ?_
          refine lv_iload_n hx hb dX8_takes_28 rfl (lv_at hl 2 rfl) ?_
          refine lv_iadd hx hb dX8_takes_29 ?_
          obtain ⟨h34, hf⟩ := gd_in hf
          refine va_iald (D := g.1) (f := (vM_2.2.1 11)) hx hb hK hP 9 0 rfl rfl h34 dX8_takes_30 ?_
          obtain ⟨r35, hg36, hf⟩ := o1_at hf
          refine k_si0 ⟨hx, hb, hml, hown, htu⟩ hK hP hD hS hA hG (c_X8_isLetter l g (vM_2.2.1 11 (((vM_2.1 14) + x2_4)).toNatClampNeg) r35 hg36) (va_cwS 1 htu (gU_S mw_5_183 hcX8_isLetter) rfl rfl rfl hdX8_isLetter ⟨Nat.le_of_ble_eq_true rfl, Nat.le_of_ble_eq_true rfl⟩) (As := [.int (vM_2.2.1 11 (((vM_2.1 14) + x2_4)).toNatClampNeg)]) (rest := []) rfl rfl hl.1 (Nat.le_of_ble_eq_true rfl) dX8_takes_31 (k1 := 0) (n1 := 0) rfl rfl ⟨Nat.zero_le _, Nat.zero_le _⟩ (fun H locs hP hD hS => ?_)
          refine lv_if_eq (tgt := 43) hx hb dX8_takes_34 (by decide) (fun c37 => ?_) (fun c37 => ?_)
          · have hf := it_t hf c37
            exact hJ9 hf H locs hP hD hS _ (lv_sub hl [0, 1, 2] rfl)
          · have hf := it_f hf c37
            refine lv_iinc (v := (x2_4 + (1 : Int32))) (lv' := [(2, .int (x2_4 + (1 : Int32))), (0, .ref (bM 0)), (1, .ref (adK g i0))]) hx hb dX8_takes_37 hl (k := 2) rfl rfl (by decide) rfl (fun ls hl => ?_)
            refine lv_goto (tgt := 7) hx hb dX8_takes_40 (by decide) ?_
            exact ih7 (x2_4 + (1 : Int32)) hf H locs hP hD hS _ (lv_sub hl [1, 2, 0] rfl)
    exact hL6 (0 : Int32) hf H locs hP hD hS _ (lv_sub hl [1, 2, 0] rfl)
  rw [hH, hlo] at hW
  exact hW
