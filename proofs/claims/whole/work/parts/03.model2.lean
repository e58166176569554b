def f_X8_here_L0 (self2 : Vs → Option (Int32 × Vs)) (vM_1 : Vs) : Option (Int32 × Vs) :=
  jn (jn (fun (t7 : Int32) => some (t7, vM_1)) (fun k8 => if (vM_1.1 13) ≤ (vM_1.1 14) then k8 (-1 : Int32) else gd (inb (vM_1.1 14) 800) (k8 (vM_1.2.1 11 ((vM_1.1 14)).toNatClampNeg)))) (fun k5 => if (vM_1.1 13) ≤ (vM_1.1 14) then k5 else gd (inb (vM_1.1 14) 800) (if (vM_1.2.1 11 ((vM_1.1 14)).toNatClampNeg) = (32 : Int32) then bn (sF vM_1 14 ((vM_1.1 14) + (1 : Int32))) (fun (vM_19 : Vs) => self2 vM_19) else k5))
def f_X8_here (vM : Vs) : Option (Int32 × Vs) :=
  lp f_X8_here_L0 (fun _ => none) FU vM
abbrev wsX8_here : List Cond := .code yX8_here cX8_here 1 (some .int) :: UW
abbrev rmX8_here : Room := { frames := 0, cells := 0, slots := 0, locals := 0 }
set_option maxHeartbeats 4000000 in
set_option maxRecDepth 100000 in
theorem c_X8_here (l : Launch) (g : Gx) (bM : Nat → Nat) (vM : Vs) (r : Int32) (vM1 : Vs) (hf : f_X8_here vM = some (r, vM1)) : CtI l yX8_here wsX8_here rmX8_here g [.ref (bM 0)] (cM g bM vM) (cM g bM vM1) r 0 0 := by
  unfold CtI
  intro sz
  refine Met.ofW (cc := cX8_here) (maxL := 1) (ret := (some .int)) (by decide) rfl ?_
  intro p e s m args below meth c s₁ B hml hv
  obtain ⟨rfl, hsz, hP, hK, hD0, hG⟩ := hv
  have hx := B.exec
  have hb := B.bytes
  have hr := B.returns
  have hts := atoms_spec (ws := wsX8_here) B.pre
  have hown : s.vm.findClass RX8 = some m.cls := findClass_of_methodNamed B.named
  have hlocks := B.notSynchronized
  subst hsz
  have hD := hD0.self (sz := s.heap.size)
  generalize hAe : va_A (cM g bM vM) s.heap.size = A at hD hG ⊢
  have hA : ∀ q : Nat, s.heap.size ≤ q → A q := fun q h => by rw [← hAe]; exact Or.inr h
  clear hAe hD0
  have hS : va_S A s.heap s.heap [] := va_S.rf
  have hl := lv_entry ([.ref (bM 0)]) (n := 1) (Nat.le_of_ble_eq_true rfl)
  rw [lg_entry_eq]
  generalize (lg_sl ([.ref (bM 0)]) ++ List.replicate (1 - (lg_sl ([.ref (bM 0)])).length) Slot.unset).toArray = ls at hl ⊢
  have hl : lv_has ls 1 [(0, .ref (bM 0))] := hl
  have htu : ∀ w ∈ UW, w.before _ s = true := fun w h => hts w (List.mem_cons_of_mem _ h)
  have k_5_86 := htu _ mw_5_86
  have k_5_85 := htu _ mw_5_85
  have k_5_83 := htu _ mw_5_83
  unfold f_X8_here at hf
  obtain ⟨H, hH⟩ : ∃ z, z = s.heap := ⟨_, rfl⟩
  obtain ⟨locs, hlo⟩ : ∃ z : List Loc, z = [] := ⟨_, rfl⟩
  have hS : va_S A s.heap H locs := by rw [hH, hlo]; exact hS
  rw [← hH] at hP
  have hW : W p l e (headSpec wsX8_here rmX8_here).room s m ([.ref (bM 0)] : List Value).toArray below meth c H locs 0 0 (MQ below (qI g A (cM g bM vM1) r) ([.ref (bM 0)] : List Value).toArray s 0 0 A) (F0 m 0 ls []) := by
    have hL3 : ∀ (vM_1 : Vs), lp f_X8_here_L0 (fun _ => none) FU vM_1 = some (r, vM1) → ∀ (H : Heap) (locs : List Loc), va_P g.1 vwCl (cM g bM vM_1) H → va_D A (cM g bM vM_1) → va_S A s.heap H locs → ∀ ls : Array Slot, lv_has ls 1 [(0, .ref (bM 0))] → W p l e (headSpec wsX8_here rmX8_here).room s m ([.ref (bM 0)] : List Value).toArray below meth c H locs 0 0 (MQ below (qI g A (cM g bM vM1) r) ([.ref (bM 0)] : List Value).toArray s 0 0 A) (F0 m 0 ls []) := by
      refine lp_ind (T := Vs → Option (Int32 × Vs)) (fun self2 => ∀ (vM_1 : Vs), self2 vM_1 = some (r, vM1) → ∀ (H : Heap) (locs : List Loc), va_P g.1 vwCl (cM g bM vM_1) H → va_D A (cM g bM vM_1) → va_S A s.heap H locs → ∀ ls : Array Slot, lv_has ls 1 [(0, .ref (bM 0))] → W p l e (headSpec wsX8_here rmX8_here).room s m ([.ref (bM 0)] : List Value).toArray below meth c H locs 0 0 (MQ below (qI g A (cM g bM vM1) r) ([.ref (bM 0)] : List Value).toArray s 0 0 A) (F0 m 0 ls [])) ?_ ?_ FU
      · intro vM_1 hf; cases hf
      · intro self2 ih4 vM_1 hf H locs hP hD hS ls hl
        unfold f_X8_here_L0 at hf
        refine lv_aload_n hx hb dX8_here_0 rfl (lv_at hl 0 rfl) ?_
        refine va_get (D := g.1) (ci := 8) (fs := fcM bM vM_1) (v := .int (vM_1.1 14)) (C := RX8) (T := TX8) (N := 23) hx hb htu hinX8 hown hK hP 0 rfl rfl 14 (by decide) k_5_86 (fun _ h9 => h9) rfl dX8_here_1 ?_
        refine lv_aload_n hx hb dX8_here_4 rfl (lv_at hl 0 rfl) ?_
        refine va_get (D := g.1) (ci := 8) (fs := fcM bM vM_1) (v := .int (vM_1.1 13)) (C := RX8) (T := TX8) (N := 23) hx hb htu hinX8 hown hK hP 0 rfl rfl 13 (by decide) k_5_85 (fun _ h9 => h9) rfl dX8_here_5 ?_
        obtain ⟨k5, hk15, hf⟩ := jn_at hf
        have hJ6 : k5 = some (r, vM1) → ∀ (H : Heap) (locs : List Loc), va_P g.1 vwCl (cM g bM vM_1) H → va_D A (cM g bM vM_1) → va_S A s.heap H locs → ∀ ls : Array Slot, lv_has ls 1 [(0, .ref (bM 0))] → W p l e (headSpec wsX8_here rmX8_here).room s m ([.ref (bM 0)] : List Value).toArray below meth c H locs 0 0 (MQ below (qI g A (cM g bM vM1) r) ([.ref (bM 0)] : List Value).toArray s 0 0 A) (F0 m 38 ls []) := by
          intro hf H locs hP hD hS ls hl
          rw [hk15] at hf
          clear hk15
          refine lv_aload_n hx hb dX8_here_38 rfl (lv_at hl 0 rfl) ?_
          refine va_get (D := g.1) (ci := 8) (fs := fcM bM vM_1) (v := .int (vM_1.1 14)) (C := RX8) (T := TX8) (N := 23) hx hb htu hinX8 hown hK hP 0 rfl rfl 14 (by decide) k_5_86 (fun _ h9 => h9) rfl dX8_here_39 ?_
          refine lv_aload_n hx hb dX8_here_42 rfl (lv_at hl 0 rfl) ?_
          refine va_get (D := g.1) (ci := 8) (fs := fcM bM vM_1) (v := .int (vM_1.1 13)) (C := RX8) (T := TX8) (N := 23) hx hb htu hinX8 hown hK hP 0 rfl rfl 13 (by decide) k_5_85 (fun _ h9 => h9) rfl dX8_here_43 ?_
          obtain ⟨k8, hk12, hf⟩ := jn_at hf
          have hJ9 : ∀ (t7 : Int32), k8 t7 = some (r, vM1) → ∀ (H : Heap) (locs : List Loc), va_P g.1 vwCl (cM g bM vM_1) H → va_D A (cM g bM vM_1) → va_S A s.heap H locs → ∀ ls : Array Slot, lv_has ls 1 [] → W p l e (headSpec wsX8_here rmX8_here).room s m ([.ref (bM 0)] : List Value).toArray below meth c H locs 0 0 (MQ below (qI g A (cM g bM vM1) r) ([.ref (bM 0)] : List Value).toArray s 0 0 A) (F0 m 62 ls [.int t7]) := by
            intro t7 hf H locs hP hD hS ls hl
            rw [hk12] at hf
            dsimp only at hf
            clear hk12
            obtain ⟨e10, e11⟩ := kp_2 hf
            rw [e11] at hP hD
            exact k_iret hx hb hr hlocks hK hP hD hS e10 dX8_here_62
          refine lv_icmp_ge (tgt := 61) hx hb dX8_here_46 (by decide) (fun c13 => ?_) (fun c13 => ?_)
          · have hf := it_t hf c13
            refine lv_iconst (v := (-1 : Int32)) hx hb dX8_here_61 (by decide) ?_
            exact hJ9 (-1 : Int32) hf H locs hP hD hS _ (lv_sub hl [] rfl)
          · have hf := it_f hf c13
            refine lv_aload_n hx hb dX8_here_49 rfl (lv_at hl 0 rfl) ?_
            refine va_get (D := g.1) (ci := 8) (fs := fcM bM vM_1) (v := .ref (bM 12)) (C := RX8) (T := TX8) (N := 23) hx hb htu hinX8 hown hK hP 0 rfl rfl 11 (by decide) k_5_83 (fun _ h9 => h9) rfl dX8_here_50 ?_
            refine lv_aload_n hx hb dX8_here_53 rfl (lv_at hl 0 rfl) ?_
            refine va_get (D := g.1) (ci := 8) (fs := fcM bM vM_1) (v := .int (vM_1.1 14)) (C := RX8) (T := TX8) (N := 23) hx hb htu hinX8 hown hK hP 0 rfl rfl 14 (by decide) k_5_86 (fun _ h9 => h9) rfl dX8_here_54 ?_
            obtain ⟨h14, hf⟩ := gd_in hf
            refine va_iald (D := g.1) (f := (vM_1.2.1 11)) hx hb hK hP 9 0 rfl rfl h14 dX8_here_57 ?_
            refine lv_goto (tgt := 62) hx hb dX8_here_58 (by decide) ?_
            exact hJ9 (vM_1.2.1 11 ((vM_1.1 14)).toNatClampNeg) hf H locs hP hD hS _ (lv_sub hl [] rfl)
        refine lv_icmp_ge (tgt := 38) hx hb dX8_here_8 (by decide) (fun c16 => ?_) (fun c16 => ?_)
        · have hf := it_t hf c16
          exact hJ6 hf H locs hP hD hS _ (lv_sub hl [0] rfl)
        · have hf := it_f hf c16
          refine lv_aload_n hx hb dX8_here_11 rfl (lv_at hl 0 rfl) ?_
          refine va_get (D := g.1) (ci := 8) (fs := fcM bM vM_1) (v := .ref (bM 12)) (C := RX8) (T := TX8) (N := 23) hx hb htu hinX8 hown hK hP 0 rfl rfl 11 (by decide) k_5_83 (fun _ h9 => h9) rfl dX8_here_12 ?_
          refine lv_aload_n hx hb dX8_here_15 rfl (lv_at hl 0 rfl) ?_
          refine va_get (D := g.1) (ci := 8) (fs := fcM bM vM_1) (v := .int (vM_1.1 14)) (C := RX8) (T := TX8) (N := 23) hx hb htu hinX8 hown hK hP 0 rfl rfl 14 (by decide) k_5_86 (fun _ h9 => h9) rfl dX8_here_16 ?_
          obtain ⟨h17, hf⟩ := gd_in hf
          refine va_iald (D := g.1) (f := (vM_1.2.1 11)) hx hb hK hP 9 0 rfl rfl h17 dX8_here_19 ?_
          refine lv_bipush (v := (32 : Int32)) hx hb dX8_here_20 (by decide) ?_
          refine lv_icmp_ne (tgt := 38) hx hb dX8_here_22 (by decide) (fun c18 => ?_) (fun c18 => ?_)
          · have hf := it_f hf c18
            exact hJ6 hf H locs hP hD hS _ (lv_sub hl [0] rfl)
          · have hf := it_t hf c18
            refine lv_aload_n hx hb dX8_here_25 rfl (lv_at hl 0 rfl) ?_
            refine lv_dup hx hb dX8_here_26 rfl ?_
            refine va_get (D := g.1) (ci := 8) (fs := fcM bM vM_1) (v := .int (vM_1.1 14)) (C := RX8) (T := TX8) (N := 23) hx hb htu hinX8 hown hK hP 0 rfl rfl 14 (by decide) k_5_86 (fun _ h9 => h9) rfl dX8_here_27 ?_
            refine lv_iconst (v := (1 : Int32)) hx hb dX8_here_30 (by decide) ?_
            refine lv_iadd hx hb dX8_here_31 ?_
            refine va_put (D := g.1) (ci := 8) (fs := fcM bM vM_1) (v := .int ((vM_1.1 14) + (1 : Int32))) (ty := .int) (C := RX8) (T := TX8) (N := 23) hx hb htu hinX8 tyX8 tyX8_ok nmX8 hown hK hP hD hS 0 rfl rfl 14 (by decide) k_5_86 (fun _ h9 => h9) rfl (by decide +kernel) rfl rfl (Nat.le_of_ble_eq_true rfl) dX8_here_32 (fun H locs hP hD hS => ?_)
            obtain ⟨vM_19, evM_19⟩ : ∃ z, z = sF vM_1 14 ((vM_1.1 14) + (1 : Int32)) := ⟨_, rfl⟩
            have hf := bn_at hf evM_19
            have hP : va_P g.1 vwCl (cM g bM vM_19) H := by rw [evM_19]; exact hP
            have hD : va_D A (cM g bM vM_19) := by rw [evM_19]; exact hD
            refine lv_goto (tgt := 0) hx hb dX8_here_35 (by decide) ?_
            exact ih4 vM_19 hf H locs hP hD hS _ (lv_sub hl [0] rfl)
    exact hL3 vM hf H locs hP hD hS _ (lv_sub hl [0] rfl)
  rw [hH, hlo] at hW
  exact hW
def f_X8_isLetter (x0 : Int32) : Option (Int32) :=
  jn (fun (t1 : Int32) => gd (isB t1) (some (t1))) (fun k2 => jn (k2 (0 : Int32)) (fun k7 => if x0 < (97 : Int32) then k7 else if (122 : Int32) < x0 then k7 else k2 (1 : Int32)))
abbrev wsX8_isLetter : List Cond := .code yX8_isLetter cX8_isLetter 1 (some .boolean) :: UW
abbrev rmX8_isLetter : Room := { frames := 0, cells := 0, slots := 0, locals := 0 }
set_option maxHeartbeats 4000000 in
set_option maxRecDepth 100000 in
theorem c_X8_isLetter (l : Launch) (g : Gx) (x0 : Int32) (r : Int32) (hf : f_X8_isLetter x0 = some r) : CtI l yX8_isLetter wsX8_isLetter rmX8_isLetter g [.int x0] ([]) ([]) r 0 0 := by
  unfold CtI
  intro sz
  refine Met.ofW (cc := cX8_isLetter) (maxL := 1) (ret := (some .boolean)) (by decide) rfl ?_
  intro p e s m args below meth c s₁ B hml hv
  obtain ⟨rfl, hsz, hP, hK, hD0, hG⟩ := hv
  have hx := B.exec
  have hb := B.bytes
  have hr := B.returns
  have hts := atoms_spec (ws := wsX8_isLetter) B.pre
  have hown : s.vm.findClass RX8 = some m.cls := findClass_of_methodNamed B.named
  have hlocks := B.notSynchronized
  subst hsz
  have hD := hD0.self (sz := s.heap.size)
  generalize hAe : va_A ([]) s.heap.size = A at hD hG ⊢
  have hA : ∀ q : Nat, s.heap.size ≤ q → A q := fun q h => by rw [← hAe]; exact Or.inr h
  clear hAe hD0
  have hS : va_S A s.heap s.heap [] := va_S.rf
  have hl := lv_entry ([.int x0]) (n := 1) (Nat.le_of_ble_eq_true rfl)
  rw [lg_entry_eq]
  generalize (lg_sl ([.int x0]) ++ List.replicate (1 - (lg_sl ([.int x0])).length) Slot.unset).toArray = ls at hl ⊢
  have hl : lv_has ls 1 [(0, .int x0)] := hl
  have htu : ∀ w ∈ UW, w.before _ s = true := fun w h => hts w (List.mem_cons_of_mem _ h)
  unfold f_X8_isLetter at hf
  obtain ⟨H, hH⟩ : ∃ z, z = s.heap := ⟨_, rfl⟩
  obtain ⟨locs, hlo⟩ : ∃ z : List Loc, z = [] := ⟨_, rfl⟩
  have hS : va_S A s.heap H locs := by rw [hH, hlo]; exact hS
  rw [← hH] at hP
  have hW : W p l e (headSpec wsX8_isLetter rmX8_isLetter).room s m ([.int x0] : List Value).toArray below meth c H locs 0 0 (MQ below (qI g A ([]) r) ([.int x0] : List Value).toArray s 0 0 A) (F0 m 0 ls []) := by
    refine lv_iload_n hx hb dX8_isLetter_0 rfl (lv_at hl 0 rfl) ?_
    refine lv_bipush (v := (97 : Int32)) hx hb dX8_isLetter_1 (by decide) ?_
    obtain ⟨k2, hk6, hf⟩ := jn_at hf
    have hJ3 : ∀ (t1 : Int32), k2 t1 = some r → ∀ (H : Heap) (locs : List Loc), va_P g.1 vwCl ([]) H → va_D A ([]) → va_S A s.heap H locs → ∀ ls : Array Slot, lv_has ls 1 [] → W p l e (headSpec wsX8_isLetter rmX8_isLetter).room s m ([.int x0] : List Value).toArray below meth c H locs 0 0 (MQ below (qI g A ([]) r) ([.int x0] : List Value).toArray s 0 0 A) (F0 m 17 ls [.int t1]) := by
      intro t1 hf H locs hP hD hS ls hl
      rw [hk6] at hf
      dsimp only at hf
      clear hk6
      obtain ⟨h4, hf⟩ := gd_isB hf
      have e5 := Option.some.inj hf
      exact k_zret hx hb hr hlocks hK hP hD hS e5 h4 dX8_isLetter_17
    obtain ⟨k7, hk9, hf⟩ := jn_at hf
    have hJ8 : k7 = some r → ∀ (H : Heap) (locs : List Loc), va_P g.1 vwCl ([]) H → va_D A ([]) → va_S A s.heap H locs → ∀ ls : Array Slot, lv_has ls 1 [] → W p l e (headSpec wsX8_isLetter rmX8_isLetter).room s m ([.int x0] : List Value).toArray below meth c H locs 0 0 (MQ below (qI g A ([]) r) ([.int x0] : List Value).toArray s 0 0 A) (F0 m 16 ls []) := by
      intro hf H locs hP hD hS ls hl
      rw [hk9] at hf
      clear hk9
      refine lv_iconst (v := (0 : Int32)) hx hb dX8_isLetter_16 (by decide) ?_
      exact hJ3 (0 : Int32) hf H locs hP hD hS _ (lv_sub hl [] rfl)
    refine lv_icmp_lt (tgt := 16) hx hb dX8_isLetter_3 (by decide) (fun c10 => ?_) (fun c10 => ?_)
    · have hf := it_t hf c10
      exact hJ8 hf H locs hP hD hS _ (lv_sub hl [] rfl)
    · have hf := it_f hf c10
      refine lv_iload_n hx hb dX8_isLetter_6 rfl (lv_at hl 0 rfl) ?_
      refine lv_bipush (v := (122 : Int32)) hx hb dX8_isLetter_7 (by decide) ?_
      refine lv_icmp_gt (tgt := 16) hx hb dX8_isLetter_9 (by decide) (fun c11 => ?_) (fun c11 => ?_)
      · have hf := it_t hf c11
        exact hJ8 hf H locs hP hD hS _ (lv_sub hl [] rfl)
      · have hf := it_f hf c11
        refine lv_iconst (v := (1 : Int32)) hx hb dX8_isLetter_12 (by decide) ?_
        refine lv_goto (tgt := 17) hx hb dX8_isLetter_13 (by decide) ?_
        exact hJ3 (1 : Int32) hf H locs hP hD hS _ (lv_sub hl [] rfl)
  rw [hH, hlo] at hW
  exact hW
def f_X8_isDigit (x0 : Int32) : Option (Int32) :=
  jn (fun (t1 : Int32) => gd (isB t1) (some (t1))) (fun k2 => jn (k2 (0 : Int32)) (fun k7 => if x0 < (48 : Int32) then k7 else if (57 : Int32) < x0 then k7 else k2 (1 : Int32)))
abbrev wsX8_isDigit : List Cond := .code yX8_isDigit cX8_isDigit 1 (some .boolean) :: UW
abbrev rmX8_isDigit : Room := { frames := 0, cells := 0, slots := 0, locals := 0 }
set_option maxHeartbeats 4000000 in
set_option maxRecDepth 100000 in
theorem c_X8_isDigit (l : Launch) (g : Gx) (x0 : Int32) (r : Int32) (hf : f_X8_isDigit x0 = some r) : CtI l yX8_isDigit wsX8_isDigit rmX8_isDigit g [.int x0] ([]) ([]) r 0 0 := by
  unfold CtI
  intro sz
  refine Met.ofW (cc := cX8_isDigit) (maxL := 1) (ret := (some .boolean)) (by decide) rfl ?_
  intro p e s m args below meth c s₁ B hml hv
  obtain ⟨rfl, hsz, hP, hK, hD0, hG⟩ := hv
  have hx := B.exec
  have hb := B.bytes
  have hr := B.returns
  have hts := atoms_spec (ws := wsX8_isDigit) B.pre
  have hown : s.vm.findClass RX8 = some m.cls := findClass_of_methodNamed B.named
  have hlocks := B.notSynchronized
  subst hsz
  have hD := hD0.self (sz := s.heap.size)
  generalize hAe : va_A ([]) s.heap.size = A at hD hG ⊢
  have hA : ∀ q : Nat, s.heap.size ≤ q → A q := fun q h => by rw [← hAe]; exact Or.inr h
  clear hAe hD0
  have hS : va_S A s.heap s.heap [] := va_S.rf
  have hl := lv_entry ([.int x0]) (n := 1) (Nat.le_of_ble_eq_true rfl)
  rw [lg_entry_eq]
  generalize (lg_sl ([.int x0]) ++ List.replicate (1 - (lg_sl ([.int x0])).length) Slot.unset).toArray = ls at hl ⊢
  have hl : lv_has ls 1 [(0, .int x0)] := hl
  have htu : ∀ w ∈ UW, w.before _ s = true := fun w h => hts w (List.mem_cons_of_mem _ h)
  unfold f_X8_isDigit at hf
  obtain ⟨H, hH⟩ : ∃ z, z = s.heap := ⟨_, rfl⟩
  obtain ⟨locs, hlo⟩ : ∃ z : List Loc, z = [] := ⟨_, rfl⟩
  have hS : va_S A s.heap H locs := by rw [hH, hlo]; exact hS
  rw [← hH] at hP
  have hW : W p l e (headSpec wsX8_isDigit rmX8_isDigit).room s m ([.int x0] : List Value).toArray below meth c H locs 0 0 (MQ below (qI g A ([]) r) ([.int x0] : List Value).toArray s 0 0 A) (F0 m 0 ls []) := by
    refine lv_iload_n hx hb dX8_isDigit_0 rfl (lv_at hl 0 rfl) ?_
    refine lv_bipush (v := (48 : Int32)) hx hb dX8_isDigit_1 (by decide) ?_
    obtain ⟨k2, hk6, hf⟩ := jn_at hf
    have hJ3 : ∀ (t1 : Int32), k2 t1 = some r → ∀ (H : Heap) (locs : List Loc), va_P g.1 vwCl ([]) H → va_D A ([]) → va_S A s.heap H locs → ∀ ls : Array Slot, lv_has ls 1 [] → W p l e (headSpec wsX8_isDigit rmX8_isDigit).room s m ([.int x0] : List Value).toArray below meth c H locs 0 0 (MQ below (qI g A ([]) r) ([.int x0] : List Value).toArray s 0 0 A) (F0 m 17 ls [.int t1]) := by
      intro t1 hf H locs hP hD hS ls hl
      rw [hk6] at hf
      dsimp only at hf
      clear hk6
      obtain ⟨h4, hf⟩ := gd_isB hf
      have e5 := Option.some.inj hf
      exact k_zret hx hb hr hlocks hK hP hD hS e5 h4 dX8_isDigit_17
    obtain ⟨k7, hk9, hf⟩ := jn_at hf
    have hJ8 : k7 = some r → ∀ (H : Heap) (locs : List Loc), va_P g.1 vwCl ([]) H → va_D A ([]) → va_S A s.heap H locs → ∀ ls : Array Slot, lv_has ls 1 [] → W p l e (headSpec wsX8_isDigit rmX8_isDigit).room s m ([.int x0] : List Value).toArray below meth c H locs 0 0 (MQ below (qI g A ([]) r) ([.int x0] : List Value).toArray s 0 0 A) (F0 m 16 ls []) := by
      intro hf H locs hP hD hS ls hl
      rw [hk9] at hf
      clear hk9
      refine lv_iconst (v := (0 : Int32)) hx hb dX8_isDigit_16 (by decide) ?_
      exact hJ3 (0 : Int32) hf H locs hP hD hS _ (lv_sub hl [] rfl)
    refine lv_icmp_lt (tgt := 16) hx hb dX8_isDigit_3 (by decide) (fun c10 => ?_) (fun c10 => ?_)
    · have hf := it_t hf c10
      exact hJ8 hf H locs hP hD hS _ (lv_sub hl [] rfl)
    · have hf := it_f hf c10
      refine lv_iload_n hx hb dX8_isDigit_6 rfl (lv_at hl 0 rfl) ?_
      refine lv_bipush (v := (57 : Int32)) hx hb dX8_isDigit_7 (by decide) ?_
      refine lv_icmp_gt (tgt := 16) hx hb dX8_isDigit_9 (by decide) (fun c11 => ?_) (fun c11 => ?_)
      · have hf := it_t hf c11
        exact hJ8 hf H locs hP hD hS _ (lv_sub hl [] rfl)
      · have hf := it_f hf c11
        refine lv_iconst (v := (1 : Int32)) hx hb dX8_isDigit_12 (by decide) ?_
        refine lv_goto (tgt := 17) hx hb dX8_isDigit_13 (by decide) ?_
        exact hJ3 (1 : Int32) hf H locs hP hD hS _ (lv_sub hl [] rfl)
  rw [hH, hlo] at hW
  exact hW
def f_X8_sign (vM : Vs) (x1 : Int32) : Option (Int32 × Vs) :=
  o2 (f_X8_here vM) (fun (r1 : Int32) (vM_2 : Vs) => if r1 = x1 then bn (sF vM_2 14 ((vM_2.1 14) + (1 : Int32))) (fun (vM_5 : Vs) => gd (isB (1 : Int32)) (some ((1 : Int32), vM_5))) else o2 (f_X8_fails vM_2 (-2 : Int32) (vM_2.1 14)) (fun (r9 : Int32) (vM_10 : Vs) => gd (isB r9) (some (r9, vM_10))))
abbrev wsX8_sign : List Cond := .code yX8_sign cX8_sign 2 (some .boolean) :: UW
abbrev rmX8_sign : Room := { frames := 1, cells := 0, slots := 0, locals := 22 }
set_option maxHeartbeats 4000000 in
set_option maxRecDepth 100000 in
theorem c_X8_sign (l : Launch) (g : Gx) (bM : Nat → Nat) (vM : Vs) (x1 : Int32) (r : Int32) (vM1 : Vs) (hf : f_X8_sign vM x1 = some (r, vM1)) : CtI l yX8_sign wsX8_sign rmX8_sign g [.ref (bM 0), .int x1] (cM g bM vM) (cM g bM vM1) r 0 0 := by
  unfold CtI
  intro sz
  refine Met.ofW (cc := cX8_sign) (maxL := 2) (ret := (some .boolean)) (by decide) rfl ?_
  intro p e s m args below meth c s₁ B hml hv
  obtain ⟨rfl, hsz, hP, hK, hD0, hG⟩ := hv
  have hx := B.exec
  have hb := B.bytes
  have hr := B.returns
  have hts := atoms_spec (ws := wsX8_sign) B.pre
  have hown : s.vm.findClass RX8 = some m.cls := findClass_of_methodNamed B.named
  have hlocks := B.notSynchronized
  subst hsz
  have hD := hD0.self (sz := s.heap.size)
  generalize hAe : va_A (cM g bM vM) s.heap.size = A at hD hG ⊢
  have hA : ∀ q : Nat, s.heap.size ≤ q → A q := fun q h => by rw [← hAe]; exact Or.inr h
  clear hAe hD0
  have hS : va_S A s.heap s.heap [] := va_S.rf
  have hl := lv_entry ([.ref (bM 0), .int x1]) (n := 2) (Nat.le_of_ble_eq_true rfl)
  rw [lg_entry_eq]
  generalize (lg_sl ([.ref (bM 0), .int x1]) ++ List.replicate (2 - (lg_sl ([.ref (bM 0), .int x1])).length) Slot.unset).toArray = ls at hl ⊢
  have hl : lv_has ls 2 [(0, .ref (bM 0)), (1, .int x1)] := hl
  have htu : ∀ w ∈ UW, w.before _ s = true := fun w h => hts w (List.mem_cons_of_mem _ h)
  have k_5_86 := htu _ mw_5_86
  unfold f_X8_sign at hf
  obtain ⟨H, hH⟩ : ∃ z, z = s.heap := ⟨_, rfl⟩
  obtain ⟨locs, hlo⟩ : ∃ z : List Loc, z = [] := ⟨_, rfl⟩
  have hS : va_S A s.heap H locs := by rw [hH, hlo]; exact hS
  rw [← hH] at hP
  have hW : W p l e (headSpec wsX8_sign rmX8_sign).room s m ([.ref (bM 0), .int x1] : List Value).toArray below meth c H locs 0 0 (MQ below (qI g A (cM g bM vM1) r) ([.ref (bM 0), .int x1] : List Value).toArray s 0 0 A) (F0 m 0 ls []) := by
    refine lv_aload_n hx hb dX8_sign_0 rfl (lv_at hl 0 rfl) ?_
    obtain ⟨r1, vM_2, hg3, hf⟩ := o2_at hf
    refine k_viW ⟨hx, hb, hml, hown, htu⟩ hK hP hD hS hA hG (c_X8_here l g bM vM r1 vM_2 hg3) (cwV 0 htu (gU_V mw_5_179 hcX8_here) rfl rfl rfl hdX8_here ⟨Nat.le_of_ble_eq_true rfl, Nat.le_of_ble_eq_true rfl⟩) (q0 := 0) (ci := 8) (fs := fcM bM vM) (q := (RX8, TX8, 23)) rfl rfl rfl (As := []) (rest := []) rfl rfl hl.1 (Nat.le_of_ble_eq_true rfl) dX8_sign_1 (k1 := 0) (n1 := 0) rfl rfl ⟨Nat.le_refl _, Nat.le_refl _⟩ (fun H locs hP hD hS => ?_)
    refine lv_iload_n hx hb dX8_sign_4 rfl (lv_at hl 1 rfl) ?_
    refine lv_icmp_eq (tgt := 19) hx hb dX8_sign_5 (by decide) (fun c4 => ?_) (fun c4 => ?_)
    · have hf := it_t hf c4
      refine lv_aload_n hx hb dX8_sign_19 rfl (lv_at hl 0 rfl) ?_
      refine lv_dup hx hb dX8_sign_20 rfl ?_
      refine va_get (D := g.1) (ci := 8) (fs := fcM bM vM_2) (v := .int (vM_2.1 14)) (C := RX8) (T := TX8) (N := 23) hx hb htu hinX8 hown hK hP 0 rfl rfl 14 (by decide) k_5_86 (fun _ h9 => h9) rfl dX8_sign_21 ?_
      refine lv_iconst (v := (1 : Int32)) hx hb dX8_sign_24 (by decide) ?_
      refine lv_iadd hx hb dX8_sign_25 ?_
      refine va_put (D := g.1) (ci := 8) (fs := fcM bM vM_2) (v := .int ((vM_2.1 14) + (1 : Int32))) (ty := .int) (C := RX8) (T := TX8) (N := 23) hx hb htu hinX8 tyX8 tyX8_ok nmX8 hown hK hP hD hS 0 rfl rfl 14 (by decide) k_5_86 (fun _ h9 => h9) rfl (by decide +kernel) rfl rfl (Nat.le_of_ble_eq_true rfl) dX8_sign_26 (fun H locs hP hD hS => ?_)
      obtain ⟨vM_5, evM_5⟩ : ∃ z, z = sF vM_2 14 ((vM_2.1 14) + (1 : Int32)) := ⟨_, rfl⟩
      have hf := bn_at hf evM_5
      have hP : va_P g.1 vwCl (cM g bM vM_5) H := by rw [evM_5]; exact hP
      have hD : va_D A (cM g bM vM_5) := by rw [evM_5]; exact hD
      refine lv_iconst (v := (1 : Int32)) hx hb dX8_sign_29 (by decide) ?_
      obtain ⟨h6, hf⟩ := gd_isB hf
      obtain ⟨e7, e8⟩ := kp_2 hf
      rw [e8] at hP hD
      exact k_zret hx hb hr hlocks hK hP hD hS e7 h6 dX8_sign_30
    · have hf := it_f hf c4
      refine lv_aload_n hx hb dX8_sign_8 rfl (lv_at hl 0 rfl) ?_
      refine lv_bipush (v := (-2 : Int32)) hx hb dX8_sign_9 (by decide) ?_
      refine lv_aload_n hx hb dX8_sign_11 rfl (lv_at hl 0 rfl) ?_
      refine va_get (D := g.1) (ci := 8) (fs := fcM bM vM_2) (v := .int (vM_2.1 14)) (C := RX8) (T := TX8) (N := 23) hx hb htu hinX8 hown hK hP 0 rfl rfl 14 (by decide) k_5_86 (fun _ h9 => h9) rfl dX8_sign_12 ?_
      obtain ⟨r9, vM_10, hg11, hf⟩ := o2_at hf
      refine k_viW ⟨hx, hb, hml, hown, htu⟩ hK hP hD hS hA hG (c_X8_fails l g bM vM_2 (-2 : Int32) (vM_2.1 14) r9 vM_10 hg11) (cwV 2 htu (gU_V mw_5_188 hcX8_fails) rfl rfl rfl hdX8_fails ⟨Nat.le_of_ble_eq_true rfl, Nat.le_of_ble_eq_true rfl⟩) (q0 := 0) (ci := 8) (fs := fcM bM vM_2) (q := (RX8, TX8, 23)) rfl rfl rfl (As := [.int (-2 : Int32), .int (vM_2.1 14)]) (rest := []) rfl rfl hl.1 (Nat.le_of_ble_eq_true rfl) dX8_sign_15 (k1 := 0) (n1 := 0) rfl rfl ⟨Nat.le_refl _, Nat.le_refl _⟩ (fun H locs hP hD hS => ?_)
      obtain ⟨h12, hf⟩ := gd_isB hf
      obtain ⟨e13, e14⟩ := kp_2 hf
      rw [e14] at hP hD
      exact k_zret hx hb hr hlocks hK hP hD hS e13 h12 dX8_sign_18
  rw [hH, hlo] at hW
  exact hW
def f_X8_reads_L34 (x1 : Int32) (x2 : Int32) (self10 : Vs → Option (Int32 × Vs)) (vM_9 : Vs) : Option (Int32 × Vs) :=
  jn (o1 (f_X8_isIn (vM_9.1 17) x1 x2) (fun (r15 : Int32) => jn (fun (t17 : Int32) (vM_18 : Vs) => gd (isB t17) (some (t17, vM_18))) (fun k19 => jn (fun (vM_25 : Vs) => k19 (1 : Int32) vM_25) (fun k26 => if r15 = 0 then o2 (f_X8_fails vM_9 (-3 : Int32) (vM_9.1 18)) (fun (r30 : Int32) (vM_31 : Vs) => if r30 = 0 then k19 (0 : Int32) vM_31 else k26 vM_31) else k26 vM_9)))) (fun k13 => if (vM_9.1 13) ≤ (vM_9.1 14) then k13 else gd (inb (vM_9.1 14) 800) (o1 (f_X8_isDigit (vM_9.2.1 11 ((vM_9.1 14)).toNatClampNeg)) (fun (r37 : Int32) => if r37 = 0 then k13 else jn (fun (t40 : Int32) => bn (sF vM_9 17 t40) (fun (vM_43 : Vs) => bn (sF vM_43 14 ((vM_43.1 14) + (1 : Int32))) (fun (vM_44 : Vs) => self10 vM_44))) (fun k41 => if (vM_9.1 17) ≤ (100000 : Int32) then gd (inb (vM_9.1 14) 800) (k41 ((((10 : Int32) * (vM_9.1 17)) + (vM_9.2.1 11 ((vM_9.1 14)).toNatClampNeg)) - (48 : Int32))) else k41 (vM_9.1 17)))))
def f_X8_reads (vM : Vs) (x1 : Int32) (x2 : Int32) : Option (Int32 × Vs) :=
  o2 (f_X8_here vM) (fun (r1 : Int32) (vM_2 : Vs) => o1 (f_X8_isDigit r1) (fun (r4 : Int32) => if r4 = 0 then o2 (f_X8_fails vM_2 (-2 : Int32) (vM_2.1 14)) (fun (r48 : Int32) (vM_49 : Vs) => gd (isB r48) (some (r48, vM_49))) else bn (sF vM_2 18 (vM_2.1 14)) (fun (vM_7 : Vs) => bn (sF vM_7 17 (0 : Int32)) (fun (vM_8 : Vs) => lp (f_X8_reads_L34 x1 x2) (fun _ => none) FU vM_8))))
abbrev wsX8_reads : List Cond := .code yX8_reads cX8_reads 3 (some .boolean) :: UW
abbrev rmX8_reads : Room := { frames := 1, cells := 0, slots := 0, locals := 22 }
set_option maxHeartbeats 4000000 in
set_option maxRecDepth 100000 in
theorem c_X8_reads (l : Launch) (g : Gx) (bM : Nat → Nat) (vM : Vs) (x1 : Int32) (x2 : Int32) (r : Int32) (vM1 : Vs) (hf : f_X8_reads vM x1 x2 = some (r, vM1)) : CtI l yX8_reads wsX8_reads rmX8_reads g [.ref (bM 0), .int x1, .int x2] (cM g bM vM) (cM g bM vM1) r 0 0 := by
  unfold CtI
  intro sz
  refine Met.ofW (cc := cX8_reads) (maxL := 3) (ret := (some .boolean)) (by decide) rfl ?_
  intro p e s m args below meth c s₁ B hml hv
  obtain ⟨rfl, hsz, hP, hK, hD0, hG⟩ := hv
  have hx := B.exec
  have hb := B.bytes
  have hr := B.returns
  have hts := atoms_spec (ws := wsX8_reads) B.pre
  have hown : s.vm.findClass RX8 = some m.cls := findClass_of_methodNamed B.named
  have hlocks := B.notSynchronized
  subst hsz
  have hD := hD0.self (sz := s.heap.size)
  generalize hAe : va_A (cM g bM vM) s.heap.size = A at hD hG ⊢
  have hA : ∀ q : Nat, s.heap.size ≤ q → A q := fun q h => by rw [← hAe]; exact Or.inr h
  clear hAe hD0
  have hS : va_S A s.heap s.heap [] := va_S.rf
  have hl := lv_entry ([.ref (bM 0), .int x1, .int x2]) (n := 3) (Nat.le_of_ble_eq_true rfl)
  rw [lg_entry_eq]
  generalize (lg_sl ([.ref (bM 0), .int x1, .int x2]) ++ List.replicate (3 - (lg_sl ([.ref (bM 0), .int x1, .int x2])).length) Slot.unset).toArray = ls at hl ⊢
  have hl : lv_has ls 3 [(0, .ref (bM 0)), (1, .int x1), (2, .int x2)] := hl
  have htu : ∀ w ∈ UW, w.before _ s = true := fun w h => hts w (List.mem_cons_of_mem _ h)
  have k_5_86 := htu _ mw_5_86
  have k_5_90 := htu _ mw_5_90
  have k_5_89 := htu _ mw_5_89
  have k_5_85 := htu _ mw_5_85
  have k_5_83 := htu _ mw_5_83
  have k_5_199 := htu _ mw_5_199
  unfold f_X8_reads at hf
  obtain ⟨H, hH⟩ : ∃ z, z = s.heap := ⟨_, rfl⟩
  obtain ⟨locs, hlo⟩ : ∃ z : List Loc, z = [] := ⟨_, rfl⟩
  have hS : va_S A s.heap H locs := by rw [hH, hlo]; exact hS
  rw [← hH] at hP
  have hW : W p l e (headSpec wsX8_reads rmX8_reads).room s m ([.ref (bM 0), .int x1, .int x2] : List Value).toArray below meth c H locs 0 0 (MQ below (qI g A (cM g bM vM1) r) ([.ref (bM 0), .int x1, .int x2] : List Value).toArray s 0 0 A) (F0 m 0 ls []) := by
    refine lv_aload_n hx hb dX8_reads_0 rfl (lv_at hl 0 rfl) ?_
    obtain ⟨r1, vM_2, hg3, hf⟩ := o2_at hf
    refine k_viW ⟨hx, hb, hml, hown, htu⟩ hK hP hD hS hA hG (c_X8_here l g bM vM r1 vM_2 hg3) (cwV 0 htu (gU_V mw_5_179 hcX8_here) rfl rfl rfl hdX8_here ⟨Nat.le_of_ble_eq_true rfl, Nat.le_of_ble_eq_true rfl⟩) (q0 := 0) (ci := 8) (fs := fcM bM vM) (q := (RX8, TX8, 23)) rfl rfl rfl (As := []) (rest := []) rfl rfl hl.1 (Nat.le_of_ble_eq_true rfl) dX8_reads_1 (k1 := 0) (n1 := 0) rfl rfl ⟨Nat.le_refl _, Nat.le_refl _⟩ (fun H locs hP hD hS => ?_)
    obtain ⟨r4, hg5, hf⟩ := o1_at hf
    refine k_si0 ⟨hx, hb, hml, hown, htu⟩ hK hP hD hS hA hG (c_X8_isDigit l g r1 r4 hg5) (va_cwS 1 htu (gU_S mw_5_196 hcX8_isDigit) rfl rfl rfl hdX8_isDigit ⟨Nat.le_of_ble_eq_true rfl, Nat.le_of_ble_eq_true rfl⟩) (As := [.int r1]) (rest := []) rfl rfl hl.1 (Nat.le_of_ble_eq_true rfl) dX8_reads_4 (k1 := 0) (n1 := 0) rfl rfl ⟨Nat.le_refl _, Nat.le_refl _⟩ (fun H locs hP hD hS => ?_)
    refine lv_if_ne (tgt := 21) hx hb dX8_reads_7 (by decide) (fun c6 => ?_) (fun c6 => ?_)
    · have hf := it_f hf c6
      refine lv_aload_n hx hb dX8_reads_21 rfl (lv_at hl 0 rfl) ?_
      refine lv_aload_n hx hb dX8_reads_22 rfl (lv_at hl 0 rfl) ?_
      refine va_get (D := g.1) (ci := 8) (fs := fcM bM vM_2) (v := .int (vM_2.1 14)) (C := RX8) (T := TX8) (N := 23) hx hb htu hinX8 hown hK hP 0 rfl rfl 14 (by decide) k_5_86 (fun _ h9 => h9) rfl dX8_reads_23 ?_
      refine va_put (D := g.1) (ci := 8) (fs := fcM bM vM_2) (v := .int (vM_2.1 14)) (ty := .int) (C := RX8) (T := TX8) (N := 23) hx hb htu hinX8 tyX8 tyX8_ok nmX8 hown hK hP hD hS 0 rfl rfl 18 (by decide) k_5_90 (fun _ h9 => h9) rfl (by decide +kernel) rfl rfl (Nat.le_of_ble_eq_true rfl) dX8_reads_26 (fun H locs hP hD hS => ?_)
      obtain ⟨vM_7, evM_7⟩ : ∃ z, z = sF vM_2 18 (vM_2.1 14) := ⟨_, rfl⟩
      have hf := bn_at hf evM_7
      have hP : va_P g.1 vwCl (cM g bM vM_7) H := by rw [evM_7]; exact hP
      have hD : va_D A (cM g bM vM_7) := by rw [evM_7]; exact hD
      refine lv_aload_n hx hb dX8_reads_29 rfl (lv_at hl 0 rfl) ?_
      refine lv_iconst (v := (0 : Int32)) hx hb dX8_reads_30 (by decide) ?_
      refine va_put (D := g.1) (ci := 8) (fs := fcM bM vM_7) (v := .int (0 : Int32)) (ty := .int) (C := RX8) (T := TX8) (N := 23) hx hb htu hinX8 tyX8 tyX8_ok nmX8 hown hK hP hD hS 0 rfl rfl 17 (by decide) k_5_89 (fun _ h9 => h9) rfl (by decide +kernel) rfl rfl (Nat.le_of_ble_eq_true rfl) dX8_reads_31 (fun H locs hP hD hS => ?_)
      obtain ⟨vM_8, evM_8⟩ : ∃ z, z = sF vM_7 17 (0 : Int32) := ⟨_, rfl⟩
      have hf := bn_at hf evM_8
      have hP : va_P g.1 vwCl (cM g bM vM_8) H := by rw [evM_8]; exact hP
      have hD : va_D A (cM g bM vM_8) := by rw [evM_8]; exact hD
      have hL11 : ∀ (vM_9 : Vs), lp (f_X8_reads_L34 x1 x2) (fun _ => none) FU vM_9 = some (r, vM1) → ∀ (H : Heap) (locs : List Loc), va_P g.1 vwCl (cM g bM vM_9) H → va_D A (cM g bM vM_9) → va_S A s.heap H locs → ∀ ls : Array Slot, lv_has ls 3 [(0, .ref (bM 0)), (1, .int x1), (2, .int x2)] → W p l e (headSpec wsX8_reads rmX8_reads).room s m ([.ref (bM 0), .int x1, .int x2] : List Value).toArray below meth c H locs 0 0 (MQ below (qI g A (cM g bM vM1) r) ([.ref (bM 0), .int x1, .int x2] : List Value).toArray s 0 0 A) (F0 m 34 ls []) := by
        refine lp_ind (T := Vs → Option (Int32 × Vs)) (fun self10 => ∀ (vM_9 : Vs), self10 vM_9 = some (r, vM1) → ∀ (H : Heap) (locs : List Loc), va_P g.1 vwCl (cM g bM vM_9) H → va_D A (cM g bM vM_9) → va_S A s.heap H locs → ∀ ls : Array Slot, lv_has ls 3 [(0, .ref (bM 0)), (1, .int x1), (2, .int x2)] → W p l e (headSpec wsX8_reads rmX8_reads).room s m ([.ref (bM 0), .int x1, .int x2] : List Value).toArray below meth c H locs 0 0 (MQ below (qI g A (cM g bM vM1) r) ([.ref (bM 0), .int x1, .int x2] : List Value).toArray s 0 0 A) (F0 m 34 ls [])) ?_ ?_ FU
        · intro vM_9 hf; cases hf
        · intro self10 ih12 vM_9 hf H locs hP hD hS ls hl
          unfold f_X8_reads_L34 at hf
          refine lv_aload_n hx hb dX8_reads_34 rfl (lv_at hl 0 rfl) ?_
          refine va_get (D := g.1) (ci := 8) (fs := fcM bM vM_9) (v := .int (vM_9.1 14)) (C := RX8) (T := TX8) (N := 23) hx hb htu hinX8 hown hK hP 0 rfl rfl 14 (by decide) k_5_86 (fun _ h9 => h9) rfl dX8_reads_35 ?_
          refine lv_aload_n hx hb dX8_reads_38 rfl (lv_at hl 0 rfl) ?_
          refine va_get (D := g.1) (ci := 8) (fs := fcM bM vM_9) (v := .int (vM_9.1 13)) (C := RX8) (T := TX8) (N := 23) hx hb htu hinX8 hown hK hP 0 rfl rfl 13 (by decide) k_5_85 (fun _ h9 => h9) rfl dX8_reads_39 ?_
          obtain ⟨k13, hk34, hf⟩ := jn_at hf
          have hJ14 : k13 = some (r, vM1) → ∀ (H : Heap) (locs : List Loc), va_P g.1 vwCl (cM g bM vM_9) H → va_D A (cM g bM vM_9) → va_S A s.heap H locs → ∀ ls : Array Slot, lv_has ls 3 [(0, .ref (bM 0)), (1, .int x1), (2, .int x2)] → W p l e (headSpec wsX8_reads rmX8_reads).room s m ([.ref (bM 0), .int x1, .int x2] : List Value).toArray below meth c H locs 0 0 (MQ below (qI g A (cM g bM vM1) r) ([.ref (bM 0), .int x1, .int x2] : List Value).toArray s 0 0 A) (F0 m 113 ls []) := by
            intro hf H locs hP hD hS ls hl
            rw [hk34] at hf
            clear hk34
            refine lv_aload_n hx hb dX8_reads_113 rfl (lv_at hl 0 rfl) ?_
            refine va_get (D := g.1) (ci := 8) (fs := fcM bM vM_9) (v := .int (vM_9.1 17)) (C := RX8) (T := TX8) (N := 23) hx hb htu hinX8 hown hK hP 0 rfl rfl 17 (by decide) k_5_89 (fun _ h9 => h9) rfl dX8_reads_114 ?_
            refine lv_iload_n hx hb dX8_reads_117 rfl (lv_at hl 1 rfl) ?_
            refine lv_iload_n hx hb dX8_reads_118 rfl (lv_at hl 2 rfl) ?_
            obtain ⟨r15, hg16, hf⟩ := o1_at hf
            refine k_si0 ⟨hx, hb, hml, hown, htu⟩ hK hP hD hS hA hG (c_X8_isIn l g (vM_9.1 17) x1 x2 r15 hg16) (va_cwS 3 htu (gU_S mw_5_163 hcX8_isIn) rfl rfl rfl hdX8_isIn ⟨Nat.le_of_ble_eq_true rfl, Nat.le_of_ble_eq_true rfl⟩) (As := [.int (vM_9.1 17), .int x1, .int x2]) (rest := []) rfl rfl hl.1 (Nat.le_of_ble_eq_true rfl) dX8_reads_119 (k1 := 0) (n1 := 0) rfl rfl ⟨Nat.le_refl _, Nat.le_refl _⟩ (fun H locs hP hD hS => ?_)
            obtain ⟨k19, hk24, hf⟩ := jn_at hf
            have hJ20 : ∀ (t17 : Int32) (vM_18 : Vs), k19 t17 vM_18 = some (r, vM1) → ∀ (H : Heap) (locs : List Loc), va_P g.1 vwCl (cM g bM vM_18) H → va_D A (cM g bM vM_18) → va_S A s.heap H locs → ∀ ls : Array Slot, lv_has ls 3 [] → W p l e (headSpec wsX8_reads rmX8_reads).room s m ([.ref (bM 0), .int x1, .int x2] : List Value).toArray below meth c H locs 0 0 (MQ below (qI g A (cM g bM vM1) r) ([.ref (bM 0), .int x1, .int x2] : List Value).toArray s 0 0 A) (F0 m 143 ls [.int t17]) := by
              intro t17 vM_18 hf H locs hP hD hS ls hl
              rw [hk24] at hf
              dsimp only at hf
              clear hk24
              obtain ⟨h21, hf⟩ := gd_isB hf
              obtain ⟨e22, e23⟩ := kp_2 hf
              rw [e23] at hP hD
              exact k_zret hx hb hr hlocks hK hP hD hS e22 h21 dX8_reads_143
            obtain ⟨k26, hk28, hf⟩ := jn_at hf
            have hJ27 : ∀ (vM_25 : Vs), k26 vM_25 = some (r, vM1) → ∀ (H : Heap) (locs : List Loc), va_P g.1 vwCl (cM g bM vM_25) H → va_D A (cM g bM vM_25) → va_S A s.heap H locs → ∀ ls : Array Slot, lv_has ls 3 [] → W p l e (headSpec wsX8_reads rmX8_reads).room s m ([.ref (bM 0), .int x1, .int x2] : List Value).toArray below meth c H locs 0 0 (MQ below (qI g A (cM g bM vM1) r) ([.ref (bM 0), .int x1, .int x2] : List Value).toArray s 0 0 A) (F0 m 138 ls []) := by
              intro vM_25 hf H locs hP hD hS ls hl
              rw [hk28] at hf
              dsimp only at hf
              clear hk28
              refine lv_iconst (v := (1 : Int32)) hx hb dX8_reads_138 (by decide) ?_
              refine lv_goto (tgt := 143) hx hb dX8_reads_139 (by decide) ?_
              exact hJ20 (1 : Int32) vM_25 hf H locs hP hD hS _ (lv_sub hl [] rfl)
            refine lv_if_ne (tgt := 138) hx hb dX8_reads_122 (by decide) (fun c29 => ?_) (fun c29 => ?_)
            · have hf := it_f hf c29
              exact hJ27 vM_9 hf H locs hP hD hS _ (lv_sub hl [] rfl)
            · have hf := it_t hf c29
              refine lv_aload_n hx hb dX8_reads_125 rfl (lv_at hl 0 rfl) ?_
              refine lv_bipush (v := (-3 : Int32)) hx hb dX8_reads_126 (by decide) ?_
              refine lv_aload_n hx hb dX8_reads_128 rfl (lv_at hl 0 rfl) ?_
              refine va_get (D := g.1) (ci := 8) (fs := fcM bM vM_9) (v := .int (vM_9.1 18)) (C := RX8) (T := TX8) (N := 23) hx hb htu hinX8 hown hK hP 0 rfl rfl 18 (by decide) k_5_90 (fun _ h9 => h9) rfl dX8_reads_129 ?_
              obtain ⟨r30, vM_31, hg32, hf⟩ := o2_at hf
              refine k_viW ⟨hx, hb, hml, hown, htu⟩ hK hP hD hS hA hG (c_X8_fails l g bM vM_9 (-3 : Int32) (vM_9.1 18) r30 vM_31 hg32) (cwV 2 htu (gU_V mw_5_188 hcX8_fails) rfl rfl rfl hdX8_fails ⟨Nat.le_of_ble_eq_true rfl, Nat.le_of_ble_eq_true rfl⟩) (q0 := 0) (ci := 8) (fs := fcM bM vM_9) (q := (RX8, TX8, 23)) rfl rfl rfl (As := [.int (-3 : Int32), .int (vM_9.1 18)]) (rest := []) rfl rfl hl.1 (Nat.le_of_ble_eq_true rfl) dX8_reads_132 (k1 := 0) (n1 := 0) rfl rfl ⟨Nat.le_refl _, Nat.le_refl _⟩ (fun H locs hP hD hS => ?_)
              refine lv_if_eq (tgt := 142) hx hb dX8_reads_135 (by decide) (fun c33 => ?_) (fun c33 => ?_)
              · have hf := it_t hf c33
                refine lv_iconst (v := (0 : Int32)) hx hb dX8_reads_142 (by decide) ?_
                exact hJ20 (0 : Int32) vM_31 hf H locs hP hD hS _ (lv_sub hl [] rfl)
              · have hf := it_f hf c33
                exact hJ27 vM_31 hf H locs hP hD hS _ (lv_sub hl [] rfl)
          refine lv_icmp_ge (tgt := 113) hx hb dX8_reads_42 (by decide) (fun c35 => ?_) (fun c35 => ?_)
          · have hf := it_t hf c35
            exact hJ14 hf H locs hP hD hS _ (lv_sub hl [0, 1, 2] rfl)
          · have hf := it_f hf c35
            refine lv_aload_n hx hb dX8_reads_45 rfl (lv_at hl 0 rfl) ?_
            refine va_get (D := g.1) (ci := 8) (fs := fcM bM vM_9) (v := .ref (bM 12)) (C := RX8) (T := TX8) (N := 23) hx hb htu hinX8 hown hK hP 0 rfl rfl 11 (by decide) k_5_83 (fun _ h9 => h9) rfl dX8_reads_46 ?_
            refine lv_aload_n hx hb dX8_reads_49 rfl (lv_at hl 0 rfl) ?_
            refine va_get (D := g.1) (ci := 8) (fs := fcM bM vM_9) (v := .int (vM_9.1 14)) (C := RX8) (T := TX8) (N := 23) hx hb htu hinX8 hown hK hP 0 rfl rfl 14 (by decide) k_5_86 (fun _ h9 => h9) rfl dX8_reads_50 ?_
            obtain ⟨h36, hf⟩ := gd_in hf
            refine va_iald (D := g.1) (f := (vM_9.2.1 11)) hx hb hK hP 9 0 rfl rfl h36 dX8_reads_53 ?_
            obtain ⟨r37, hg38, hf⟩ := o1_at hf
            refine k_si0 ⟨hx, hb, hml, hown, htu⟩ hK hP hD hS hA hG (c_X8_isDigit l g (vM_9.2.1 11 ((vM_9.1 14)).toNatClampNeg) r37 hg38) (va_cwS 1 htu (gU_S mw_5_196 hcX8_isDigit) rfl rfl rfl hdX8_isDigit ⟨Nat.le_of_ble_eq_true rfl, Nat.le_of_ble_eq_true rfl⟩) (As := [.int (vM_9.2.1 11 ((vM_9.1 14)).toNatClampNeg)]) (rest := []) rfl rfl hl.1 (Nat.le_of_ble_eq_true rfl) dX8_reads_54 (k1 := 0) (n1 := 0) rfl rfl ⟨Nat.le_refl _, Nat.le_refl _⟩ (fun H locs hP hD hS => ?_)
            refine lv_if_eq (tgt := 113) hx hb dX8_reads_57 (by decide) (fun c39 => ?_) (fun c39 => ?_)
            · have hf := it_t hf c39
              exact hJ14 hf H locs hP hD hS _ (lv_sub hl [0, 1, 2] rfl)
            · have hf := it_f hf c39
              refine lv_aload_n hx hb dX8_reads_60 rfl (lv_at hl 0 rfl) ?_
              refine lv_aload_n hx hb dX8_reads_61 rfl (lv_at hl 0 rfl) ?_
              refine va_get (D := g.1) (ci := 8) (fs := fcM bM vM_9) (v := .int (vM_9.1 17)) (C := RX8) (T := TX8) (N := 23) hx hb htu hinX8 hown hK hP 0 rfl rfl 17 (by decide) k_5_89 (fun _ h9 => h9) rfl dX8_reads_62 ?_
              refine lv_ldc (v := (100000 : Int32)) hx hb hown k_5_199 dX8_reads_65 ?_
              obtain ⟨k41, hk45, hf⟩ := jn_at hf
              have hJ42 : ∀ (t40 : Int32), k41 t40 = some (r, vM1) → ∀ (H : Heap) (locs : List Loc), va_P g.1 vwCl (cM g bM vM_9) H → va_D A (cM g bM vM_9) → va_S A s.heap H locs → ∀ ls : Array Slot, lv_has ls 3 [(0, .ref (bM 0)), (1, .int x1), (2, .int x2)] → W p l e (headSpec wsX8_reads rmX8_reads).room s m ([.ref (bM 0), .int x1, .int x2] : List Value).toArray below meth c H locs 0 0 (MQ below (qI g A (cM g bM vM1) r) ([.ref (bM 0), .int x1, .int x2] : List Value).toArray s 0 0 A) (F0 m 97 ls [.int t40, .ref (bM 0)]) := by
                intro t40 hf H locs hP hD hS ls hl
                rw [hk45] at hf
                dsimp only at hf
                clear hk45
                refine va_put (D := g.1) (ci := 8) (fs := fcM bM vM_9) (v := .int t40) (ty := .int) (C := RX8) (T := TX8) (N := 23) hx hb htu hinX8 tyX8 tyX8_ok nmX8 hown hK hP hD hS 0 rfl rfl 17 (by decide) k_5_89 (fun _ h9 => h9) rfl (by decide +kernel) rfl rfl (Nat.le_of_ble_eq_true rfl) dX8_reads_97 (fun H locs hP hD hS => ?_)
                obtain ⟨vM_43, evM_43⟩ : ∃ z, z = sF vM_9 17 t40 := ⟨_, rfl⟩
                have hf := bn_at hf evM_43
                have hP : va_P g.1 vwCl (cM g bM vM_43) H := by rw [evM_43]; exact hP
                have hD : va_D A (cM g bM vM_43) := by rw [evM_43]; exact hD
                refine lv_aload_n hx hb dX8_reads_100 rfl (lv_at hl 0 rfl) ?_
                refine lv_dup hx hb dX8_reads_101 rfl ?_
                refine va_get (D := g.1) (ci := 8) (fs := fcM bM vM_43) (v := .int (vM_43.1 14)) (C := RX8) (T := TX8) (N := 23) hx hb htu hinX8 hown hK hP 0 rfl rfl 14 (by decide) k_5_86 (fun _ h9 => h9) rfl dX8_reads_102 ?_
                refine lv_iconst (v := (1 : Int32)) hx hb dX8_reads_105 (by decide) ?_
                refine lv_iadd hx hb dX8_reads_106 ?_
                refine va_put (D := g.1) (ci := 8) (fs := fcM bM vM_43) (v := .int ((vM_43.1 14) + (1 : Int32))) (ty := .int) (C := RX8) (T := TX8) (N := 23) hx hb htu hinX8 tyX8 tyX8_ok nmX8 hown hK hP hD hS 0 rfl rfl 14 (by decide) k_5_86 (fun _ h9 => h9) rfl (by decide +kernel) rfl rfl (Nat.le_of_ble_eq_true rfl) dX8_reads_107 (fun H locs hP hD hS => ?_)
                obtain ⟨vM_44, evM_44⟩ : ∃ z, z = sF vM_43 14 ((vM_43.1 14) + (1 : Int32)) := ⟨_, rfl⟩
                have hf := bn_at hf evM_44
                have hP : va_P g.1 vwCl (cM g bM vM_44) H := by rw [evM_44]; exact hP
                have hD : va_D A (cM g bM vM_44) := by rw [evM_44]; exact hD
                refine lv_goto (tgt := 34) hx hb dX8_reads_110 (by decide) ?_
                exact ih12 vM_44 hf H locs hP hD hS _ (lv_sub hl [0, 1, 2] rfl)
              refine lv_icmp_le (tgt := 77) hx hb dX8_reads_67 (by decide) (fun c46 => ?_) (fun c46 => ?_)
              · have hf := it_t hf c46
                refine lv_bipush (v := (10 : Int32)) hx hb dX8_reads_77 (by decide) ?_
                refine lv_aload_n hx hb dX8_reads_79 rfl (lv_at hl 0 rfl) ?_
                refine va_get (D := g.1) (ci := 8) (fs := fcM bM vM_9) (v := .int (vM_9.1 17)) (C := RX8) (T := TX8) (N := 23) hx hb htu hinX8 hown hK hP 0 rfl rfl 17 (by decide) k_5_89 (fun _ h9 => h9) rfl dX8_reads_80 ?_
                refine lv_imul hx hb dX8_reads_83 ?_
                refine lv_aload_n hx hb dX8_reads_84 rfl (lv_at hl 0 rfl) ?_
                refine va_get (D := g.1) (ci := 8) (fs := fcM bM vM_9) (v := .ref (bM 12)) (C := RX8) (T := TX8) (N := 23) hx hb htu hinX8 hown hK hP 0 rfl rfl 11 (by decide) k_5_83 (fun _ h9 => h9) rfl dX8_reads_85 ?_
                refine lv_aload_n hx hb dX8_reads_88 rfl (lv_at hl 0 rfl) ?_
                refine va_get (D := g.1) (ci := 8) (fs := fcM bM vM_9) (v := .int (vM_9.1 14)) (C := RX8) (T := TX8) (N := 23) hx hb htu hinX8 hown hK hP 0 rfl rfl 14 (by decide) k_5_86 (fun _ h9 => h9) rfl dX8_reads_89 ?_
                obtain ⟨h47, hf⟩ := gd_in hf
                refine va_iald (D := g.1) (f := (vM_9.2.1 11)) hx hb hK hP 9 0 rfl rfl h47 dX8_reads_92 ?_
                refine lv_iadd hx hb dX8_reads_93 ?_
                refine lv_bipush (v := (48 : Int32)) hx hb dX8_reads_94 (by decide) ?_
                refine lv_isub hx hb dX8_reads_96 ?_
                exact hJ42 ((((10 : Int32) * (vM_9.1 17)) + (vM_9.2.1 11 ((vM_9.1 14)).toNatClampNeg)) - (48 : Int32)) hf H locs hP hD hS _ (lv_sub hl [0, 1, 2] rfl)
              · have hf := it_f hf c46
                refine lv_aload_n hx hb dX8_reads_70 rfl (lv_at hl 0 rfl) ?_
                refine va_get (D := g.1) (ci := 8) (fs := fcM bM vM_9) (v := .int (vM_9.1 17)) (C := RX8) (T := TX8) (N := 23) hx hb htu hinX8 hown hK hP 0 rfl rfl 17 (by decide) k_5_89 (fun _ h9 => h9) rfl dX8_reads_71 ?_
                refine lv_goto (tgt := 97) hx hb dX8_reads_74 (by decide) ?_
                exact hJ42 (vM_9.1 17) hf H locs hP hD hS _ (lv_sub hl [0, 1, 2] rfl)
      exact hL11 vM_8 hf H locs hP hD hS _ (lv_sub hl [0, 1, 2] rfl)
    · have hf := it_t hf c6
      refine lv_aload_n hx hb dX8_reads_10 rfl (lv_at hl 0 rfl) ?_
      refine lv_bipush (v := (-2 : Int32)) hx hb dX8_reads_11 (by decide) ?_
      refine lv_aload_n hx hb dX8_reads_13 rfl (lv_at hl 0 rfl) ?_
      refine va_get (D := g.1) (ci := 8) (fs := fcM bM vM_2) (v := .int (vM_2.1 14)) (C := RX8) (T := TX8) (N := 23) hx hb htu hinX8 hown hK hP 0 rfl rfl 14 (by decide) k_5_86 (fun _ h9 => h9) rfl dX8_reads_14 ?_
      obtain ⟨r48, vM_49, hg50, hf⟩ := o2_at hf
      refine k_viW ⟨hx, hb, hml, hown, htu⟩ hK hP hD hS hA hG (c_X8_fails l g bM vM_2 (-2 : Int32) (vM_2.1 14) r48 vM_49 hg50) (cwV 2 htu (gU_V mw_5_188 hcX8_fails) rfl rfl rfl hdX8_fails ⟨Nat.le_of_ble_eq_true rfl, Nat.le_of_ble_eq_true rfl⟩) (q0 := 0) (ci := 8) (fs := fcM bM vM_2) (q := (RX8, TX8, 23)) rfl rfl rfl (As := [.int (-2 : Int32), .int (vM_2.1 14)]) (rest := []) rfl rfl hl.1 (Nat.le_of_ble_eq_true rfl) dX8_reads_17 (k1 := 0) (n1 := 0) rfl rfl ⟨Nat.le_refl _, Nat.le_refl _⟩ (fun H locs hP hD hS => ?_)
      obtain ⟨h51, hf⟩ := gd_isB hf
      obtain ⟨e52, e53⟩ := kp_2 hf
      rw [e53] at hP hD
      exact k_zret hx hb hr hlocks hK hP hD hS e52 h51 dX8_reads_20
  rw [hH, hlo] at hW
  exact hW
def f_X8_readsWire (vM : Vs) : Option (Int32 × Vs) :=
  gd (inb (1 : Int32) 440) (o2 (f_X8_reads vM (0 : Int32) ((vM.2.1 2 ((1 : Int32)).toNatClampNeg) - (1 : Int32))) (fun (r2 : Int32) (vM_3 : Vs) => gd (isB r2) (some (r2, vM_3))))
abbrev wsX8_readsWire : List Cond := .code yX8_readsWire cX8_readsWire 1 (some .boolean) :: UW
abbrev rmX8_readsWire : Room := { frames := 2, cells := 0, slots := 0, locals := 44 }
set_option maxHeartbeats 4000000 in
set_option maxRecDepth 100000 in
theorem c_X8_readsWire (l : Launch) (g : Gx) (bM : Nat → Nat) (vM : Vs) (r : Int32) (vM1 : Vs) (hf : f_X8_readsWire vM = some (r, vM1)) : CtI l yX8_readsWire wsX8_readsWire rmX8_readsWire g [.ref (bM 0)] (cM g bM vM) (cM g bM vM1) r 0 0 := by
  unfold CtI
  intro sz
  refine Met.ofW (cc := cX8_readsWire) (maxL := 1) (ret := (some .boolean)) (by decide) rfl ?_
  intro p e s m args below meth c s₁ B hml hv
  obtain ⟨rfl, hsz, hP, hK, hD0, hG⟩ := hv
  have hx := B.exec
  have hb := B.bytes
  have hr := B.returns
  have hts := atoms_spec (ws := wsX8_readsWire) B.pre
  have hown : s.vm.findClass RX8 = some m.cls := findClass_of_methodNamed B.named
  have hlocks := B.notSynchronized
  subst hsz
  have hD := hD0.self (sz := s.heap.size)
  generalize hAe : va_A (cM g bM vM) s.heap.size = A at hD hG ⊢
  have hA : ∀ q : Nat, s.heap.size ≤ q → A q := fun q h => by rw [← hAe]; exact Or.inr h
  clear hAe hD0
  have hS : va_S A s.heap s.heap [] := va_S.rf
  have hl := lv_entry ([.ref (bM 0)]) (n := 1) (Nat.le_of_ble_eq_true rfl)
  rw [lg_entry_eq]
  generalize (lg_sl ([.ref (bM 0)]) ++ List.replicate (1 - (lg_sl ([.ref (bM 0)])).length) Slot.unset).toArray = ls at hl ⊢
  have hl : lv_has ls 1 [(0, .ref (bM 0))] := hl
  have htu : ∀ w ∈ UW, w.before _ s = true := fun w h => hts w (List.mem_cons_of_mem _ h)
  have k_5_74 := htu _ mw_5_74
  unfold f_X8_readsWire at hf
  obtain ⟨H, hH⟩ : ∃ z, z = s.heap := ⟨_, rfl⟩
  obtain ⟨locs, hlo⟩ : ∃ z : List Loc, z = [] := ⟨_, rfl⟩
  have hS : va_S A s.heap H locs := by rw [hH, hlo]; exact hS
  rw [← hH] at hP
  have hW : W p l e (headSpec wsX8_readsWire rmX8_readsWire).room s m ([.ref (bM 0)] : List Value).toArray below meth c H locs 0 0 (MQ below (qI g A (cM g bM vM1) r) ([.ref (bM 0)] : List Value).toArray s 0 0 A) (F0 m 0 ls []) := by
    refine lv_aload_n hx hb dX8_readsWire_0 rfl (lv_at hl 0 rfl) ?_
    refine lv_iconst (v := (0 : Int32)) hx hb dX8_readsWire_1 (by decide) ?_
    refine lv_aload_n hx hb dX8_readsWire_2 rfl (lv_at hl 0 rfl) ?_
    refine va_get (D := g.1) (ci := 8) (fs := fcM bM vM) (v := .ref (bM 3)) (C := RX8) (T := TX8) (N := 23) hx hb htu hinX8 hown hK hP 0 rfl rfl 2 (by decide) k_5_74 (fun _ h9 => h9) rfl dX8_readsWire_3 ?_
    refine lv_iconst (v := (1 : Int32)) hx hb dX8_readsWire_6 (by decide) ?_
    obtain ⟨h1, hf⟩ := gd_in hf
    refine va_iald (D := g.1) (f := (vM.2.1 2)) hx hb hK hP 2 0 rfl rfl h1 dX8_readsWire_7 ?_
    refine lv_iconst (v := (1 : Int32)) hx hb dX8_readsWire_8 (by decide) ?_
    refine lv_isub hx hb dX8_readsWire_9 ?_
    obtain ⟨r2, vM_3, hg4, hf⟩ := o2_at hf
    refine k_viW ⟨hx, hb, hml, hown, htu⟩ hK hP hD hS hA hG (c_X8_reads l g bM vM (0 : Int32) ((vM.2.1 2 ((1 : Int32)).toNatClampNeg) - (1 : Int32)) r2 vM_3 hg4) (cwV 2 htu (gU_V mw_5_192 hcX8_reads) rfl rfl rfl hdX8_reads ⟨Nat.le_of_ble_eq_true rfl, Nat.le_of_ble_eq_true rfl⟩) (q0 := 0) (ci := 8) (fs := fcM bM vM) (q := (RX8, TX8, 23)) rfl rfl rfl (As := [.int (0 : Int32), .int ((vM.2.1 2 ((1 : Int32)).toNatClampNeg) - (1 : Int32))]) (rest := []) rfl rfl hl.1 (Nat.le_of_ble_eq_true rfl) dX8_readsWire_10 (k1 := 0) (n1 := 0) rfl rfl ⟨Nat.le_refl _, Nat.le_refl _⟩ (fun H locs hP hD hS => ?_)
    obtain ⟨h5, hf⟩ := gd_isB hf
    obtain ⟨e6, e7⟩ := kp_2 hf
    rw [e7] at hP hD
    exact k_zret hx hb hr hlocks hK hP hD hS e6 h5 dX8_readsWire_13
  rw [hH, hlo] at hW
  exact hW
def f_X8_fewest (x0 : Int32) : Option (Int32) :=
  jn (fun (t1 : Int32) => some (t1)) (fun k2 => if x0 = (8 : Int32) then k2 (3 : Int32) else jn (k2 (1 : Int32)) (fun k7 => if x0 = (6 : Int32) then k7 else if x0 = (7 : Int32) then k7 else k2 (2 : Int32)))
abbrev wsX8_fewest : List Cond := .code yX8_fewest cX8_fewest 1 (some .int) :: UW
abbrev rmX8_fewest : Room := { frames := 0, cells := 0, slots := 0, locals := 0 }
set_option maxHeartbeats 4000000 in
set_option maxRecDepth 100000 in
theorem c_X8_fewest (l : Launch) (g : Gx) (x0 : Int32) (r : Int32) (hf : f_X8_fewest x0 = some r) : CtI l yX8_fewest wsX8_fewest rmX8_fewest g [.int x0] ([]) ([]) r 0 0 := by
  unfold CtI
  intro sz
  refine Met.ofW (cc := cX8_fewest) (maxL := 1) (ret := (some .int)) (by decide) rfl ?_
  intro p e s m args below meth c s₁ B hml hv
  obtain ⟨rfl, hsz, hP, hK, hD0, hG⟩ := hv
  have hx := B.exec
  have hb := B.bytes
  have hr := B.returns
  have hts := atoms_spec (ws := wsX8_fewest) B.pre
  have hown : s.vm.findClass RX8 = some m.cls := findClass_of_methodNamed B.named
  have hlocks := B.notSynchronized
  subst hsz
  have hD := hD0.self (sz := s.heap.size)
  generalize hAe : va_A ([]) s.heap.size = A at hD hG ⊢
  have hA : ∀ q : Nat, s.heap.size ≤ q → A q := fun q h => by rw [← hAe]; exact Or.inr h
  clear hAe hD0
  have hS : va_S A s.heap s.heap [] := va_S.rf
  have hl := lv_entry ([.int x0]) (n := 1) (Nat.le_of_ble_eq_true rfl)
  rw [lg_entry_eq]
  generalize (lg_sl ([.int x0]) ++ List.replicate (1 - (lg_sl ([.int x0])).length) Slot.unset).toArray = ls at hl ⊢
  have hl : lv_has ls 1 [(0, .int x0)] := hl
  have htu : ∀ w ∈ UW, w.before _ s = true := fun w h => hts w (List.mem_cons_of_mem _ h)
  unfold f_X8_fewest at hf
  obtain ⟨H, hH⟩ : ∃ z, z = s.heap := ⟨_, rfl⟩
  obtain ⟨locs, hlo⟩ : ∃ z : List Loc, z = [] := ⟨_, rfl⟩
  have hS : va_S A s.heap H locs := by rw [hH, hlo]; exact hS
  rw [← hH] at hP
  have hW : W p l e (headSpec wsX8_fewest rmX8_fewest).room s m ([.int x0] : List Value).toArray below meth c H locs 0 0 (MQ below (qI g A ([]) r) ([.int x0] : List Value).toArray s 0 0 A) (F0 m 0 ls []) := by
    refine lv_iload_n hx hb dX8_fewest_0 rfl (lv_at hl 0 rfl) ?_
    refine lv_bipush (v := (8 : Int32)) hx hb dX8_fewest_1 (by decide) ?_
    obtain ⟨k2, hk5, hf⟩ := jn_at hf
    have hJ3 : ∀ (t1 : Int32), k2 t1 = some r → ∀ (H : Heap) (locs : List Loc), va_P g.1 vwCl ([]) H → va_D A ([]) → va_S A s.heap H locs → ∀ ls : Array Slot, lv_has ls 1 [] → W p l e (headSpec wsX8_fewest rmX8_fewest).room s m ([.int x0] : List Value).toArray below meth c H locs 0 0 (MQ below (qI g A ([]) r) ([.int x0] : List Value).toArray s 0 0 A) (F0 m 27 ls [.int t1]) := by
      intro t1 hf H locs hP hD hS ls hl
      rw [hk5] at hf
      dsimp only at hf
      clear hk5
      have e4 := Option.some.inj hf
      exact k_iret hx hb hr hlocks hK hP hD hS e4 dX8_fewest_27
    refine lv_icmp_ne (tgt := 10) hx hb dX8_fewest_3 (by decide) (fun c6 => ?_) (fun c6 => ?_)
    · have hf := it_f hf c6
      refine lv_iload_n hx hb dX8_fewest_10 rfl (lv_at hl 0 rfl) ?_
      refine lv_bipush (v := (6 : Int32)) hx hb dX8_fewest_11 (by decide) ?_
      obtain ⟨k7, hk9, hf⟩ := jn_at hf
      have hJ8 : k7 = some r → ∀ (H : Heap) (locs : List Loc), va_P g.1 vwCl ([]) H → va_D A ([]) → va_S A s.heap H locs → ∀ ls : Array Slot, lv_has ls 1 [] → W p l e (headSpec wsX8_fewest rmX8_fewest).room s m ([.int x0] : List Value).toArray below meth c H locs 0 0 (MQ below (qI g A ([]) r) ([.int x0] : List Value).toArray s 0 0 A) (F0 m 22 ls []) := by
        intro hf H locs hP hD hS ls hl
        rw [hk9] at hf
        clear hk9
        refine lv_iconst (v := (1 : Int32)) hx hb dX8_fewest_22 (by decide) ?_
        refine lv_goto (tgt := 27) hx hb dX8_fewest_23 (by decide) ?_
        exact hJ3 (1 : Int32) hf H locs hP hD hS _ (lv_sub hl [] rfl)
      refine lv_icmp_eq (tgt := 22) hx hb dX8_fewest_13 (by decide) (fun c10 => ?_) (fun c10 => ?_)
      · have hf := it_t hf c10
        exact hJ8 hf H locs hP hD hS _ (lv_sub hl [] rfl)
      · have hf := it_f hf c10
        refine lv_iload_n hx hb dX8_fewest_16 rfl (lv_at hl 0 rfl) ?_
        refine lv_bipush (v := (7 : Int32)) hx hb dX8_fewest_17 (by decide) ?_
        refine lv_icmp_ne (tgt := 26) hx hb dX8_fewest_19 (by decide) (fun c11 => ?_) (fun c11 => ?_)
        · have hf := it_f hf c11
          refine lv_iconst (v := (2 : Int32)) hx hb dX8_fewest_26 (by decide) ?_
          exact hJ3 (2 : Int32) hf H locs hP hD hS _ (lv_sub hl [] rfl)
        · have hf := it_t hf c11
          exact hJ8 hf H locs hP hD hS _ (lv_sub hl [] rfl)
    · have hf := it_t hf c6
      refine lv_iconst (v := (3 : Int32)) hx hb dX8_fewest_6 (by decide) ?_
      refine lv_goto (tgt := 27) hx hb dX8_fewest_7 (by decide) ?_
      exact hJ3 (3 : Int32) hf H locs hP hD hS _ (lv_sub hl [] rfl)
  rw [hH, hlo] at hW
  exact hW
def f_X8_mostOf (x0 : Int32) : Option (Int32) :=
  jn (fun (t1 : Int32) => some (t1)) (fun k2 => if x0 = (8 : Int32) then k2 (3 : Int32) else jn (k2 (1 : Int32)) (fun k7 => if x0 = (6 : Int32) then k7 else if x0 = (7 : Int32) then k7 else k2 (4 : Int32)))
abbrev wsX8_mostOf : List Cond := .code yX8_mostOf cX8_mostOf 1 (some .int) :: UW
abbrev rmX8_mostOf : Room := { frames := 0, cells := 0, slots := 0, locals := 0 }
set_option maxHeartbeats 4000000 in
set_option maxRecDepth 100000 in
theorem c_X8_mostOf (l : Launch) (g : Gx) (x0 : Int32) (r : Int32) (hf : f_X8_mostOf x0 = some r) : CtI l yX8_mostOf wsX8_mostOf rmX8_mostOf g [.int x0] ([]) ([]) r 0 0 := by
  unfold CtI
  intro sz
  refine Met.ofW (cc := cX8_mostOf) (maxL := 1) (ret := (some .int)) (by decide) rfl ?_
  intro p e s m args below meth c s₁ B hml hv
  obtain ⟨rfl, hsz, hP, hK, hD0, hG⟩ := hv
  have hx := B.exec
  have hb := B.bytes
  have hr := B.returns
  have hts := atoms_spec (ws := wsX8_mostOf) B.pre
  have hown : s.vm.findClass RX8 = some m.cls := findClass_of_methodNamed B.named
  have hlocks := B.notSynchronized
  subst hsz
  have hD := hD0.self (sz := s.heap.size)
  generalize hAe : va_A ([]) s.heap.size = A at hD hG ⊢
  have hA : ∀ q : Nat, s.heap.size ≤ q → A q := fun q h => by rw [← hAe]; exact Or.inr h
  clear hAe hD0
  have hS : va_S A s.heap s.heap [] := va_S.rf
  have hl := lv_entry ([.int x0]) (n := 1) (Nat.le_of_ble_eq_true rfl)
  rw [lg_entry_eq]
  generalize (lg_sl ([.int x0]) ++ List.replicate (1 - (lg_sl ([.int x0])).length) Slot.unset).toArray = ls at hl ⊢
  have hl : lv_has ls 1 [(0, .int x0)] := hl
  have htu : ∀ w ∈ UW, w.before _ s = true := fun w h => hts w (List.mem_cons_of_mem _ h)
  unfold f_X8_mostOf at hf
  obtain ⟨H, hH⟩ : ∃ z, z = s.heap := ⟨_, rfl⟩
  obtain ⟨locs, hlo⟩ : ∃ z : List Loc, z = [] := ⟨_, rfl⟩
  have hS : va_S A s.heap H locs := by rw [hH, hlo]; exact hS
  rw [← hH] at hP
  have hW : W p l e (headSpec wsX8_mostOf rmX8_mostOf).room s m ([.int x0] : List Value).toArray below meth c H locs 0 0 (MQ below (qI g A ([]) r) ([.int x0] : List Value).toArray s 0 0 A) (F0 m 0 ls []) := by
    refine lv_iload_n hx hb dX8_mostOf_0 rfl (lv_at hl 0 rfl) ?_
    refine lv_bipush (v := (8 : Int32)) hx hb dX8_mostOf_1 (by decide) ?_
    obtain ⟨k2, hk5, hf⟩ := jn_at hf
    have hJ3 : ∀ (t1 : Int32), k2 t1 = some r → ∀ (H : Heap) (locs : List Loc), va_P g.1 vwCl ([]) H → va_D A ([]) → va_S A s.heap H locs → ∀ ls : Array Slot, lv_has ls 1 [] → W p l e (headSpec wsX8_mostOf rmX8_mostOf).room s m ([.int x0] : List Value).toArray below meth c H locs 0 0 (MQ below (qI g A ([]) r) ([.int x0] : List Value).toArray s 0 0 A) (F0 m 27 ls [.int t1]) := by
      intro t1 hf H locs hP hD hS ls hl
      rw [hk5] at hf
      dsimp only at hf
      clear hk5
      have e4 := Option.some.inj hf
      exact k_iret hx hb hr hlocks hK hP hD hS e4 dX8_mostOf_27
    refine lv_icmp_ne (tgt := 10) hx hb dX8_mostOf_3 (by decide) (fun c6 => ?_) (fun c6 => ?_)
    · have hf := it_f hf c6
      refine lv_iload_n hx hb dX8_mostOf_10 rfl (lv_at hl 0 rfl) ?_
      refine lv_bipush (v := (6 : Int32)) hx hb dX8_mostOf_11 (by decide) ?_
      obtain ⟨k7, hk9, hf⟩ := jn_at hf
      have hJ8 : k7 = some r → ∀ (H : Heap) (locs : List Loc), va_P g.1 vwCl ([]) H → va_D A ([]) → va_S A s.heap H locs → ∀ ls : Array Slot, lv_has ls 1 [] → W p l e (headSpec wsX8_mostOf rmX8_mostOf).room s m ([.int x0] : List Value).toArray below meth c H locs 0 0 (MQ below (qI g A ([]) r) ([.int x0] : List Value).toArray s 0 0 A) (F0 m 22 ls []) := by
        intro hf H locs hP hD hS ls hl
        rw [hk9] at hf
        clear hk9
        refine lv_iconst (v := (1 : Int32)) hx hb dX8_mostOf_22 (by decide) ?_
        refine lv_goto (tgt := 27) hx hb dX8_mostOf_23 (by decide) ?_
        exact hJ3 (1 : Int32) hf H locs hP hD hS _ (lv_sub hl [] rfl)
      refine lv_icmp_eq (tgt := 22) hx hb dX8_mostOf_13 (by decide) (fun c10 => ?_) (fun c10 => ?_)
      · have hf := it_t hf c10
        exact hJ8 hf H locs hP hD hS _ (lv_sub hl [] rfl)
      · have hf := it_f hf c10
        refine lv_iload_n hx hb dX8_mostOf_16 rfl (lv_at hl 0 rfl) ?_
        refine lv_bipush (v := (7 : Int32)) hx hb dX8_mostOf_17 (by decide) ?_
        refine lv_icmp_ne (tgt := 26) hx hb dX8_mostOf_19 (by decide) (fun c11 => ?_) (fun c11 => ?_)
        · have hf := it_f hf c11
          refine lv_iconst (v := (4 : Int32)) hx hb dX8_mostOf_26 (by decide) ?_
          exact hJ3 (4 : Int32) hf H locs hP hD hS _ (lv_sub hl [] rfl)
        · have hf := it_t hf c11
          exact hJ8 hf H locs hP hD hS _ (lv_sub hl [] rfl)
    · have hf := it_t hf c6
      refine lv_iconst (v := (3 : Int32)) hx hb dX8_mostOf_6 (by decide) ?_
      refine lv_goto (tgt := 27) hx hb dX8_mostOf_7 (by decide) ?_
      exact hJ3 (3 : Int32) hf H locs hP hD hS _ (lv_sub hl [] rfl)
  rw [hH, hlo] at hW
  exact hW
def f_X8_dependsOn_L26 (x3_1 : Int32) (self3 : Int32 → Vs → Option (Int32 × Vs)) (self27 : Int32 → Vs → Option (Int32 × Vs)) (x4_25 : Int32) (vM_26 : Vs) : Option (Int32 × Vs) :=
  gd (inb ((32 : Int32) + x3_1) 440) (if (vM_26.2.1 2 (((32 : Int32) + x3_1)).toNatClampNeg) ≤ x4_25 then self3 (x3_1 + (1 : Int32)) vM_26 else gd (inb x3_1 24) (jn (fun (t33 : Int32) => gd (inb x3_1 24) (bn (sI vM_26 19 (x3_1).toNatClampNeg (vp_nar .boolean t33)) (fun (vM_37 : Vs) => self27 (x4_25 + (1 : Int32)) vM_37))) (fun k34 => jn (k34 (1 : Int32)) (fun k39 => if (vM_26.2.1 19 (x3_1).toNatClampNeg) = 0 then gd (inb (((56 : Int32) + ((4 : Int32) * x3_1)) + x4_25) 440) (gd (inb (vM_26.2.1 2 ((((56 : Int32) + ((4 : Int32) * x3_1)) + x4_25)).toNatClampNeg) 24) (if (vM_26.2.1 19 ((vM_26.2.1 2 ((((56 : Int32) + ((4 : Int32) * x3_1)) + x4_25)).toNatClampNeg)).toNatClampNeg) = 0 then k34 (0 : Int32) else k39)) else k39))))
def f_X8_dependsOn_L2 (x1 : Int32) (x2 : Int32) (self3 : Int32 → Vs → Option (Int32 × Vs)) (x3_1 : Int32) (vM_2 : Vs) : Option (Int32 × Vs) :=
  if x1 < x3_1 then jn (fun (t7 : Int32) => gd (isB t7) (some (t7, vM_2))) (fun k8 => jn (k8 (0 : Int32)) (fun k14 => if x1 = x2 then k14 else gd (inb x1 24) (if (vM_2.2.1 19 (x1).toNatClampNeg) = 0 then k14 else k8 (1 : Int32)))) else jn (fun (t20 : Int32) => gd (inb x3_1 24) (bn (sI vM_2 19 (x3_1).toNatClampNeg (vp_nar .boolean t20)) (fun (vM_24 : Vs) => lp (f_X8_dependsOn_L26 x3_1 self3) (fun _ _ => none) FU (0 : Int32) vM_24))) (fun k21 => if x3_1 = x2 then k21 (1 : Int32) else k21 (0 : Int32))
def f_X8_dependsOn (vM : Vs) (x1 : Int32) (x2 : Int32) : Option (Int32 × Vs) :=
  lp (f_X8_dependsOn_L2 x1 x2) (fun _ _ => none) FU (0 : Int32) vM
abbrev wsX8_dependsOn : List Cond := .code yX8_dependsOn cX8_dependsOn 5 (some .boolean) :: UW
abbrev rmX8_dependsOn : Room := { frames := 0, cells := 0, slots := 0, locals := 0 }
set_option maxHeartbeats 4000000 in
set_option maxRecDepth 100000 in
theorem c_X8_dependsOn (l : Launch) (g : Gx) (bM : Nat → Nat) (vM : Vs) (x1 : Int32) (x2 : Int32) (r : Int32) (vM1 : Vs) (hf : f_X8_dependsOn vM x1 x2 = some (r, vM1)) : CtI l yX8_dependsOn wsX8_dependsOn rmX8_dependsOn g [.ref (bM 0), .int x1, .int x2] (cM g bM vM) (cM g bM vM1) r 0 0 := by
  unfold CtI
  intro sz
  refine Met.ofW (cc := cX8_dependsOn) (maxL := 5) (ret := (some .boolean)) (by decide) rfl ?_
  intro p e s m args below meth c s₁ B hml hv
  obtain ⟨rfl, hsz, hP, hK, hD0, hG⟩ := hv
  have hx := B.exec
  have hb := B.bytes
  have hr := B.returns
  have hts := atoms_spec (ws := wsX8_dependsOn) B.pre
  have hown : s.vm.findClass RX8 = some m.cls := findClass_of_methodNamed B.named
  have hlocks := B.notSynchronized
  subst hsz
  have hD := hD0.self (sz := s.heap.size)
  generalize hAe : va_A (cM g bM vM) s.heap.size = A at hD hG ⊢
  have hA : ∀ q : Nat, s.heap.size ≤ q → A q := fun q h => by rw [← hAe]; exact Or.inr h
  clear hAe hD0
  have hS : va_S A s.heap s.heap [] := va_S.rf
  have hl := lv_entry ([.ref (bM 0), .int x1, .int x2]) (n := 5) (Nat.le_of_ble_eq_true rfl)
  rw [lg_entry_eq]
  generalize (lg_sl ([.ref (bM 0), .int x1, .int x2]) ++ List.replicate (5 - (lg_sl ([.ref (bM 0), .int x1, .int x2])).length) Slot.unset).toArray = ls at hl ⊢
  have hl : lv_has ls 5 [(0, .ref (bM 0)), (1, .int x1), (2, .int x2)] := hl
  have htu : ∀ w ∈ UW, w.before _ s = true := fun w h => hts w (List.mem_cons_of_mem _ h)
  have k_5_91 := htu _ mw_5_91
  have k_5_74 := htu _ mw_5_74
  unfold f_X8_dependsOn at hf
  obtain ⟨H, hH⟩ : ∃ z, z = s.heap := ⟨_, rfl⟩
  obtain ⟨locs, hlo⟩ : ∃ z : List Loc, z = [] := ⟨_, rfl⟩
  have hS : va_S A s.heap H locs := by rw [hH, hlo]; exact hS
  rw [← hH] at hP
  have hW : W p l e (headSpec wsX8_dependsOn rmX8_dependsOn).room s m ([.ref (bM 0), .int x1, .int x2] : List Value).toArray below meth c H locs 0 0 (MQ below (qI g A (cM g bM vM1) r) ([.ref (bM 0), .int x1, .int x2] : List Value).toArray s 0 0 A) (F0 m 0 ls []) := by
    refine lv_iconst (v := (0 : Int32)) hx hb dX8_dependsOn_0 (by decide) ?_
    refine lv_istore_n (lv' := [(3, .int (0 : Int32)), (0, .ref (bM 0)), (1, .int x1), (2, .int x2)]) hx hb dX8_dependsOn_1 rfl hl (by decide) rfl (fun ls hl => ?_)
    have hL4 : ∀ (x3_1 : Int32) (vM_2 : Vs), lp (f_X8_dependsOn_L2 x1 x2) (fun _ _ => none) FU x3_1 vM_2 = some (r, vM1) → ∀ (H : Heap) (locs : List Loc), va_P g.1 vwCl (cM g bM vM_2) H → va_D A (cM g bM vM_2) → va_S A s.heap H locs → ∀ ls : Array Slot, lv_has ls 5 [(0, .ref (bM 0)), (1, .int x1), (2, .int x2), (3, .int x3_1)] → W p l e (headSpec wsX8_dependsOn rmX8_dependsOn).room s m ([.ref (bM 0), .int x1, .int x2] : List Value).toArray below meth c H locs 0 0 (MQ below (qI g A (cM g bM vM1) r) ([.ref (bM 0), .int x1, .int x2] : List Value).toArray s 0 0 A) (F0 m 2 ls []) := by
      refine lp_ind (T := Int32 → Vs → Option (Int32 × Vs)) (fun self3 => ∀ (x3_1 : Int32) (vM_2 : Vs), self3 x3_1 vM_2 = some (r, vM1) → ∀ (H : Heap) (locs : List Loc), va_P g.1 vwCl (cM g bM vM_2) H → va_D A (cM g bM vM_2) → va_S A s.heap H locs → ∀ ls : Array Slot, lv_has ls 5 [(0, .ref (bM 0)), (1, .int x1), (2, .int x2), (3, .int x3_1)] → W p l e (headSpec wsX8_dependsOn rmX8_dependsOn).room s m ([.ref (bM 0), .int x1, .int x2] : List Value).toArray below meth c H locs 0 0 (MQ below (qI g A (cM g bM vM1) r) ([.ref (bM 0), .int x1, .int x2] : List Value).toArray s 0 0 A) (F0 m 2 ls [])) ?_ ?_ FU
      · intro x3_1 vM_2 hf; cases hf
      · intro self3 ih5 x3_1 vM_2 hf H locs hP hD hS ls hl
        unfold f_X8_dependsOn_L2 at hf
        refine lv_iload_n hx hb dX8_dependsOn_2 rfl (lv_at hl 3 rfl) ?_
        refine lv_iload_n hx hb dX8_dependsOn_3 rfl (lv_at hl 1 rfl) ?_
        refine lv_icmp_gt (tgt := 94) hx hb dX8_dependsOn_4 (by decide) (fun c6 => ?_) (fun c6 => ?_)
        · have hf := it_t hf c6
          refine lv_iload_n hx hb dX8_dependsOn_94 rfl (lv_at hl 1 rfl) ?_
          refine lv_iload_n hx hb dX8_dependsOn_95 rfl (lv_at hl 2 rfl) ?_
          obtain ⟨k8, hk13, hf⟩ := jn_at hf
          have hJ9 : ∀ (t7 : Int32), k8 t7 = some (r, vM1) → ∀ (H : Heap) (locs : List Loc), va_P g.1 vwCl (cM g bM vM_2) H → va_D A (cM g bM vM_2) → va_S A s.heap H locs → ∀ ls : Array Slot, lv_has ls 5 [] → W p l e (headSpec wsX8_dependsOn rmX8_dependsOn).room s m ([.ref (bM 0), .int x1, .int x2] : List Value).toArray below meth c H locs 0 0 (MQ below (qI g A (cM g bM vM1) r) ([.ref (bM 0), .int x1, .int x2] : List Value).toArray s 0 0 A) (F0 m 113 ls [.int t7]) := by
            intro t7 hf H locs hP hD hS ls hl
            rw [hk13] at hf
            dsimp only at hf
            clear hk13
            obtain ⟨h10, hf⟩ := gd_isB hf
            obtain ⟨e11, e12⟩ := kp_2 hf
            rw [e12] at hP hD
            exact k_zret hx hb hr hlocks hK hP hD hS e11 h10 dX8_dependsOn_113
          obtain ⟨k14, hk16, hf⟩ := jn_at hf
          have hJ15 : k14 = some (r, vM1) → ∀ (H : Heap) (locs : List Loc), va_P g.1 vwCl (cM g bM vM_2) H → va_D A (cM g bM vM_2) → va_S A s.heap H locs → ∀ ls : Array Slot, lv_has ls 5 [] → W p l e (headSpec wsX8_dependsOn rmX8_dependsOn).room s m ([.ref (bM 0), .int x1, .int x2] : List Value).toArray below meth c H locs 0 0 (MQ below (qI g A (cM g bM vM1) r) ([.ref (bM 0), .int x1, .int x2] : List Value).toArray s 0 0 A) (F0 m 112 ls []) := by
            intro hf H locs hP hD hS ls hl
            rw [hk16] at hf
            clear hk16
            refine lv_iconst (v := (0 : Int32)) hx hb dX8_dependsOn_112 (by decide) ?_
            exact hJ9 (0 : Int32) hf H locs hP hD hS _ (lv_sub hl [] rfl)
          refine lv_icmp_eq (tgt := 112) hx hb dX8_dependsOn_96 (by decide) (fun c17 => ?_) (fun c17 => ?_)
          · have hf := it_t hf c17
            exact hJ15 hf H locs hP hD hS _ (lv_sub hl [] rfl)
          · have hf := it_f hf c17
            refine lv_aload_n hx hb dX8_dependsOn_99 rfl (lv_at hl 0 rfl) ?_
            refine va_get (D := g.1) (ci := 8) (fs := fcM bM vM_2) (v := .ref (bM 20)) (C := RX8) (T := TX8) (N := 23) hx hb htu hinX8 hown hK hP 0 rfl rfl 19 (by decide) k_5_91 (fun _ h9 => h9) rfl dX8_dependsOn_100 ?_
            refine lv_iload_n hx hb dX8_dependsOn_103 rfl (lv_at hl 1 rfl) ?_
            obtain ⟨h18, hf⟩ := gd_in hf
            refine va_zald (D := g.1) (f := (vM_2.2.1 19)) hx hb hK hP 10 2 rfl rfl h18 dX8_dependsOn_104 ?_
            refine lv_if_eq (tgt := 112) hx hb dX8_dependsOn_105 (by decide) (fun c19 => ?_) (fun c19 => ?_)
            · have hf := it_t hf c19
              exact hJ15 hf H locs hP hD hS _ (lv_sub hl [] rfl)
            · have hf := it_f hf c19
              refine lv_iconst (v := (1 : Int32)) hx hb dX8_dependsOn_108 (by decide) ?_
              refine lv_goto (tgt := 113) hx hb dX8_dependsOn_109 (by decide) ?_
              exact hJ9 (1 : Int32) hf H locs hP hD hS _ (lv_sub hl [] rfl)
        · have hf := it_f hf c6
          refine lv_aload_n hx hb dX8_dependsOn_7 rfl (lv_at hl 0 rfl) ?_
          refine va_get (D := g.1) (ci := 8) (fs := fcM bM vM_2) (v := .ref (bM 20)) (C := RX8) (T := TX8) (N := 23) hx hb htu hinX8 hown hK hP 0 rfl rfl 19 (by decide) k_5_91 (fun _ h9 => h9) rfl dX8_dependsOn_8 ?_
          refine lv_iload_n hx hb dX8_dependsOn_11 rfl (lv_at hl 3 rfl) ?_
          refine lv_iload_n hx hb dX8_dependsOn_12 rfl (lv_at hl 3 rfl) ?_
          refine lv_iload_n hx hb dX8_dependsOn_13 rfl (lv_at hl 2 rfl) ?_
          obtain ⟨k21, hk46, hf⟩ := jn_at hf
          have hJ22 : ∀ (t20 : Int32), k21 t20 = some (r, vM1) → ∀ (H : Heap) (locs : List Loc), va_P g.1 vwCl (cM g bM vM_2) H → va_D A (cM g bM vM_2) → va_S A s.heap H locs → ∀ ls : Array Slot, lv_has ls 5 [(0, .ref (bM 0)), (1, .int x1), (2, .int x2), (3, .int x3_1)] → W p l e (headSpec wsX8_dependsOn rmX8_dependsOn).room s m ([.ref (bM 0), .int x1, .int x2] : List Value).toArray below meth c H locs 0 0 (MQ below (qI g A (cM g bM vM1) r) ([.ref (bM 0), .int x1, .int x2] : List Value).toArray s 0 0 A) (F0 m 22 ls [.int t20, .int x3_1, .ref (bM 20)]) := by
            intro t20 hf H locs hP hD hS ls hl
            rw [hk46] at hf
            dsimp only at hf
            clear hk46
            obtain ⟨h23, hf⟩ := gd_in hf
            refine va_zast (D := g.1) (f := (vM_2.2.1 19)) hx hb hK hP hD hS 10 2 rfl rfl h23 dX8_dependsOn_22 (fun H locs hP hD hS => ?_)
            obtain ⟨vM_24, evM_24⟩ : ∃ z, z = sI vM_2 19 (x3_1).toNatClampNeg (vp_nar .boolean t20) := ⟨_, rfl⟩
            have hf := bn_at hf evM_24
            have hP : va_P g.1 vwCl (cM g bM vM_24) H := by rw [evM_24]; exact hP
            have hD : va_D A (cM g bM vM_24) := by rw [evM_24]; exact hD
            refine lv_iconst (v := (0 : Int32)) hx hb dX8_dependsOn_23 (by decide) ?_
            refine lv_istore (lv' := [(4, .int (0 : Int32)), (0, .ref (bM 0)), (1, .int x1), (2, .int x2), (3, .int x3_1)]) hx hb dX8_dependsOn_24 hl (by decide) rfl (fun ls hl => ?_)
            have hL28 : ∀ (x4_25 : Int32) (vM_26 : Vs), lp (f_X8_dependsOn_L26 x3_1 self3) (fun _ _ => none) FU x4_25 vM_26 = some (r, vM1) → ∀ (H : Heap) (locs : List Loc), va_P g.1 vwCl (cM g bM vM_26) H → va_D A (cM g bM vM_26) → va_S A s.heap H locs → ∀ ls : Array Slot, lv_has ls 5 [(0, .ref (bM 0)), (1, .int x1), (2, .int x2), (3, .int x3_1), (4, .int x4_25)] → W p l e (headSpec wsX8_dependsOn rmX8_dependsOn).room s m ([.ref (bM 0), .int x1, .int x2] : List Value).toArray below meth c H locs 0 0 (MQ below (qI g A (cM g bM vM1) r) ([.ref (bM 0), .int x1, .int x2] : List Value).toArray s 0 0 A) (F0 m 26 ls []) := by
              refine lp_ind (T := Int32 → Vs → Option (Int32 × Vs)) (fun self27 => ∀ (x4_25 : Int32) (vM_26 : Vs), self27 x4_25 vM_26 = some (r, vM1) → ∀ (H : Heap) (locs : List Loc), va_P g.1 vwCl (cM g bM vM_26) H → va_D A (cM g bM vM_26) → va_S A s.heap H locs → ∀ ls : Array Slot, lv_has ls 5 [(0, .ref (bM 0)), (1, .int x1), (2, .int x2), (3, .int x3_1), (4, .int x4_25)] → W p l e (headSpec wsX8_dependsOn rmX8_dependsOn).room s m ([.ref (bM 0), .int x1, .int x2] : List Value).toArray below meth c H locs 0 0 (MQ below (qI g A (cM g bM vM1) r) ([.ref (bM 0), .int x1, .int x2] : List Value).toArray s 0 0 A) (F0 m 26 ls [])) ?_ ?_ FU
              · intro x4_25 vM_26 hf; cases hf
              · intro self27 ih29 x4_25 vM_26 hf H locs hP hD hS ls hl
                unfold f_X8_dependsOn_L26 at hf
                refine lv_iload hx hb dX8_dependsOn_26 (lv_at hl 4 rfl) ?_
                refine lv_aload_n hx hb dX8_dependsOn_28 rfl (lv_at hl 0 rfl) ?_
                refine va_get (D := g.1) (ci := 8) (fs := fcM bM vM_26) (v := .ref (bM 3)) (C := RX8) (T := TX8) (N := 23) hx hb htu hinX8 hown hK hP 0 rfl rfl 2 (by decide) k_5_74 (fun _ h9 => h9) rfl dX8_dependsOn_29 ?_
                refine lv_bipush (v := (32 : Int32)) hx hb dX8_dependsOn_32 (by decide) ?_
                refine lv_iload_n hx hb dX8_dependsOn_34 rfl (lv_at hl 3 rfl) ?_
                refine lv_iadd hx hb dX8_dependsOn_35 ?_
                obtain ⟨h30, hf⟩ := gd_in hf
                refine va_iald (D := g.1) (f := (vM_26.2.1 2)) hx hb hK hP 2 0 rfl rfl h30 dX8_dependsOn_36 ?_
                refine lv_icmp_ge (tgt := 88) hx hb dX8_dependsOn_37 (by decide) (fun c31 => ?_) (fun c31 => ?_)
                · have hf := it_t hf c31
                  refine lv_iinc (v := (x3_1 + (1 : Int32))) (lv' := [(3, .int (x3_1 + (1 : Int32))), (0, .ref (bM 0)), (1, .int x1), (2, .int x2), (4, .int x4_25)]) hx hb dX8_dependsOn_88 hl (k := 3) rfl rfl (by decide) rfl (fun ls hl => ?_)
                  refine lv_goto (tgt := 2) hx hb dX8_dependsOn_91 (by decide) ?_
                  exact ih5 (x3_1 + (1 : Int32)) vM_26 hf H locs hP hD hS _ (lv_sub hl [1, 2, 3, 0] rfl)
                · have hf := it_f hf c31
                  refine lv_aload_n hx hb dX8_dependsOn_40 rfl (lv_at hl 0 rfl) ?_
                  refine va_get (D := g.1) (ci := 8) (fs := fcM bM vM_26) (v := .ref (bM 20)) (C := RX8) (T := TX8) (N := 23) hx hb htu hinX8 hown hK hP 0 rfl rfl 19 (by decide) k_5_91 (fun _ h9 => h9) rfl dX8_dependsOn_41 ?_
                  refine lv_iload_n hx hb dX8_dependsOn_44 rfl (lv_at hl 3 rfl) ?_
                  refine lv_aload_n hx hb dX8_dependsOn_45 rfl (lv_at hl 0 rfl) ?_
                  refine va_get (D := g.1) (ci := 8) (fs := fcM bM vM_26) (v := .ref (bM 20)) (C := RX8) (T := TX8) (N := 23) hx hb htu hinX8 hown hK hP 0 rfl rfl 19 (by decide) k_5_91 (fun _ h9 => h9) rfl dX8_dependsOn_46 ?_
                  refine lv_iload_n hx hb dX8_dependsOn_49 rfl (lv_at hl 3 rfl) ?_
                  obtain ⟨h32, hf⟩ := gd_in hf
                  refine va_zald (D := g.1) (f := (vM_26.2.1 19)) hx hb hK hP 10 2 rfl rfl h32 dX8_dependsOn_50 ?_
                  obtain ⟨k34, hk38, hf⟩ := jn_at hf
                  have hJ35 : ∀ (t33 : Int32), k34 t33 = some (r, vM1) → ∀ (H : Heap) (locs : List Loc), va_P g.1 vwCl (cM g bM vM_26) H → va_D A (cM g bM vM_26) → va_S A s.heap H locs → ∀ ls : Array Slot, lv_has ls 5 [(0, .ref (bM 0)), (1, .int x1), (2, .int x2), (3, .int x3_1), (4, .int x4_25)] → W p l e (headSpec wsX8_dependsOn rmX8_dependsOn).room s m ([.ref (bM 0), .int x1, .int x2] : List Value).toArray below meth c H locs 0 0 (MQ below (qI g A (cM g bM vM1) r) ([.ref (bM 0), .int x1, .int x2] : List Value).toArray s 0 0 A) (F0 m 81 ls [.int t33, .int x3_1, .ref (bM 20)]) := by
                    intro t33 hf H locs hP hD hS ls hl
                    rw [hk38] at hf
                    dsimp only at hf
                    clear hk38
                    obtain ⟨h36, hf⟩ := gd_in hf
                    refine va_zast (D := g.1) (f := (vM_26.2.1 19)) hx hb hK hP hD hS 10 2 rfl rfl h36 dX8_dependsOn_81 (fun H locs hP hD hS => ?_)
                    obtain ⟨vM_37, evM_37⟩ : ∃ z, z = sI vM_26 19 (x3_1).toNatClampNeg (vp_nar .boolean t33) := ⟨_, rfl⟩
                    have hf := bn_at hf evM_37
                    have hP : va_P g.1 vwCl (cM g bM vM_37) H := by rw [evM_37]; exact hP
                    have hD : va_D A (cM g bM vM_37) := by rw [evM_37]; exact hD
                    refine lv_iinc (v := (x4_25 + (1 : Int32))) (lv' := [(4, .int (x4_25 + (1 : Int32))), (0, .ref (bM 0)), (1, .int x1), (2, .int x2), (3, .int x3_1)]) hx hb dX8_dependsOn_82 hl (k := 4) rfl rfl (by decide) rfl (fun ls hl => ?_)
                    refine lv_goto (tgt := 26) hx hb dX8_dependsOn_85 (by decide) ?_
                    exact ih29 (x4_25 + (1 : Int32)) vM_37 hf H locs hP hD hS _ (lv_sub hl [1, 2, 3, 4, 0] rfl)
                  obtain ⟨k39, hk41, hf⟩ := jn_at hf
                  have hJ40 : k39 = some (r, vM1) → ∀ (H : Heap) (locs : List Loc), va_P g.1 vwCl (cM g bM vM_26) H → va_D A (cM g bM vM_26) → va_S A s.heap H locs → ∀ ls : Array Slot, lv_has ls 5 [(0, .ref (bM 0)), (1, .int x1), (2, .int x2), (3, .int x3_1), (4, .int x4_25)] → W p l e (headSpec wsX8_dependsOn rmX8_dependsOn).room s m ([.ref (bM 0), .int x1, .int x2] : List Value).toArray below meth c H locs 0 0 (MQ below (qI g A (cM g bM vM1) r) ([.ref (bM 0), .int x1, .int x2] : List Value).toArray s 0 0 A) (F0 m 76 ls [.int x3_1, .ref (bM 20)]) := by
                    intro hf H locs hP hD hS ls hl
                    rw [hk41] at hf
                    clear hk41
                    refine lv_iconst (v := (1 : Int32)) hx hb dX8_dependsOn_76 (by decide) ?_
                    refine lv_goto (tgt := 81) hx hb dX8_dependsOn_77 (by decide) ?_
                    exact hJ35 (1 : Int32) hf H locs hP hD hS _ (lv_sub hl [0, 1, 2, 3, 4] rfl)
                  refine lv_if_ne (tgt := 76) hx hb dX8_dependsOn_51 (by decide) (fun c42 => ?_) (fun c42 => ?_)
                  · have hf := it_f hf c42
                    exact hJ40 hf H locs hP hD hS _ (lv_sub hl [0, 1, 2, 3, 4] rfl)
                  · have hf := it_t hf c42
                    refine lv_aload_n hx hb dX8_dependsOn_54 rfl (lv_at hl 0 rfl) ?_
                    refine va_get (D := g.1) (ci := 8) (fs := fcM bM vM_26) (v := .ref (bM 20)) (C := RX8) (T := TX8) (N := 23) hx hb htu hinX8 hown hK hP 0 rfl rfl 19 (by decide) k_5_91 (fun _ h9 => h9) rfl dX8_dependsOn_55 ?_
                    refine lv_aload_n hx hb dX8_dependsOn_58 rfl (lv_at hl 0 rfl) ?_
                    refine va_get (D := g.1) (ci := 8) (fs := fcM bM vM_26) (v := .ref (bM 3)) (C := RX8) (T := TX8) (N := 23) hx hb htu hinX8 hown hK hP 0 rfl rfl 2 (by decide) k_5_74 (fun _ h9 => h9) rfl dX8_dependsOn_59 ?_
                    refine lv_bipush (v := (56 : Int32)) hx hb dX8_dependsOn_62 (by decide) ?_
                    refine lv_iconst (v := (4 : Int32)) hx hb dX8_dependsOn_64 (by decide) ?_
                    refine lv_iload_n hx hb dX8_dependsOn_65 rfl (lv_at hl 3 rfl) ?_
                    refine lv_imul hx hb dX8_dependsOn_66 ?_
                    refine lv_iadd hx hb dX8_dependsOn_67 ?_
                    refine lv_iload hx hb dX8_dependsOn_68 (lv_at hl 4 rfl) ?_
                    refine lv_iadd hx hb dX8_dependsOn_70 ?_
                    obtain ⟨h43, hf⟩ := gd_in hf
                    refine va_iald (D := g.1) (f := (vM_26.2.1 2)) hx hb hK hP 2 0 rfl rfl h43 dX8_dependsOn_71 ?_
                    obtain ⟨h44, hf⟩ := gd_in hf
                    refine va_zald (D := g.1) (f := (vM_26.2.1 19)) hx hb hK hP 10 2 rfl rfl h44 dX8_dependsOn_72 ?_
                    refine lv_if_eq (tgt := 80) hx hb dX8_dependsOn_73 (by decide) (fun c45 => ?_) (fun c45 => ?_)
                    · have hf := it_t hf c45
                      refine lv_iconst (v := (0 : Int32)) hx hb dX8_dependsOn_80 (by decide) ?_
                      exact hJ35 (0 : Int32) hf H locs hP hD hS _ (lv_sub hl [0, 1, 2, 3, 4] rfl)
                    · have hf := it_f hf c45
                      exact hJ40 hf H locs hP hD hS _ (lv_sub hl [0, 1, 2, 3, 4] rfl)
            exact hL28 (0 : Int32) vM_24 hf H locs hP hD hS _ (lv_sub hl [1, 2, 3, 4, 0] rfl)
          refine lv_icmp_ne (tgt := 21) hx hb dX8_dependsOn_14 (by decide) (fun c47 => ?_) (fun c47 => ?_)
          · have hf := it_f hf c47
            refine lv_iconst (v := (0 : Int32)) hx hb dX8_dependsOn_21 (by decide) ?_
            exact hJ22 (0 : Int32) hf H locs hP hD hS _ (lv_sub hl [0, 1, 2, 3] rfl)
          · have hf := it_t hf c47
            refine lv_iconst (v := (1 : Int32)) hx hb dX8_dependsOn_17 (by decide) ?_
            refine lv_goto (tgt := 22) hx hb dX8_dependsOn_18 (by decide) ?_
            exact hJ22 (1 : Int32) hf H locs hP hD hS _ (lv_sub hl [0, 1, 2, 3] rfl)
    exact hL4 (0 : Int32) vM hf H locs hP hD hS _ (lv_sub hl [1, 2, 3, 0] rfl)
  rw [hH, hlo] at hW
  exact hW
def f_X8_takes_L55 (i0 : Nat) (vM_2 : Vs) (x2_4 : Int32) (self14 : Int32 → Option (Int32 × Vs)) (x3_13 : Int32) : Option (Int32 × Vs) :=
  if x2_4 ≤ x3_13 then bn (sF vM_2 14 ((vM_2.1 14) + x2_4)) (fun (vM_18 : Vs) => gd (isB (1 : Int32)) (some ((1 : Int32), vM_18))) else gd (inb ((vM_2.1 14) + x3_13) 800) (o1 (f_J0_charAt_5068e x3_13 i0) (fun (r23 : Int32) => if (vM_2.2.1 11 (((vM_2.1 14) + x3_13)).toNatClampNeg) = r23 then self14 (x3_13 + (1 : Int32)) else gd (isB (0 : Int32)) (some ((0 : Int32), vM_2))))
def f_X8_takes_L7 (i0 : Nat) (vM_2 : Vs) (self5 : Int32 → Option (Int32 × Vs)) (x2_4 : Int32) : Option (Int32 × Vs) :=
  jn (o1 (f_J0_length_8abf5 i0) (fun (r10 : Int32) => if x2_4 = r10 then lp (f_X8_takes_L55 i0 vM_2 x2_4) (fun _ => none) FU (0 : Int32) else gd (isB (0 : Int32)) (some ((0 : Int32), vM_2)))) (fun k8 => if (vM_2.1 13) ≤ ((vM_2.1 14) + x2_4) then k8 else gd (inb ((vM_2.1 14) + x2_4) 800) (o1 (f_X8_isLetter (vM_2.2.1 11 (((vM_2.1 14) + x2_4)).toNatClampNeg)) (fun (r35 : Int32) => if r35 = 0 then k8 else self5 (x2_4 + (1 : Int32)))))
def f_X8_takes (vM : Vs) (i0 : Nat) : Option (Int32 × Vs) :=
  o2 (f_X8_here vM) (fun (r1 : Int32) (vM_2 : Vs) => lp (f_X8_takes_L7 i0 vM_2) (fun _ => none) FU (0 : Int32))
abbrev wsX8_takes : List Cond := .code yX8_takes cX8_takes 4 (some .boolean) :: UW
abbrev rmX8_takes : Room := { frames := 4, cells := 0, slots := 0, locals := 85 }
set_option maxHeartbeats 4000000 in
set_option maxRecDepth 100000 in
theorem c_X8_takes (l : Launch) (g : Gx) (bM : Nat → Nat) (vM : Vs) (i0 : Nat) (hi0 : i0 < 26) (r : Int32) (vM1 : Vs) (hf : f_X8_takes vM i0 = some (r, vM1)) : CtI l yX8_takes wsX8_takes rmX8_takes g [.ref (bM 0), .ref (adK g i0)] (cM g bM vM) (cM g bM vM1) r 0 0 := by
  unfold CtI
  intro sz
  refine Met.ofW (cc := cX8_takes) (maxL := 4) (ret := (some .boolean)) (by decide) rfl ?_
  intro p e s m args below meth c s₁ B hml hv
  obtain ⟨rfl, hsz, hP, hK, hD0, hG⟩ := hv
  have hx := B.exec
  have hb := B.bytes
  have hr := B.returns
  have hts := atoms_spec (ws := wsX8_takes) B.pre
  have hown : s.vm.findClass RX8 = some m.cls := findClass_of_methodNamed B.named
  have hlocks := B.notSynchronized
  subst hsz
  have hD := hD0.self (sz := s.heap.size)
  generalize hAe : va_A (cM g bM vM) s.heap.size = A at hD hG ⊢
  have hA : ∀ q : Nat, s.heap.size ≤ q → A q := fun q h => by rw [← hAe]; exact Or.inr h
  clear hAe hD0
  have hS : va_S A s.heap s.heap [] := va_S.rf
  have hl := lv_entry ([.ref (bM 0), .ref (adK g i0)]) (n := 4) (Nat.le_of_ble_eq_true rfl)
  rw [lg_entry_eq]
  generalize (lg_sl ([.ref (bM 0), .ref (adK g i0)]) ++ List.replicate (4 - (lg_sl ([.ref (bM 0), .ref (adK g i0)])).length) Slot.unset).toArray = ls at hl ⊢
  have hl : lv_has ls 4 [(0, .ref (bM 0)), (1, .ref (adK g i0))] := hl
  have htu : ∀ w ∈ UW, w.before _ s = true := fun w h => hts w (List.mem_cons_of_mem _ h)
  have k_5_86 := htu _ mw_5_86
  have k_5_85 := htu _ mw_5_85
  have k_5_83 := htu _ mw_5_83
  unfold f_X8_takes at hf
  obtain ⟨H, hH⟩ : ∃ z, z = s.heap := ⟨_, rfl⟩
  obtain ⟨locs, hlo⟩ : ∃ z : List Loc, z = [] := ⟨_, rfl⟩
  have hS : va_S A s.heap H locs := by rw [hH, hlo]; exact hS
  rw [← hH] at hP
  have hW : W p l e (headSpec wsX8_takes rmX8_takes).room s m ([.ref (bM 0), .ref (adK g i0)] : List Value).toArray below meth c H locs 0 0 (MQ below (qI g A (cM g bM vM1) r) ([.ref (bM 0), .ref (adK g i0)] : List Value).toArray s 0 0 A) (F0 m 0 ls []) := by
    refine lv_aload_n hx hb dX8_takes_0 rfl (lv_at hl 0 rfl) ?_
    obtain ⟨r1, vM_2, hg3, hf⟩ := o2_at hf
    refine k_viW ⟨hx, hb, hml, hown, htu⟩ hK hP hD hS hA hG (c_X8_here l g bM vM r1 vM_2 hg3) (cwV 0 htu (gU_V mw_5_179 hcX8_here) rfl rfl rfl hdX8_here ⟨Nat.le_of_ble_eq_true rfl, Nat.le_of_ble_eq_true rfl⟩) (q0 := 0) (ci := 8) (fs := fcM bM vM) (q := (RX8, TX8, 23)) rfl rfl rfl (As := []) (rest := []) rfl rfl hl.1 (Nat.le_of_ble_eq_true rfl) dX8_takes_1 (k1 := 0) (n1 := 0) rfl rfl ⟨Nat.le_refl _, Nat.le_refl _⟩ (fun H locs hP hD hS => ?_)
    refine lv_pop hx hb dX8_takes_4 rfl ?_
    refine lv_iconst (v := (0 : Int32)) hx hb dX8_takes_5 (by decide) ?_
    refine lv_istore_n (lv' := [(2, .int (0 : Int32)), (0, .ref (bM 0)), (1, .ref (adK g i0))]) hx hb dX8_takes_6 rfl hl (by decide) rfl (fun ls hl => ?_)
    have hL6 : ∀ (x2_4 : Int32), lp (f_X8_takes_L7 i0 vM_2) (fun _ => none) FU x2_4 = some (r, vM1) → ∀ (H : Heap) (locs : List Loc), va_P g.1 vwCl (cM g bM vM_2) H → va_D A (cM g bM vM_2) → va_S A s.heap H locs → ∀ ls : Array Slot, lv_has ls 4 [(0, .ref (bM 0)), (1, .ref (adK g i0)), (2, .int x2_4)] → W p l e (headSpec wsX8_takes rmX8_takes).room s m ([.ref (bM 0), .ref (adK g i0)] : List Value).toArray below meth c H locs 0 0 (MQ below (qI g A (cM g bM vM1) r) ([.ref (bM 0), .ref (adK g i0)] : List Value).toArray s 0 0 A) (F0 m 7 ls []) := by
      refine lp_ind (T := Int32 → Option (Int32 × Vs)) (fun self5 => ∀ (x2_4 : Int32), self5 x2_4 = some (r, vM1) → ∀ (H : Heap) (locs : List Loc), va_P g.1 vwCl (cM g bM vM_2) H → va_D A (cM g bM vM_2) → va_S A s.heap H locs → ∀ ls : Array Slot, lv_has ls 4 [(0, .ref (bM 0)), (1, .ref (adK g i0)), (2, .int x2_4)] → W p l e (headSpec wsX8_takes rmX8_takes).room s m ([.ref (bM 0), .ref (adK g i0)] : List Value).toArray below meth c H locs 0 0 (MQ below (qI g A (cM g bM vM1) r) ([.ref (bM 0), .ref (adK g i0)] : List Value).toArray s 0 0 A) (F0 m 7 ls [])) ?_ ?_ FU
      · intro x2_4 hf; cases hf
      · intro self5 ih7 x2_4 hf H locs hP hD hS ls hl
        unfold f_X8_takes_L7 at hf
        refine lv_aload_n hx hb dX8_takes_7 rfl (lv_at hl 0 rfl) ?_
        refine va_get (D := g.1) (ci := 8) (fs := fcM bM vM_2) (v := .int (vM_2.1 14)) (C := RX8) (T := TX8) (N := 23) hx hb htu hinX8 hown hK hP 0 rfl rfl 14 (by decide) k_5_86 (fun _ h9 => h9) rfl dX8_takes_8 ?_
        refine lv_iload_n hx hb dX8_takes_11 rfl (lv_at hl 2 rfl) ?_
        refine lv_iadd hx hb dX8_takes_12 ?_
        refine lv_aload_n hx hb dX8_takes_13 rfl (lv_at hl 0 rfl) ?_
        refine va_get (D := g.1) (ci := 8) (fs := fcM bM vM_2) (v := .int (vM_2.1 13)) (C := RX8) (T := TX8) (N := 23) hx hb htu hinX8 hown hK hP 0 rfl rfl 13 (by decide) k_5_85 (fun _ h9 => h9) rfl dX8_takes_14 ?_
        obtain ⟨k8, hk32, hf⟩ := jn_at hf
        have hJ9 : k8 = some (r, vM1) → ∀ (H : Heap) (locs : List Loc), va_P g.1 vwCl (cM g bM vM_2) H → va_D A (cM g bM vM_2) → va_S A s.heap H locs → ∀ ls : Array Slot, lv_has ls 4 [(0, .ref (bM 0)), (1, .ref (adK g i0)), (2, .int x2_4)] → W p l e (headSpec wsX8_takes rmX8_takes).room s m ([.ref (bM 0), .ref (adK g i0)] : List Value).toArray below meth c H locs 0 0 (MQ below (qI g A (cM g bM vM1) r) ([.ref (bM 0), .ref (adK g i0)] : List Value).toArray s 0 0 A) (F0 m 43 ls []) := by
          intro hf H locs hP hD hS ls hl
          rw [hk32] at hf
          clear hk32
          refine lv_iload_n hx hb dX8_takes_43 rfl (lv_at hl 2 rfl) ?_
          refine lv_aload_n hx hb dX8_takes_44 rfl (lv_at hl 1 rfl) ?_
          obtain ⟨r10, hg11, hf⟩ := o1_at hf
          refine k_viS ⟨hx, hb, hml, hown, htu⟩ hK hP hD hS hA hG (c_J0_length_8abf5 l g i0 hi0 r10 hg11) (cwV 0 htu (gU_V mw_5_186 hcJ0_length_8abf5) rfl rfl rfl hdJ0_length_8abf5 ⟨Nat.le_of_ble_eq_true rfl, Nat.le_of_ble_eq_true rfl⟩) (vk_recv hG.2.2.1 hi0 hS) (As := []) (rest := [.int x2_4]) rfl rfl hl.1 (Nat.le_of_ble_eq_true rfl) dX8_takes_45 (k1 := 0) (n1 := 0) rfl rfl ⟨Nat.le_refl _, Nat.le_refl _⟩ (fun H locs hP hD hS => ?_)
          refine lv_icmp_eq (tgt := 53) hx hb dX8_takes_48 (by decide) (fun c12 => ?_) (fun c12 => ?_)
          · have hf := it_t hf c12
            refine lv_iconst (v := (0 : Int32)) hx hb dX8_takes_53 (by decide) ?_
            refine lv_istore_n (lv' := [(3, .int (0 : Int32)), (0, .ref (bM 0)), (1, .ref (adK g i0)), (2, .int x2_4)]) hx hb dX8_takes_54 rfl hl (by decide) rfl (fun ls hl => ?_)
            have hL15 : ∀ (x3_13 : Int32), lp (f_X8_takes_L55 i0 vM_2 x2_4) (fun _ => none) FU x3_13 = some (r, vM1) → ∀ (H : Heap) (locs : List Loc), va_P g.1 vwCl (cM g bM vM_2) H → va_D A (cM g bM vM_2) → va_S A s.heap H locs → ∀ ls : Array Slot, lv_has ls 4 [(0, .ref (bM 0)), (1, .ref (adK g i0)), (2, .int x2_4), (3, .int x3_13)] → W p l e (headSpec wsX8_takes rmX8_takes).room s m ([.ref (bM 0), .ref (adK g i0)] : List Value).toArray below meth c H locs 0 0 (MQ below (qI g A (cM g bM vM1) r) ([.ref (bM 0), .ref (adK g i0)] : List Value).toArray s 0 0 A) (F0 m 55 ls []) := by
              refine lp_ind (T := Int32 → Option (Int32 × Vs)) (fun self14 => ∀ (x3_13 : Int32), self14 x3_13 = some (r, vM1) → ∀ (H : Heap) (locs : List Loc), va_P g.1 vwCl (cM g bM vM_2) H → va_D A (cM g bM vM_2) → va_S A s.heap H locs → ∀ ls : Array Slot, lv_has ls 4 [(0, .ref (bM 0)), (1, .ref (adK g i0)), (2, .int x2_4), (3, .int x3_13)] → W p l e (headSpec wsX8_takes rmX8_takes).room s m ([.ref (bM 0), .ref (adK g i0)] : List Value).toArray below meth c H locs 0 0 (MQ below (qI g A (cM g bM vM1) r) ([.ref (bM 0), .ref (adK g i0)] : List Value).toArray s 0 0 A) (F0 m 55 ls [])) ?_ ?_ FU
              · intro x3_13 hf; cases hf
              · intro self14 ih16 x3_13 hf H locs hP hD hS ls hl
                unfold f_X8_takes_L55 at hf
                refine lv_iload_n hx hb dX8_takes_55 rfl (lv_at hl 3 rfl) ?_
                refine lv_iload_n hx hb dX8_takes_56 rfl (lv_at hl 2 rfl) ?_
                refine lv_icmp_ge (tgt := 87) hx hb dX8_takes_57 (by decide) (fun c17 => ?_) (fun c17 => ?_)
                · have hf := it_t hf c17
                  refine lv_aload_n hx hb dX8_takes_87 rfl (lv_at hl 0 rfl) ?_
                  refine lv_dup hx hb dX8_takes_88 rfl ?_
                  refine va_get (D := g.1) (ci := 8) (fs := fcM bM vM_2) (v := .int (vM_2.1 14)) (C := RX8) (T := TX8) (N := 23) hx hb htu hinX8 hown hK hP 0 rfl rfl 14 (by decide) k_5_86 (fun _ h9 => h9) rfl dX8_takes_89 ?_
                  refine lv_iload_n hx hb dX8_takes_92 rfl (lv_at hl 2 rfl) ?_
                  refine lv_iadd hx hb dX8_takes_93 ?_
                  refine va_put (D := g.1) (ci := 8) (fs := fcM bM vM_2) (v := .int ((vM_2.1 14) + x2_4)) (ty := .int) (C := RX8) (T := TX8) (N := 23) hx hb htu hinX8 tyX8 tyX8_ok nmX8 hown hK hP hD hS 0 rfl rfl 14 (by decide) k_5_86 (fun _ h9 => h9) rfl (by decide +kernel) rfl rfl (Nat.le_of_ble_eq_true rfl) dX8_takes_94 (fun H locs hP hD hS => ?_)
                  obtain ⟨vM_18, evM_18⟩ : ∃ z, z = sF vM_2 14 ((vM_2.1 14) + x2_4) := ⟨_, rfl⟩
                  have hf := bn_at hf evM_18
                  have hP : va_P g.1 vwCl (cM g bM vM_18) H := by rw [evM_18]; exact hP
                  have hD : va_D A (cM g bM vM_18) := by rw [evM_18]; exact hD
                  refine lv_iconst (v := (1 : Int32)) hx hb dX8_takes_97 (by decide) ?_
                  obtain ⟨h19, hf⟩ := gd_isB hf
                  obtain ⟨e20, e21⟩ := kp_2 hf
                  rw [e21] at hP hD
                  exact k_zret hx hb hr hlocks hK hP hD hS e20 h19 dX8_takes_98
                · have hf := it_f hf c17
                  refine lv_aload_n hx hb dX8_takes_60 rfl (lv_at hl 0 rfl) ?_
                  refine va_get (D := g.1) (ci := 8) (fs := fcM bM vM_2) (v := .ref (bM 12)) (C := RX8) (T := TX8) (N := 23) hx hb htu hinX8 hown hK hP 0 rfl rfl 11 (by decide) k_5_83 (fun _ h9 => h9) rfl dX8_takes_61 ?_
                  refine lv_aload_n hx hb dX8_takes_64 rfl (lv_at hl 0 rfl) ?_
                  refine va_get (D := g.1) (ci := 8) (fs := fcM bM vM_2) (v := .int (vM_2.1 14)) (C := RX8) (T := TX8) (N := 23) hx hb htu hinX8 hown hK hP 0 rfl rfl 14 (by decide) k_5_86 (fun _ h9 => h9) rfl dX8_takes_65 ?_
                  refine lv_iload_n hx hb dX8_takes_68 rfl (lv_at hl 3 rfl) ?_
                  refine lv_iadd hx hb dX8_takes_69 ?_
                  obtain ⟨h22, hf⟩ := gd_in hf
                  refine va_iald (D := g.1) (f := (vM_2.2.1 11)) hx hb hK hP 9 0 rfl rfl h22 dX8_takes_70 ?_
                  refine lv_aload_n hx hb dX8_takes_71 rfl (lv_at hl 1 rfl) ?_
                  refine lv_iload_n hx hb dX8_takes_72 rfl (lv_at hl 3 rfl) ?_
                  obtain ⟨r23, hg24, hf⟩ := o1_at hf
                  refine k_viS ⟨hx, hb, hml, hown, htu⟩ hK hP hD hS hA hG (c_J0_charAt_5068e l g x3_13 i0 hi0 r23 hg24) (cwV 1 htu (gU_V mw_5_187 hcJ0_charAt_5068e) rfl rfl rfl hdJ0_charAt_5068e ⟨Nat.le_of_ble_eq_true rfl, Nat.le_of_ble_eq_true rfl⟩) (vk_recv hG.2.2.1 hi0 hS) (As := [.int x3_13]) (rest := [.int (vM_2.2.1 11 (((vM_2.1 14) + x3_13)).toNatClampNeg)]) rfl rfl hl.1 (Nat.le_of_ble_eq_true rfl) dX8_takes_73 (k1 := 0) (n1 := 0) rfl rfl ⟨Nat.le_refl _, Nat.le_refl _⟩ (fun H locs hP hD hS => ?_)
                  refine lv_icmp_eq (tgt := 81) hx hb dX8_takes_76 (by decide) (fun c25 => ?_) (fun c25 => ?_)
                  · have hf := it_t hf c25
                    refine lv_iinc (v := (x3_13 + (1 : Int32))) (lv' := [(3, .int (x3_13 + (1 : Int32))), (0, .ref (bM 0)), (1, .ref (adK g i0)), (2, .int x2_4)]) hx hb dX8_takes_81 hl (k := 3) rfl rfl (by decide) rfl (fun ls hl => ?_)
                    refine lv_goto (tgt := 55) hx hb dX8_takes_84 (by decide) ?_
                    exact ih16 (x3_13 + (1 : Int32)) hf H locs hP hD hS _ (lv_sub hl [1, 2, 3, 0] rfl)
                  · have hf := it_f hf c25
                    refine lv_iconst (v := (0 : Int32)) hx hb dX8_takes_79 (by decide) ?_
                    obtain ⟨h26, hf⟩ := gd_isB hf
                    obtain ⟨e27, e28⟩ := kp_2 hf
                    rw [e28] at hP hD
                    exact k_zret hx hb hr hlocks hK hP hD hS e27 h26 dX8_takes_80
            exact hL15 (0 : Int32) hf H locs hP hD hS _ (lv_sub hl [1, 2, 3, 0] rfl)
          · have hf := it_f hf c12
            refine lv_iconst (v := (0 : Int32)) hx hb dX8_takes_51 (by decide) ?_
            obtain ⟨h29, hf⟩ := gd_isB hf
            obtain ⟨e30, e31⟩ := kp_2 hf
            rw [e31] at hP hD
            exact k_zret hx hb hr hlocks hK hP hD hS e30 h29 dX8_takes_52
        refine lv_icmp_ge (tgt := 43) hx hb dX8_takes_17 (by decide) (fun c33 => ?_) (fun c33 => ?_)
        · have hf := it_t hf c33
          exact hJ9 hf H locs hP hD hS _ (lv_sub hl [0, 1, 2] rfl)
        · have hf := it_f hf c33
          refine lv_aload_n hx hb dX8_takes_20 rfl (lv_at hl 0 rfl) ?_
          refine va_get (D := g.1) (ci := 8) (fs := fcM bM vM_2) (v := .ref (bM 12)) (C := RX8) (T := TX8) (N := 23) hx hb htu hinX8 hown hK hP 0 rfl rfl 11 (by decide) k_5_83 (fun _ h9 => h9) rfl dX8_takes_21 ?_
          refine lv_aload_n hx hb dX8_takes_24 rfl (lv_at hl 0 rfl) ?_
          refine va_get (D := g.1) (ci := 8) (fs := fcM bM vM_2) (v := .int (vM_2.1 14)) (C := RX8) (T := TX8) (N := 23) hx hb htu hinX8 hown hK hP 0 rfl rfl 14 (by decide) k_5_86 (fun _ h9 => h9) rfl dX8_takes_25 ?_
          refine lv_iload_n hx hb dX8_takes_28 rfl (lv_at hl 2 rfl) ?_
          refine lv_iadd hx hb dX8_takes_29 ?_
          obtain ⟨h34, hf⟩ := gd_in hf
          refine va_iald (D := g.1) (f := (vM_2.2.1 11)) hx hb hK hP 9 0 rfl rfl h34 dX8_takes_30 ?_
          obtain ⟨r35, hg36, hf⟩ := o1_at hf
          refine k_si0 ⟨hx, hb, hml, hown, htu⟩ hK hP hD hS hA hG (c_X8_isLetter l g (vM_2.2.1 11 (((vM_2.1 14) + x2_4)).toNatClampNeg) r35 hg36) (va_cwS 1 htu (gU_S mw_5_183 hcX8_isLetter) rfl rfl rfl hdX8_isLetter ⟨Nat.le_of_ble_eq_true rfl, Nat.le_of_ble_eq_true rfl⟩) (As := [.int (vM_2.2.1 11 (((vM_2.1 14) + x2_4)).toNatClampNeg)]) (rest := []) rfl rfl hl.1 (Nat.le_of_ble_eq_true rfl) dX8_takes_31 (k1 := 0) (n1 := 0) rfl rfl ⟨Nat.le_refl _, Nat.le_refl _⟩ (fun H locs hP hD hS => ?_)
          refine lv_if_eq (tgt := 43) hx hb dX8_takes_34 (by decide) (fun c37 => ?_) (fun c37 => ?_)
          · have hf := it_t hf c37
            exact hJ9 hf H locs hP hD hS _ (lv_sub hl [0, 1, 2] rfl)
          · have hf := it_f hf c37
            refine lv_iinc (v := (x2_4 + (1 : Int32))) (lv' := [(2, .int (x2_4 + (1 : Int32))), (0, .ref (bM 0)), (1, .ref (adK g i0))]) hx hb dX8_takes_37 hl (k := 2) rfl rfl (by decide) rfl (fun ls hl => ?_)
            refine lv_goto (tgt := 7) hx hb dX8_takes_40 (by decide) ?_
            exact ih7 (x2_4 + (1 : Int32)) hf H locs hP hD hS _ (lv_sub hl [1, 2, 0] rfl)
    exact hL6 (0 : Int32) hf H locs hP hD hS _ (lv_sub hl [1, 2, 0] rfl)
  rw [hH, hlo] at hW
  exact hW
def f_X8_kindHere (vM : Vs) : Option (Int32 × Vs) :=
  o2 (f_X8_takes vM 1) (fun (r1 : Int32) (vM_2 : Vs) => jn (fun (t4 : Int32) (vM_5 : Vs) => some (t4, vM_5)) (fun k6 => if r1 = 0 then o2 (f_X8_takes vM_2 16) (fun (r12 : Int32) (vM_13 : Vs) => if r12 = 0 then o2 (f_X8_takes vM_13 9) (fun (r16 : Int32) (vM_17 : Vs) => if r16 = 0 then o2 (f_X8_takes vM_17 11) (fun (r20 : Int32) (vM_21 : Vs) => if r20 = 0 then o2 (f_X8_takes vM_21 25) (fun (r24 : Int32) (vM_25 : Vs) => if r24 = 0 then o2 (f_X8_takes vM_25 24) (fun (r28 : Int32) (vM_29 : Vs) => if r28 = 0 then o2 (f_X8_takes vM_29 12) (fun (r32 : Int32) (vM_33 : Vs) => if r32 = 0 then o2 (f_X8_takes vM_33 3) (fun (r36 : Int32) (vM_37 : Vs) => if r36 = 0 then o2 (f_X8_takes vM_37 8) (fun (r40 : Int32) (vM_41 : Vs) => if r40 = 0 then k6 (-1 : Int32) vM_41 else k6 (8 : Int32) vM_41) else k6 (7 : Int32) vM_37) else k6 (6 : Int32) vM_33) else k6 (5 : Int32) vM_29) else k6 (4 : Int32) vM_25) else k6 (3 : Int32) vM_21) else k6 (2 : Int32) vM_17) else k6 (1 : Int32) vM_13) else k6 (0 : Int32) vM_2))
abbrev wsX8_kindHere : List Cond := .code yX8_kindHere cX8_kindHere 1 (some .int) :: UW
abbrev rmX8_kindHere : Room := { frames := 5, cells := 0, slots := 0, locals := 108 }
set_option maxHeartbeats 4000000 in
set_option maxRecDepth 100000 in
theorem c_X8_kindHere (l : Launch) (g : Gx) (bM : Nat → Nat) (vM : Vs) (r : Int32) (vM1 : Vs) (hf : f_X8_kindHere vM = some (r, vM1)) : CtI l yX8_kindHere wsX8_kindHere rmX8_kindHere g [.ref (bM 0)] (cM g bM vM) (cM g bM vM1) r 0 0 := by
  unfold CtI
  intro sz
  refine Met.ofW (cc := cX8_kindHere) (maxL := 1) (ret := (some .int)) (by decide) rfl ?_
  intro p e s m args below meth c s₁ B hml hv
  obtain ⟨rfl, hsz, hP, hK, hD0, hG⟩ := hv
  have hx := B.exec
  have hb := B.bytes
  have hr := B.returns
  have hts := atoms_spec (ws := wsX8_kindHere) B.pre
  have hown : s.vm.findClass RX8 = some m.cls := findClass_of_methodNamed B.named
  have hlocks := B.notSynchronized
  subst hsz
  have hD := hD0.self (sz := s.heap.size)
  generalize hAe : va_A (cM g bM vM) s.heap.size = A at hD hG ⊢
  have hA : ∀ q : Nat, s.heap.size ≤ q → A q := fun q h => by rw [← hAe]; exact Or.inr h
  clear hAe hD0
  have hS : va_S A s.heap s.heap [] := va_S.rf
  have hl := lv_entry ([.ref (bM 0)]) (n := 1) (Nat.le_of_ble_eq_true rfl)
  rw [lg_entry_eq]
  generalize (lg_sl ([.ref (bM 0)]) ++ List.replicate (1 - (lg_sl ([.ref (bM 0)])).length) Slot.unset).toArray = ls at hl ⊢
  have hl : lv_has ls 1 [(0, .ref (bM 0))] := hl
  have htu : ∀ w ∈ UW, w.before _ s = true := fun w h => hts w (List.mem_cons_of_mem _ h)
  unfold f_X8_kindHere at hf
  obtain ⟨H, hH⟩ : ∃ z, z = s.heap := ⟨_, rfl⟩
  obtain ⟨locs, hlo⟩ : ∃ z : List Loc, z = [] := ⟨_, rfl⟩
  have hS : va_S A s.heap H locs := by rw [hH, hlo]; exact hS
  rw [← hH] at hP
  have hW : W p l e (headSpec wsX8_kindHere rmX8_kindHere).room s m ([.ref (bM 0)] : List Value).toArray below meth c H locs 0 0 (MQ below (qI g A (cM g bM vM1) r) ([.ref (bM 0)] : List Value).toArray s 0 0 A) (F0 m 0 ls []) := by
    refine lv_aload_n hx hb dX8_kindHere_0 rfl (lv_at hl 0 rfl) ?_
    refine va_ldcS hx hb hown (hG.1.1 _ (List.mem_of_getElem? (i := 28) rfl)) dX8_kindHere_1 ?_
    obtain ⟨r1, vM_2, hg3, hf⟩ := o2_at hf
    refine k_viW ⟨hx, hb, hml, hown, htu⟩ hK hP hD hS hA hG (c_X8_takes l g bM vM 1 (by decide) r1 vM_2 hg3) (cwV 1 htu (gU_V mw_5_175 hcX8_takes) rfl rfl rfl hdX8_takes ⟨Nat.le_of_ble_eq_true rfl, Nat.le_of_ble_eq_true rfl⟩) (q0 := 0) (ci := 8) (fs := fcM bM vM) (q := (RX8, TX8, 23)) rfl rfl rfl (As := [.ref (adK g 1)]) (rest := []) rfl rfl hl.1 (Nat.le_of_ble_eq_true rfl) dX8_kindHere_3 (k1 := 0) (n1 := 0) rfl rfl ⟨Nat.le_refl _, Nat.le_refl _⟩ (fun H locs hP hD hS => ?_)
    obtain ⟨k6, hk10, hf⟩ := jn_at hf
    have hJ7 : ∀ (t4 : Int32) (vM_5 : Vs), k6 t4 vM_5 = some (r, vM1) → ∀ (H : Heap) (locs : List Loc), va_P g.1 vwCl (cM g bM vM_5) H → va_D A (cM g bM vM_5) → va_S A s.heap H locs → ∀ ls : Array Slot, lv_has ls 1 [] → W p l e (headSpec wsX8_kindHere rmX8_kindHere).room s m ([.ref (bM 0)] : List Value).toArray below meth c H locs 0 0 (MQ below (qI g A (cM g bM vM1) r) ([.ref (bM 0)] : List Value).toArray s 0 0 A) (F0 m 121 ls [.int t4]) := by
      intro t4 vM_5 hf H locs hP hD hS ls hl
      rw [hk10] at hf
      dsimp only at hf
      clear hk10
      obtain ⟨e8, e9⟩ := kp_2 hf
      rw [e9] at hP hD
      exact k_iret hx hb hr hlocks hK hP hD hS e8 dX8_kindHere_121
    refine lv_if_eq (tgt := 13) hx hb dX8_kindHere_6 (by decide) (fun c11 => ?_) (fun c11 => ?_)
    · have hf := it_t hf c11
      refine lv_aload_n hx hb dX8_kindHere_13 rfl (lv_at hl 0 rfl) ?_
      refine va_ldcS hx hb hown (hG.1.1 _ (List.mem_of_getElem? (i := 29) rfl)) dX8_kindHere_14 ?_
      obtain ⟨r12, vM_13, hg14, hf⟩ := o2_at hf
      refine k_viW ⟨hx, hb, hml, hown, htu⟩ hK hP hD hS hA hG (c_X8_takes l g bM vM_2 16 (by decide) r12 vM_13 hg14) (cwV 1 htu (gU_V mw_5_175 hcX8_takes) rfl rfl rfl hdX8_takes ⟨Nat.le_of_ble_eq_true rfl, Nat.le_of_ble_eq_true rfl⟩) (q0 := 0) (ci := 8) (fs := fcM bM vM_2) (q := (RX8, TX8, 23)) rfl rfl rfl (As := [.ref (adK g 16)]) (rest := []) rfl rfl hl.1 (Nat.le_of_ble_eq_true rfl) dX8_kindHere_16 (k1 := 0) (n1 := 0) rfl rfl ⟨Nat.le_refl _, Nat.le_refl _⟩ (fun H locs hP hD hS => ?_)
      refine lv_if_eq (tgt := 26) hx hb dX8_kindHere_19 (by decide) (fun c15 => ?_) (fun c15 => ?_)
      · have hf := it_t hf c15
        refine lv_aload_n hx hb dX8_kindHere_26 rfl (lv_at hl 0 rfl) ?_
        refine va_ldcS hx hb hown (hG.1.1 _ (List.mem_of_getElem? (i := 30) rfl)) dX8_kindHere_27 ?_
        obtain ⟨r16, vM_17, hg18, hf⟩ := o2_at hf
        refine k_viW ⟨hx, hb, hml, hown, htu⟩ hK hP hD hS hA hG (c_X8_takes l g bM vM_13 9 (by decide) r16 vM_17 hg18) (cwV 1 htu (gU_V mw_5_175 hcX8_takes) rfl rfl rfl hdX8_takes ⟨Nat.le_of_ble_eq_true rfl, Nat.le_of_ble_eq_true rfl⟩) (q0 := 0) (ci := 8) (fs := fcM bM vM_13) (q := (RX8, TX8, 23)) rfl rfl rfl (As := [.ref (adK g 9)]) (rest := []) rfl rfl hl.1 (Nat.le_of_ble_eq_true rfl) dX8_kindHere_29 (k1 := 0) (n1 := 0) rfl rfl ⟨Nat.le_refl _, Nat.le_refl _⟩ (fun H locs hP hD hS => ?_)
        refine lv_if_eq (tgt := 39) hx hb dX8_kindHere_32 (by decide) (fun c19 => ?_) (fun c19 => ?_)
        · have hf := it_t hf c19
          refine lv_aload_n hx hb dX8_kindHere_39 rfl (lv_at hl 0 rfl) ?_
          refine va_ldcS hx hb hown (hG.1.1 _ (List.mem_of_getElem? (i := 31) rfl)) dX8_kindHere_40 ?_
          obtain ⟨r20, vM_21, hg22, hf⟩ := o2_at hf
          refine k_viW ⟨hx, hb, hml, hown, htu⟩ hK hP hD hS hA hG (c_X8_takes l g bM vM_17 11 (by decide) r20 vM_21 hg22) (cwV 1 htu (gU_V mw_5_175 hcX8_takes) rfl rfl rfl hdX8_takes ⟨Nat.le_of_ble_eq_true rfl, Nat.le_of_ble_eq_true rfl⟩) (q0 := 0) (ci := 8) (fs := fcM bM vM_17) (q := (RX8, TX8, 23)) rfl rfl rfl (As := [.ref (adK g 11)]) (rest := []) rfl rfl hl.1 (Nat.le_of_ble_eq_true rfl) dX8_kindHere_42 (k1 := 0) (n1 := 0) rfl rfl ⟨Nat.le_refl _, Nat.le_refl _⟩ (fun H locs hP hD hS => ?_)
          refine lv_if_eq (tgt := 52) hx hb dX8_kindHere_45 (by decide) (fun c23 => ?_) (fun c23 => ?_)
          · have hf := it_t hf c23
            refine lv_aload_n hx hb dX8_kindHere_52 rfl (lv_at hl 0 rfl) ?_
            refine va_ldcS hx hb hown (hG.1.1 _ (List.mem_of_getElem? (i := 32) rfl)) dX8_kindHere_53 ?_
            obtain ⟨r24, vM_25, hg26, hf⟩ := o2_at hf
            refine k_viW ⟨hx, hb, hml, hown, htu⟩ hK hP hD hS hA hG (c_X8_takes l g bM vM_21 25 (by decide) r24 vM_25 hg26) (cwV 1 htu (gU_V mw_5_175 hcX8_takes) rfl rfl rfl hdX8_takes ⟨Nat.le_of_ble_eq_true rfl, Nat.le_of_ble_eq_true rfl⟩) (q0 := 0) (ci := 8) (fs := fcM bM vM_21) (q := (RX8, TX8, 23)) rfl rfl rfl (As := [.ref (adK g 25)]) (rest := []) rfl rfl hl.1 (Nat.le_of_ble_eq_true rfl) dX8_kindHere_55 (k1 := 0) (n1 := 0) rfl rfl ⟨Nat.le_refl _, Nat.le_refl _⟩ (fun H locs hP hD hS => ?_)
            refine lv_if_eq (tgt := 65) hx hb dX8_kindHere_58 (by decide) (fun c27 => ?_) (fun c27 => ?_)
            · have hf := it_t hf c27
              refine lv_aload_n hx hb dX8_kindHere_65 rfl (lv_at hl 0 rfl) ?_
              refine va_ldcS hx hb hown (hG.1.1 _ (List.mem_of_getElem? (i := 33) rfl)) dX8_kindHere_66 ?_
              obtain ⟨r28, vM_29, hg30, hf⟩ := o2_at hf
              refine k_viW ⟨hx, hb, hml, hown, htu⟩ hK hP hD hS hA hG (c_X8_takes l g bM vM_25 24 (by decide) r28 vM_29 hg30) (cwV 1 htu (gU_V mw_5_175 hcX8_takes) rfl rfl rfl hdX8_takes ⟨Nat.le_of_ble_eq_true rfl, Nat.le_of_ble_eq_true rfl⟩) (q0 := 0) (ci := 8) (fs := fcM bM vM_25) (q := (RX8, TX8, 23)) rfl rfl rfl (As := [.ref (adK g 24)]) (rest := []) rfl rfl hl.1 (Nat.le_of_ble_eq_true rfl) dX8_kindHere_68 (k1 := 0) (n1 := 0) rfl rfl ⟨Nat.le_refl _, Nat.le_refl _⟩ (fun H locs hP hD hS => ?_)
              refine lv_if_eq (tgt := 78) hx hb dX8_kindHere_71 (by decide) (fun c31 => ?_) (fun c31 => ?_)
              · have hf := it_t hf c31
                refine lv_aload_n hx hb dX8_kindHere_78 rfl (lv_at hl 0 rfl) ?_
                refine va_ldcS hx hb hown (hG.1.1 _ (List.mem_of_getElem? (i := 34) rfl)) dX8_kindHere_79 ?_
                obtain ⟨r32, vM_33, hg34, hf⟩ := o2_at hf
                refine k_viW ⟨hx, hb, hml, hown, htu⟩ hK hP hD hS hA hG (c_X8_takes l g bM vM_29 12 (by decide) r32 vM_33 hg34) (cwV 1 htu (gU_V mw_5_175 hcX8_takes) rfl rfl rfl hdX8_takes ⟨Nat.le_of_ble_eq_true rfl, Nat.le_of_ble_eq_true rfl⟩) (q0 := 0) (ci := 8) (fs := fcM bM vM_29) (q := (RX8, TX8, 23)) rfl rfl rfl (As := [.ref (adK g 12)]) (rest := []) rfl rfl hl.1 (Nat.le_of_ble_eq_true rfl) dX8_kindHere_81 (k1 := 0) (n1 := 0) rfl rfl ⟨Nat.le_refl _, Nat.le_refl _⟩ (fun H locs hP hD hS => ?_)
                refine lv_if_eq (tgt := 92) hx hb dX8_kindHere_84 (by decide) (fun c35 => ?_) (fun c35 => ?_)
                · have hf := it_t hf c35
                  refine lv_aload_n hx hb dX8_kindHere_92 rfl (lv_at hl 0 rfl) ?_
                  refine va_ldcS hx hb hown (hG.1.1 _ (List.mem_of_getElem? (i := 35) rfl)) dX8_kindHere_93 ?_
                  obtain ⟨r36, vM_37, hg38, hf⟩ := o2_at hf
                  refine k_viW ⟨hx, hb, hml, hown, htu⟩ hK hP hD hS hA hG (c_X8_takes l g bM vM_33 3 (by decide) r36 vM_37 hg38) (cwV 1 htu (gU_V mw_5_175 hcX8_takes) rfl rfl rfl hdX8_takes ⟨Nat.le_of_ble_eq_true rfl, Nat.le_of_ble_eq_true rfl⟩) (q0 := 0) (ci := 8) (fs := fcM bM vM_33) (q := (RX8, TX8, 23)) rfl rfl rfl (As := [.ref (adK g 3)]) (rest := []) rfl rfl hl.1 (Nat.le_of_ble_eq_true rfl) dX8_kindHere_95 (k1 := 0) (n1 := 0) rfl rfl ⟨Nat.le_refl _, Nat.le_refl _⟩ (fun H locs hP hD hS => ?_)
                  refine lv_if_eq (tgt := 106) hx hb dX8_kindHere_98 (by decide) (fun c39 => ?_) (fun c39 => ?_)
                  · have hf := it_t hf c39
                    refine lv_aload_n hx hb dX8_kindHere_106 rfl (lv_at hl 0 rfl) ?_
                    refine va_ldcS hx hb hown (hG.1.1 _ (List.mem_of_getElem? (i := 36) rfl)) dX8_kindHere_107 ?_
                    obtain ⟨r40, vM_41, hg42, hf⟩ := o2_at hf
                    refine k_viW ⟨hx, hb, hml, hown, htu⟩ hK hP hD hS hA hG (c_X8_takes l g bM vM_37 8 (by decide) r40 vM_41 hg42) (cwV 1 htu (gU_V mw_5_175 hcX8_takes) rfl rfl rfl hdX8_takes ⟨Nat.le_of_ble_eq_true rfl, Nat.le_of_ble_eq_true rfl⟩) (q0 := 0) (ci := 8) (fs := fcM bM vM_37) (q := (RX8, TX8, 23)) rfl rfl rfl (As := [.ref (adK g 8)]) (rest := []) rfl rfl hl.1 (Nat.le_of_ble_eq_true rfl) dX8_kindHere_109 (k1 := 0) (n1 := 0) rfl rfl ⟨Nat.le_refl _, Nat.le_refl _⟩ (fun H locs hP hD hS => ?_)
                    refine lv_if_eq (tgt := 120) hx hb dX8_kindHere_112 (by decide) (fun c43 => ?_) (fun c43 => ?_)
                    · have hf := it_t hf c43
                      refine lv_iconst (v := (-1 : Int32)) hx hb dX8_kindHere_120 (by decide) ?_
                      exact hJ7 (-1 : Int32) vM_41 hf H locs hP hD hS _ (lv_sub hl [] rfl)
                    · have hf := it_f hf c43
                      refine lv_bipush (v := (8 : Int32)) hx hb dX8_kindHere_115 (by decide) ?_
                      refine lv_goto (tgt := 121) hx hb dX8_kindHere_117 (by decide) ?_
                      exact hJ7 (8 : Int32) vM_41 hf H locs hP hD hS _ (lv_sub hl [] rfl)
                  · have hf := it_f hf c39
                    refine lv_bipush (v := (7 : Int32)) hx hb dX8_kindHere_101 (by decide) ?_
                    refine lv_goto (tgt := 121) hx hb dX8_kindHere_103 (by decide) ?_
                    exact hJ7 (7 : Int32) vM_37 hf H locs hP hD hS _ (lv_sub hl [] rfl)
                · have hf := it_f hf c35
                  refine lv_bipush (v := (6 : Int32)) hx hb dX8_kindHere_87 (by decide) ?_
                  refine lv_goto (tgt := 121) hx hb dX8_kindHere_89 (by decide) ?_
                  exact hJ7 (6 : Int32) vM_33 hf H locs hP hD hS _ (lv_sub hl [] rfl)
              · have hf := it_f hf c31
                refine lv_iconst (v := (5 : Int32)) hx hb dX8_kindHere_74 (by decide) ?_
                refine lv_goto (tgt := 121) hx hb dX8_kindHere_75 (by decide) ?_
                exact hJ7 (5 : Int32) vM_29 hf H locs hP hD hS _ (lv_sub hl [] rfl)
            · have hf := it_f hf c27
              refine lv_iconst (v := (4 : Int32)) hx hb dX8_kindHere_61 (by decide) ?_
              refine lv_goto (tgt := 121) hx hb dX8_kindHere_62 (by decide) ?_
              exact hJ7 (4 : Int32) vM_25 hf H locs hP hD hS _ (lv_sub hl [] rfl)
          · have hf := it_f hf c23
            refine lv_iconst (v := (3 : Int32)) hx hb dX8_kindHere_48 (by decide) ?_
            refine lv_goto (tgt := 121) hx hb dX8_kindHere_49 (by decide) ?_
            exact hJ7 (3 : Int32) vM_21 hf H locs hP hD hS _ (lv_sub hl [] rfl)
        · have hf := it_f hf c19
          refine lv_iconst (v := (2 : Int32)) hx hb dX8_kindHere_35 (by decide) ?_
          refine lv_goto (tgt := 121) hx hb dX8_kindHere_36 (by decide) ?_
          exact hJ7 (2 : Int32) vM_17 hf H locs hP hD hS _ (lv_sub hl [] rfl)
      · have hf := it_f hf c15
        refine lv_iconst (v := (1 : Int32)) hx hb dX8_kindHere_22 (by decide) ?_
        refine lv_goto (tgt := 121) hx hb dX8_kindHere_23 (by decide) ?_
        exact hJ7 (1 : Int32) vM_13 hf H locs hP hD hS _ (lv_sub hl [] rfl)
    · have hf := it_f hf c11
      refine lv_iconst (v := (0 : Int32)) hx hb dX8_kindHere_9 (by decide) ?_
      refine lv_goto (tgt := 121) hx hb dX8_kindHere_10 (by decide) ?_
      exact hJ7 (0 : Int32) vM_2 hf H locs hP hD hS _ (lv_sub hl [] rfl)
  rw [hH, hlo] at hW
  exact hW
def f_X8_readsGate_L62 (r7 : Int32) (vM_8 : Vs) (self14 : Int32 → Vs → Option (Int32 × Vs)) (x4_12 : Int32) (vM_13 : Vs) : Option (Int32 × Vs) :=
  o1 (f_X8_fewest r7) (fun (r17 : Int32) => jn (fun (vM_19 : Vs) => o2 (f_X8_readsWire vM_19) (fun (r22 : Int32) (vM_23 : Vs) => if r22 = 0 then gd (isB (0 : Int32)) (some ((0 : Int32), vM_23)) else gd (inb (((56 : Int32) + ((4 : Int32) * (vM_8.2.1 2 ((1 : Int32)).toNatClampNeg))) + x4_12) 440) (bn (sI vM_23 2 ((((56 : Int32) + ((4 : Int32) * (vM_8.2.1 2 ((1 : Int32)).toNatClampNeg))) + x4_12)).toNatClampNeg (vM_23.1 17)) (fun (vM_27 : Vs) => self14 (x4_12 + (1 : Int32)) vM_27)))) (fun k20 => if x4_12 < r17 then k20 vM_13 else o1 (f_X8_mostOf r7) (fun (r33 : Int32) => jn (fun (vM_35 : Vs) => gd (inb ((8 : Int32) + (vM_8.2.1 2 ((1 : Int32)).toNatClampNeg)) 440) (bn (sI vM_35 2 (((8 : Int32) + (vM_8.2.1 2 ((1 : Int32)).toNatClampNeg))).toNatClampNeg r7) (fun (vM_39 : Vs) => gd (inb ((32 : Int32) + (vM_8.2.1 2 ((1 : Int32)).toNatClampNeg)) 440) (bn (sI vM_39 2 (((32 : Int32) + (vM_8.2.1 2 ((1 : Int32)).toNatClampNeg))).toNatClampNeg x4_12) (fun (vM_41 : Vs) => gd (inb (1 : Int32) 440) (gd (inb (1 : Int32) 440) (bn (sI vM_41 2 ((1 : Int32)).toNatClampNeg ((vM_41.2.1 2 ((1 : Int32)).toNatClampNeg) + (1 : Int32))) (fun (vM_44 : Vs) => gd (isB (1 : Int32)) (some ((1 : Int32), vM_44)))))))))) (fun k36 => if r33 ≤ x4_12 then k36 vM_13 else o2 (f_X8_here vM_13) (fun (r50 : Int32) (vM_51 : Vs) => o1 (f_X8_isDigit r50) (fun (r53 : Int32) => if r53 = 0 then k36 vM_51 else k20 vM_51))))))
def f_X8_readsGate (vM : Vs) (x1 : Int32) : Option (Int32 × Vs) :=
  gd (inb (1 : Int32) 440) (gd (inb (0 : Int32) 440) (if ((vM.2.1 2 ((1 : Int32)).toNatClampNeg) - (vM.2.1 2 ((0 : Int32)).toNatClampNeg)) = (16 : Int32) then o2 (f_X8_fails vM (-6 : Int32) x1) (fun (r62 : Int32) (vM_63 : Vs) => gd (isB r62) (some (r62, vM_63))) else o2 (f_X8_here vM) (fun (r4 : Int32) (vM_5 : Vs) => o2 (f_X8_kindHere vM_5) (fun (r7 : Int32) (vM_8 : Vs) => if r7 = (-1 : Int32) then o2 (f_X8_fails vM_8 (-2 : Int32) (vM_8.1 14)) (fun (r56 : Int32) (vM_57 : Vs) => gd (isB r56) (some (r56, vM_57))) else gd (inb (1 : Int32) 440) (lp (f_X8_readsGate_L62 r7 vM_8) (fun _ _ => none) FU (0 : Int32) vM_8)))))
abbrev wsX8_readsGate : List Cond := .code yX8_readsGate cX8_readsGate 5 (some .boolean) :: UW
abbrev rmX8_readsGate : Room := { frames := 6, cells := 0, slots := 0, locals := 128 }
set_option maxHeartbeats 4000000 in
set_option maxRecDepth 100000 in
theorem c_X8_readsGate (l : Launch) (g : Gx) (bM : Nat → Nat) (vM : Vs) (x1 : Int32) (r : Int32) (vM1 : Vs) (hf : f_X8_readsGate vM x1 = some (r, vM1)) : CtI l yX8_readsGate wsX8_readsGate rmX8_readsGate g [.ref (bM 0), .int x1] (cM g bM vM) (cM g bM vM1) r 0 0 := by
  unfold CtI
  intro sz
  refine Met.ofW (cc := cX8_readsGate) (maxL := 5) (ret := (some .boolean)) (by decide) rfl ?_
  intro p e s m args below meth c s₁ B hml hv
  obtain ⟨rfl, hsz, hP, hK, hD0, hG⟩ := hv
  have hx := B.exec
  have hb := B.bytes
  have hr := B.returns
  have hts := atoms_spec (ws := wsX8_readsGate) B.pre
  have hown : s.vm.findClass RX8 = some m.cls := findClass_of_methodNamed B.named
  have hlocks := B.notSynchronized
  subst hsz
  have hD := hD0.self (sz := s.heap.size)
  generalize hAe : va_A (cM g bM vM) s.heap.size = A at hD hG ⊢
  have hA : ∀ q : Nat, s.heap.size ≤ q → A q := fun q h => by rw [← hAe]; exact Or.inr h
  clear hAe hD0
  have hS : va_S A s.heap s.heap [] := va_S.rf
  have hl := lv_entry ([.ref (bM 0), .int x1]) (n := 5) (Nat.le_of_ble_eq_true rfl)
  rw [lg_entry_eq]
  generalize (lg_sl ([.ref (bM 0), .int x1]) ++ List.replicate (5 - (lg_sl ([.ref (bM 0), .int x1])).length) Slot.unset).toArray = ls at hl ⊢
  have hl : lv_has ls 5 [(0, .ref (bM 0)), (1, .int x1)] := hl
  have htu : ∀ w ∈ UW, w.before _ s = true := fun w h => hts w (List.mem_cons_of_mem _ h)
  have k_5_74 := htu _ mw_5_74
  have k_5_89 := htu _ mw_5_89
  have k_5_86 := htu _ mw_5_86
  unfold f_X8_readsGate at hf
  obtain ⟨H, hH⟩ : ∃ z, z = s.heap := ⟨_, rfl⟩
  obtain ⟨locs, hlo⟩ : ∃ z : List Loc, z = [] := ⟨_, rfl⟩
  have hS : va_S A s.heap H locs := by rw [hH, hlo]; exact hS
  rw [← hH] at hP
  have hW : W p l e (headSpec wsX8_readsGate rmX8_readsGate).room s m ([.ref (bM 0), .int x1] : List Value).toArray below meth c H locs 0 0 (MQ below (qI g A (cM g bM vM1) r) ([.ref (bM 0), .int x1] : List Value).toArray s 0 0 A) (F0 m 0 ls []) := by
    refine lv_aload_n hx hb dX8_readsGate_0 rfl (lv_at hl 0 rfl) ?_
    refine va_get (D := g.1) (ci := 8) (fs := fcM bM vM) (v := .ref (bM 3)) (C := RX8) (T := TX8) (N := 23) hx hb htu hinX8 hown hK hP 0 rfl rfl 2 (by decide) k_5_74 (fun _ h9 => h9) rfl dX8_readsGate_1 ?_
    refine lv_iconst (v := (1 : Int32)) hx hb dX8_readsGate_4 (by decide) ?_
    obtain ⟨h1, hf⟩ := gd_in hf
    refine va_iald (D := g.1) (f := (vM.2.1 2)) hx hb hK hP 2 0 rfl rfl h1 dX8_readsGate_5 ?_
    refine lv_aload_n hx hb dX8_readsGate_6 rfl (lv_at hl 0 rfl) ?_
    refine va_get (D := g.1) (ci := 8) (fs := fcM bM vM) (v := .ref (bM 3)) (C := RX8) (T := TX8) (N := 23) hx hb htu hinX8 hown hK hP 0 rfl rfl 2 (by decide) k_5_74 (fun _ h9 => h9) rfl dX8_readsGate_7 ?_
    refine lv_iconst (v := (0 : Int32)) hx hb dX8_readsGate_10 (by decide) ?_
    obtain ⟨h2, hf⟩ := gd_in hf
    refine va_iald (D := g.1) (f := (vM.2.1 2)) hx hb hK hP 2 0 rfl rfl h2 dX8_readsGate_11 ?_
    refine lv_isub hx hb dX8_readsGate_12 ?_
    refine lv_bipush (v := (16 : Int32)) hx hb dX8_readsGate_13 (by decide) ?_
    refine lv_icmp_ne (tgt := 26) hx hb dX8_readsGate_15 (by decide) (fun c3 => ?_) (fun c3 => ?_)
    · have hf := it_f hf c3
      refine lv_aload_n hx hb dX8_readsGate_26 rfl (lv_at hl 0 rfl) ?_
      obtain ⟨r4, vM_5, hg6, hf⟩ := o2_at hf
      refine k_viW ⟨hx, hb, hml, hown, htu⟩ hK hP hD hS hA hG (c_X8_here l g bM vM r4 vM_5 hg6) (cwV 0 htu (gU_V mw_5_179 hcX8_here) rfl rfl rfl hdX8_here ⟨Nat.le_of_ble_eq_true rfl, Nat.le_of_ble_eq_true rfl⟩) (q0 := 0) (ci := 8) (fs := fcM bM vM) (q := (RX8, TX8, 23)) rfl rfl rfl (As := []) (rest := []) rfl rfl hl.1 (Nat.le_of_ble_eq_true rfl) dX8_readsGate_27 (k1 := 0) (n1 := 0) rfl rfl ⟨Nat.le_refl _, Nat.le_refl _⟩ (fun H locs hP hD hS => ?_)
      refine lv_pop hx hb dX8_readsGate_30 rfl ?_
      refine lv_aload_n hx hb dX8_readsGate_31 rfl (lv_at hl 0 rfl) ?_
      obtain ⟨r7, vM_8, hg9, hf⟩ := o2_at hf
      refine k_viW ⟨hx, hb, hml, hown, htu⟩ hK hP hD hS hA hG (c_X8_kindHere l g bM vM_5 r7 vM_8 hg9) (cwV 0 htu (gU_V mw_5_213 hcX8_kindHere) rfl rfl rfl hdX8_kindHere ⟨Nat.le_of_ble_eq_true rfl, Nat.le_of_ble_eq_true rfl⟩) (q0 := 0) (ci := 8) (fs := fcM bM vM_5) (q := (RX8, TX8, 23)) rfl rfl rfl (As := []) (rest := []) rfl rfl hl.1 (Nat.le_of_ble_eq_true rfl) dX8_readsGate_32 (k1 := 0) (n1 := 0) rfl rfl ⟨Nat.le_refl _, Nat.le_refl _⟩ (fun H locs hP hD hS => ?_)
      refine lv_istore_n (lv' := [(2, .int r7), (0, .ref (bM 0)), (1, .int x1)]) hx hb dX8_readsGate_35 rfl hl (by decide) rfl (fun ls hl => ?_)
      refine lv_iload_n hx hb dX8_readsGate_36 rfl (lv_at hl 0 rfl) ?_
      refine lv_iconst (v := (-1 : Int32)) hx hb dX8_readsGate_37 (by decide) ?_
      refine lv_icmp_ne (tgt := 52) hx hb dX8_readsGate_38 (by decide) (fun c10 => ?_) (fun c10 => ?_)
      · have hf := it_f hf c10
        refine lv_aload_n hx hb dX8_readsGate_52 rfl (lv_at hl 1 rfl) ?_
        refine va_get (D := g.1) (ci := 8) (fs := fcM bM vM_8) (v := .ref (bM 3)) (C := RX8) (T := TX8) (N := 23) hx hb htu hinX8 hown hK hP 0 rfl rfl 2 (by decide) k_5_74 (fun _ h9 => h9) rfl dX8_readsGate_53 ?_
        refine lv_iconst (v := (1 : Int32)) hx hb dX8_readsGate_56 (by decide) ?_
        obtain ⟨h11, hf⟩ := gd_in hf
        refine va_iald (D := g.1) (f := (vM_8.2.1 2)) hx hb hK hP 2 0 rfl rfl h11 dX8_readsGate_57 ?_
        refine lv_istore_n (lv' := [(3, .int (vM_8.2.1 2 ((1 : Int32)).toNatClampNeg)), (2, .int r7), (0, .ref (bM 0)), (1, .int x1)]) hx hb dX8_readsGate_58 rfl hl (by decide) rfl (fun ls hl => ?_)
        refine lv_iconst (v := (0 : Int32)) hx hb dX8_readsGate_59 (by decide) ?_
        refine lv_istore (lv' := [(4, .int (0 : Int32)), (3, .int (vM_8.2.1 2 ((1 : Int32)).toNatClampNeg)), (2, .int r7), (0, .ref (bM 0)), (1, .int x1)]) hx hb dX8_readsGate_60 hl (by decide) rfl (fun ls hl => ?_)
        have hL15 : ∀ (x4_12 : Int32) (vM_13 : Vs), lp (f_X8_readsGate_L62 r7 vM_8) (fun _ _ => none) FU x4_12 vM_13 = some (r, vM1) → ∀ (H : Heap) (locs : List Loc), va_P g.1 vwCl (cM g bM vM_13) H → va_D A (cM g bM vM_13) → va_S A s.heap H locs → ∀ ls : Array Slot, lv_has ls 5 [(0, .ref (bM 0)), (2, .int r7), (3, .int (vM_8.2.1 2 ((1 : Int32)).toNatClampNeg)), (4, .int x4_12)] → W p l e (headSpec wsX8_readsGate rmX8_readsGate).room s m ([.ref (bM 0), .int x1] : List Value).toArray below meth c H locs 0 0 (MQ below (qI g A (cM g bM vM1) r) ([.ref (bM 0), .int x1] : List Value).toArray s 0 0 A) (F0 m 62 ls []) := by
          refine lp_ind (T := Int32 → Vs → Option (Int32 × Vs)) (fun self14 => ∀ (x4_12 : Int32) (vM_13 : Vs), self14 x4_12 vM_13 = some (r, vM1) → ∀ (H : Heap) (locs : List Loc), va_P g.1 vwCl (cM g bM vM_13) H → va_D A (cM g bM vM_13) → va_S A s.heap H locs → ∀ ls : Array Slot, lv_has ls 5 [(0, .ref (bM 0)), (2, .int r7), (3, .int (vM_8.2.1 2 ((1 : Int32)).toNatClampNeg)), (4, .int x4_12)] → W p l e (headSpec wsX8_readsGate rmX8_readsGate).room s m ([.ref (bM 0), .int x1] : List Value).toArray below meth c H locs 0 0 (MQ below (qI g A (cM g bM vM1) r) ([.ref (bM 0), .int x1] : List Value).toArray s 0 0 A) (F0 m 62 ls [])) ?_ ?_ FU
          · intro x4_12 vM_13 hf; cases hf
          · intro self14 ih16 x4_12 vM_13 hf H locs hP hD hS ls hl
            unfold f_X8_readsGate_L62 at hf
            refine lv_iload hx hb dX8_readsGate_62 (lv_at hl 3 rfl) ?_
            refine lv_iload_n hx hb dX8_readsGate_64 rfl (lv_at hl 1 rfl) ?_
            obtain ⟨r17, hg18, hf⟩ := o1_at hf
            refine k_si0 ⟨hx, hb, hml, hown, htu⟩ hK hP hD hS hA hG (c_X8_fewest l g r7 r17 hg18) (va_cwS 1 htu (gU_S mw_5_226 hcX8_fewest) rfl rfl rfl hdX8_fewest ⟨Nat.le_of_ble_eq_true rfl, Nat.le_of_ble_eq_true rfl⟩) (As := [.int r7]) (rest := [.int x4_12]) rfl rfl hl.1 (Nat.le_of_ble_eq_true rfl) dX8_readsGate_65 (k1 := 0) (n1 := 0) rfl rfl ⟨Nat.le_refl _, Nat.le_refl _⟩ (fun H locs hP hD hS => ?_)
            obtain ⟨k20, hk31, hf⟩ := jn_at hf
            have hJ21 : ∀ (vM_19 : Vs), k20 vM_19 = some (r, vM1) → ∀ (H : Heap) (locs : List Loc), va_P g.1 vwCl (cM g bM vM_19) H → va_D A (cM g bM vM_19) → va_S A s.heap H locs → ∀ ls : Array Slot, lv_has ls 5 [(0, .ref (bM 0)), (2, .int r7), (3, .int (vM_8.2.1 2 ((1 : Int32)).toNatClampNeg)), (4, .int x4_12)] → W p l e (headSpec wsX8_readsGate rmX8_readsGate).room s m ([.ref (bM 0), .int x1] : List Value).toArray below meth c H locs 0 0 (MQ below (qI g A (cM g bM vM1) r) ([.ref (bM 0), .int x1] : List Value).toArray s 0 0 A) (F0 m 90 ls []) := by
              intro vM_19 hf H locs hP hD hS ls hl
              rw [hk31] at hf
              dsimp only at hf
              clear hk31
              refine lv_aload_n hx hb dX8_readsGate_90 rfl (lv_at hl 0 rfl) ?_
              obtain ⟨r22, vM_23, hg24, hf⟩ := o2_at hf
              refine k_viW ⟨hx, hb, hml, hown, htu⟩ hK hP hD hS hA hG (c_X8_readsWire l g bM vM_19 r22 vM_23 hg24) (cwV 0 htu (gU_V mw_5_232 hcX8_readsWire) rfl rfl rfl hdX8_readsWire ⟨Nat.le_of_ble_eq_true rfl, Nat.le_of_ble_eq_true rfl⟩) (q0 := 0) (ci := 8) (fs := fcM bM vM_19) (q := (RX8, TX8, 23)) rfl rfl rfl (As := []) (rest := []) rfl rfl hl.1 (Nat.le_of_ble_eq_true rfl) dX8_readsGate_91 (k1 := 0) (n1 := 0) rfl rfl ⟨Nat.le_refl _, Nat.le_refl _⟩ (fun H locs hP hD hS => ?_)
              refine lv_if_ne (tgt := 99) hx hb dX8_readsGate_94 (by decide) (fun c25 => ?_) (fun c25 => ?_)
              · have hf := it_f hf c25
                refine lv_aload_n hx hb dX8_readsGate_99 rfl (lv_at hl 0 rfl) ?_
                refine va_get (D := g.1) (ci := 8) (fs := fcM bM vM_23) (v := .ref (bM 3)) (C := RX8) (T := TX8) (N := 23) hx hb htu hinX8 hown hK hP 0 rfl rfl 2 (by decide) k_5_74 (fun _ h9 => h9) rfl dX8_readsGate_100 ?_
                refine lv_bipush (v := (56 : Int32)) hx hb dX8_readsGate_103 (by decide) ?_
                refine lv_iconst (v := (4 : Int32)) hx hb dX8_readsGate_105 (by decide) ?_
                refine lv_iload_n hx hb dX8_readsGate_106 rfl (lv_at hl 2 rfl) ?_
                refine lv_imul hx hb dX8_readsGate_107 ?_
                refine lv_iadd hx hb dX8_readsGate_108 ?_
                refine lv_iload hx hb dX8_readsGate_109 (lv_at hl 3 rfl) ?_
                refine lv_iadd hx hb dX8_readsGate_111 ?_
                refine lv_aload_n hx hb dX8_readsGate_112 rfl (lv_at hl 0 rfl) ?_
                refine va_get (D := g.1) (ci := 8) (fs := fcM bM vM_23) (v := .int (vM_23.1 17)) (C := RX8) (T := TX8) (N := 23) hx hb htu hinX8 hown hK hP 0 rfl rfl 17 (by decide) k_5_89 (fun _ h9 => h9) rfl dX8_readsGate_113 ?_
                obtain ⟨h26, hf⟩ := gd_in hf
                refine va_iast (D := g.1) (f := (vM_23.2.1 2)) hx hb hK hP hD hS 2 0 rfl rfl h26 dX8_readsGate_116 (fun H locs hP hD hS => ?_)
                obtain ⟨vM_27, evM_27⟩ : ∃ z, z = sI vM_23 2 ((((56 : Int32) + ((4 : Int32) * (vM_8.2.1 2 ((1 : Int32)).toNatClampNeg))) + x4_12)).toNatClampNeg (vM_23.1 17) := ⟨_, rfl⟩
                have hf := bn_at hf evM_27
                have hP : va_P g.1 vwCl (cM g bM vM_27) H := by rw [evM_27]; exact hP
                have hD : va_D A (cM g bM vM_27) := by rw [evM_27]; exact hD
                refine lv_iinc (v := (x4_12 + (1 : Int32))) (lv' := [(4, .int (x4_12 + (1 : Int32))), (0, .ref (bM 0)), (2, .int r7), (3, .int (vM_8.2.1 2 ((1 : Int32)).toNatClampNeg))]) hx hb dX8_readsGate_117 hl (k := 3) rfl rfl (by decide) rfl (fun ls hl => ?_)
                refine lv_goto (tgt := 62) hx hb dX8_readsGate_120 (by decide) ?_
                exact ih16 (x4_12 + (1 : Int32)) vM_27 hf H locs hP hD hS _ (lv_sub hl [1, 2, 3, 0] rfl)
              · have hf := it_t hf c25
                refine lv_iconst (v := (0 : Int32)) hx hb dX8_readsGate_97 (by decide) ?_
                obtain ⟨h28, hf⟩ := gd_isB hf
                obtain ⟨e29, e30⟩ := kp_2 hf
                rw [e30] at hP hD
                exact k_zret hx hb hr hlocks hK hP hD hS e29 h28 dX8_readsGate_98
            refine lv_icmp_lt (tgt := 90) hx hb dX8_readsGate_68 (by decide) (fun c32 => ?_) (fun c32 => ?_)
            · have hf := it_t hf c32
              exact hJ21 vM_13 hf H locs hP hD hS _ (lv_sub hl [0, 1, 2, 3] rfl)
            · have hf := it_f hf c32
              refine lv_iload hx hb dX8_readsGate_71 (lv_at hl 3 rfl) ?_
              refine lv_iload_n hx hb dX8_readsGate_73 rfl (lv_at hl 1 rfl) ?_
              obtain ⟨r33, hg34, hf⟩ := o1_at hf
              refine k_si0 ⟨hx, hb, hml, hown, htu⟩ hK hP hD hS hA hG (c_X8_mostOf l g r7 r33 hg34) (va_cwS 1 htu (gU_S mw_5_229 hcX8_mostOf) rfl rfl rfl hdX8_mostOf ⟨Nat.le_of_ble_eq_true rfl, Nat.le_of_ble_eq_true rfl⟩) (As := [.int r7]) (rest := [.int x4_12]) rfl rfl hl.1 (Nat.le_of_ble_eq_true rfl) dX8_readsGate_74 (k1 := 0) (n1 := 0) rfl rfl ⟨Nat.le_refl _, Nat.le_refl _⟩ (fun H locs hP hD hS => ?_)
              obtain ⟨k36, hk48, hf⟩ := jn_at hf
              have hJ37 : ∀ (vM_35 : Vs), k36 vM_35 = some (r, vM1) → ∀ (H : Heap) (locs : List Loc), va_P g.1 vwCl (cM g bM vM_35) H → va_D A (cM g bM vM_35) → va_S A s.heap H locs → ∀ ls : Array Slot, lv_has ls 5 [(0, .ref (bM 0)), (2, .int r7), (3, .int (vM_8.2.1 2 ((1 : Int32)).toNatClampNeg)), (4, .int x4_12)] → W p l e (headSpec wsX8_readsGate rmX8_readsGate).room s m ([.ref (bM 0), .int x1] : List Value).toArray below meth c H locs 0 0 (MQ below (qI g A (cM g bM vM1) r) ([.ref (bM 0), .int x1] : List Value).toArray s 0 0 A) (F0 m 123 ls []) := by
                intro vM_35 hf H locs hP hD hS ls hl
                rw [hk48] at hf
                dsimp only at hf
                clear hk48
                refine lv_aload_n hx hb dX8_readsGate_123 rfl (lv_at hl 0 rfl) ?_
                refine va_get (D := g.1) (ci := 8) (fs := fcM bM vM_35) (v := .ref (bM 3)) (C := RX8) (T := TX8) (N := 23) hx hb htu hinX8 hown hK hP 0 rfl rfl 2 (by decide) k_5_74 (fun _ h9 => h9) rfl dX8_readsGate_124 ?_
                refine lv_bipush (v := (8 : Int32)) hx hb dX8_readsGate_127 (by decide) ?_
                refine lv_iload_n hx hb dX8_readsGate_129 rfl (lv_at hl 2 rfl) ?_
                refine lv_iadd hx hb dX8_readsGate_130 ?_
                refine lv_iload_n hx hb dX8_readsGate_131 rfl (lv_at hl 1 rfl) ?_
                obtain ⟨h38, hf⟩ := gd_in hf
                refine va_iast (D := g.1) (f := (vM_35.2.1 2)) hx hb hK hP hD hS 2 0 rfl rfl h38 dX8_readsGate_132 (fun H locs hP hD hS => ?_)
                obtain ⟨vM_39, evM_39⟩ : ∃ z, z = sI vM_35 2 (((8 : Int32) + (vM_8.2.1 2 ((1 : Int32)).toNatClampNeg))).toNatClampNeg r7 := ⟨_, rfl⟩
                have hf := bn_at hf evM_39
                have hP : va_P g.1 vwCl (cM g bM vM_39) H := by rw [evM_39]; exact hP
                have hD : va_D A (cM g bM vM_39) := by rw [evM_39]; exact hD
                refine lv_aload_n hx hb dX8_readsGate_133 rfl (lv_at hl 0 rfl) ?_
                refine va_get (D := g.1) (ci := 8) (fs := fcM bM vM_39) (v := .ref (bM 3)) (C := RX8) (T := TX8) (N := 23) hx hb htu hinX8 hown hK hP 0 rfl rfl 2 (by decide) k_5_74 (fun _ h9 => h9) rfl dX8_readsGate_134 ?_
                refine lv_bipush (v := (32 : Int32)) hx hb dX8_readsGate_137 (by decide) ?_
                refine lv_iload_n hx hb dX8_readsGate_139 rfl (lv_at hl 2 rfl) ?_
                refine lv_iadd hx hb dX8_readsGate_140 ?_
                refine lv_iload hx hb dX8_readsGate_141 (lv_at hl 3 rfl) ?_
                obtain ⟨h40, hf⟩ := gd_in hf
                refine va_iast (D := g.1) (f := (vM_39.2.1 2)) hx hb hK hP hD hS 2 0 rfl rfl h40 dX8_readsGate_143 (fun H locs hP hD hS => ?_)
                obtain ⟨vM_41, evM_41⟩ : ∃ z, z = sI vM_39 2 (((32 : Int32) + (vM_8.2.1 2 ((1 : Int32)).toNatClampNeg))).toNatClampNeg x4_12 := ⟨_, rfl⟩
                have hf := bn_at hf evM_41
                have hP : va_P g.1 vwCl (cM g bM vM_41) H := by rw [evM_41]; exact hP
                have hD : va_D A (cM g bM vM_41) := by rw [evM_41]; exact hD
                refine lv_aload_n hx hb dX8_readsGate_144 rfl (lv_at hl 0 rfl) ?_
                refine va_get (D := g.1) (ci := 8) (fs := fcM bM vM_41) (v := .ref (bM 3)) (C := RX8) (T := TX8) (N := 23) hx hb htu hinX8 hown hK hP 0 rfl rfl 2 (by decide) k_5_74 (fun _ h9 => h9) rfl dX8_readsGate_145 ?_
                refine lv_iconst (v := (1 : Int32)) hx hb dX8_readsGate_148 (by decide) ?_
                refine lv_dup2_11 hx hb dX8_readsGate_149 rfl rfl ?_
                obtain ⟨h42, hf⟩ := gd_in hf
                refine va_iald (D := g.1) (f := (vM_41.2.1 2)) hx hb hK hP 2 0 rfl rfl h42 dX8_readsGate_150 ?_
                refine lv_iconst (v := (1 : Int32)) hx hb dX8_readsGate_151 (by decide) ?_
                refine lv_iadd hx hb dX8_readsGate_152 ?_
                obtain ⟨h43, hf⟩ := gd_in hf
                refine va_iast (D := g.1) (f := (vM_41.2.1 2)) hx hb hK hP hD hS 2 0 rfl rfl h43 dX8_readsGate_153 (fun H locs hP hD hS => ?_)
                obtain ⟨vM_44, evM_44⟩ : ∃ z, z = sI vM_41 2 ((1 : Int32)).toNatClampNeg ((vM_41.2.1 2 ((1 : Int32)).toNatClampNeg) + (1 : Int32)) := ⟨_, rfl⟩
                have hf := bn_at hf evM_44
                have hP : va_P g.1 vwCl (cM g bM vM_44) H := by rw [evM_44]; exact hP
                have hD : va_D A (cM g bM vM_44) := by rw [evM_44]; exact hD
                refine lv_iconst (v := (1 : Int32)) hx hb dX8_readsGate_154 (by decide) ?_
                obtain ⟨h45, hf⟩ := gd_isB hf
                obtain ⟨e46, e47⟩ := kp_2 hf
                rw [e47] at hP hD
                exact k_zret hx hb hr hlocks hK hP hD hS e46 h45 dX8_readsGate_155
              refine lv_icmp_ge (tgt := 123) hx hb dX8_readsGate_77 (by decide) (fun c49 => ?_) (fun c49 => ?_)
              · have hf := it_t hf c49
                exact hJ37 vM_13 hf H locs hP hD hS _ (lv_sub hl [0, 1, 2, 3] rfl)
              · have hf := it_f hf c49
                refine lv_aload_n hx hb dX8_readsGate_80 rfl (lv_at hl 0 rfl) ?_
                obtain ⟨r50, vM_51, hg52, hf⟩ := o2_at hf
                refine k_viW ⟨hx, hb, hml, hown, htu⟩ hK hP hD hS hA hG (c_X8_here l g bM vM_13 r50 vM_51 hg52) (cwV 0 htu (gU_V mw_5_179 hcX8_here) rfl rfl rfl hdX8_here ⟨Nat.le_of_ble_eq_true rfl, Nat.le_of_ble_eq_true rfl⟩) (q0 := 0) (ci := 8) (fs := fcM bM vM_13) (q := (RX8, TX8, 23)) rfl rfl rfl (As := []) (rest := []) rfl rfl hl.1 (Nat.le_of_ble_eq_true rfl) dX8_readsGate_81 (k1 := 0) (n1 := 0) rfl rfl ⟨Nat.le_refl _, Nat.le_refl _⟩ (fun H locs hP hD hS => ?_)
                obtain ⟨r53, hg54, hf⟩ := o1_at hf
                refine k_si0 ⟨hx, hb, hml, hown, htu⟩ hK hP hD hS hA hG (c_X8_isDigit l g r50 r53 hg54) (va_cwS 1 htu (gU_S mw_5_196 hcX8_isDigit) rfl rfl rfl hdX8_isDigit ⟨Nat.le_of_ble_eq_true rfl, Nat.le_of_ble_eq_true rfl⟩) (As := [.int r50]) (rest := []) rfl rfl hl.1 (Nat.le_of_ble_eq_true rfl) dX8_readsGate_84 (k1 := 0) (n1 := 0) rfl rfl ⟨Nat.le_refl _, Nat.le_refl _⟩ (fun H locs hP hD hS => ?_)
                refine lv_if_eq (tgt := 123) hx hb dX8_readsGate_87 (by decide) (fun c55 => ?_) (fun c55 => ?_)
                · have hf := it_t hf c55
                  exact hJ37 vM_51 hf H locs hP hD hS _ (lv_sub hl [0, 1, 2, 3] rfl)
                · have hf := it_f hf c55
                  exact hJ21 vM_51 hf H locs hP hD hS _ (lv_sub hl [0, 1, 2, 3] rfl)
        exact hL15 (0 : Int32) vM_8 hf H locs hP hD hS _ (lv_sub hl [3, 2, 1, 0] rfl)
      · have hf := it_t hf c10
        refine lv_aload_n hx hb dX8_readsGate_41 rfl (lv_at hl 1 rfl) ?_
        refine lv_bipush (v := (-2 : Int32)) hx hb dX8_readsGate_42 (by decide) ?_
        refine lv_aload_n hx hb dX8_readsGate_44 rfl (lv_at hl 1 rfl) ?_
        refine va_get (D := g.1) (ci := 8) (fs := fcM bM vM_8) (v := .int (vM_8.1 14)) (C := RX8) (T := TX8) (N := 23) hx hb htu hinX8 hown hK hP 0 rfl rfl 14 (by decide) k_5_86 (fun _ h9 => h9) rfl dX8_readsGate_45 ?_
        obtain ⟨r56, vM_57, hg58, hf⟩ := o2_at hf
        refine k_viW ⟨hx, hb, hml, hown, htu⟩ hK hP hD hS hA hG (c_X8_fails l g bM vM_8 (-2 : Int32) (vM_8.1 14) r56 vM_57 hg58) (cwV 2 htu (gU_V mw_5_188 hcX8_fails) rfl rfl rfl hdX8_fails ⟨Nat.le_of_ble_eq_true rfl, Nat.le_of_ble_eq_true rfl⟩) (q0 := 0) (ci := 8) (fs := fcM bM vM_8) (q := (RX8, TX8, 23)) rfl rfl rfl (As := [.int (-2 : Int32), .int (vM_8.1 14)]) (rest := []) rfl rfl hl.1 (Nat.le_of_ble_eq_true rfl) dX8_readsGate_48 (k1 := 0) (n1 := 0) rfl rfl ⟨Nat.le_refl _, Nat.le_refl _⟩ (fun H locs hP hD hS => ?_)
        obtain ⟨h59, hf⟩ := gd_isB hf
        obtain ⟨e60, e61⟩ := kp_2 hf
        rw [e61] at hP hD
        exact k_zret hx hb hr hlocks hK hP hD hS e60 h59 dX8_readsGate_51
    · have hf := it_t hf c3
      refine lv_aload_n hx hb dX8_readsGate_18 rfl (lv_at hl 0 rfl) ?_
      refine lv_bipush (v := (-6 : Int32)) hx hb dX8_readsGate_19 (by decide) ?_
      refine lv_iload_n hx hb dX8_readsGate_21 rfl (lv_at hl 1 rfl) ?_
      obtain ⟨r62, vM_63, hg64, hf⟩ := o2_at hf
      refine k_viW ⟨hx, hb, hml, hown, htu⟩ hK hP hD hS hA hG (c_X8_fails l g bM vM (-6 : Int32) x1 r62 vM_63 hg64) (cwV 2 htu (gU_V mw_5_188 hcX8_fails) rfl rfl rfl hdX8_fails ⟨Nat.le_of_ble_eq_true rfl, Nat.le_of_ble_eq_true rfl⟩) (q0 := 0) (ci := 8) (fs := fcM bM vM) (q := (RX8, TX8, 23)) rfl rfl rfl (As := [.int (-6 : Int32), .int x1]) (rest := []) rfl rfl hl.1 (Nat.le_of_ble_eq_true rfl) dX8_readsGate_22 (k1 := 0) (n1 := 0) rfl rfl ⟨Nat.le_refl _, Nat.le_refl _⟩ (fun H locs hP hD hS => ?_)
      obtain ⟨h65, hf⟩ := gd_isB hf
      obtain ⟨e66, e67⟩ := kp_2 hf
      rw [e67] at hP hD
      exact k_zret hx hb hr hlocks hK hP hD hS e66 h65 dX8_readsGate_25
  rw [hH, hlo] at hW
  exact hW
def f_X8_readsOutputs_L17 (self3 : Int32 → Vs → Option (Int32 × Vs)) (vM_11 : Vs) (self15 : Int32 → Option (Int32 × Vs)) (x2_14 : Int32) : Option (Int32 × Vs) :=
  gd (inb (2 : Int32) 440) (if (vM_11.2.1 2 ((2 : Int32)).toNatClampNeg) ≤ x2_14 then gd (inb (2 : Int32) 440) (if (vM_11.2.1 2 ((2 : Int32)).toNatClampNeg) = (6 : Int32) then o2 (f_X8_fails vM_11 (-6 : Int32) (vM_11.1 18)) (fun (r33 : Int32) (vM_34 : Vs) => gd (isB r33) (some (r33, vM_34))) else gd (inb (2 : Int32) 440) (gd (inb ((152 : Int32) + (vM_11.2.1 2 ((2 : Int32)).toNatClampNeg)) 440) (bn (sI vM_11 2 (((152 : Int32) + (vM_11.2.1 2 ((2 : Int32)).toNatClampNeg))).toNatClampNeg (vM_11.1 17)) (fun (vM_24 : Vs) => gd (inb (2 : Int32) 440) (gd (inb (2 : Int32) 440) (bn (sI vM_24 2 ((2 : Int32)).toNatClampNeg ((vM_24.2.1 2 ((2 : Int32)).toNatClampNeg) + (1 : Int32))) (fun (vM_27 : Vs) => o2 (f_X8_here vM_27) (fun (r28 : Int32) (vM_29 : Vs) => o1 (f_X8_isDigit r28) (fun (r31 : Int32) => self3 r31 vM_29))))))))) else gd (inb ((152 : Int32) + x2_14) 440) (if (vM_11.2.1 2 (((152 : Int32) + x2_14)).toNatClampNeg) = (vM_11.1 17) then o2 (f_X8_fails vM_11 (-4 : Int32) (vM_11.1 18)) (fun (r41 : Int32) (vM_42 : Vs) => gd (isB r41) (some (r41, vM_42))) else self15 (x2_14 + (1 : Int32))))
def f_X8_readsOutputs_L2 (self3 : Int32 → Vs → Option (Int32 × Vs)) (x1_1 : Int32) (vM_2 : Vs) : Option (Int32 × Vs) :=
  if x1_1 = 0 then gd (isB (1 : Int32)) (some ((1 : Int32), vM_2)) else o2 (f_X8_readsWire vM_2) (fun (r10 : Int32) (vM_11 : Vs) => if r10 = 0 then gd (isB (0 : Int32)) (some ((0 : Int32), vM_11)) else lp (f_X8_readsOutputs_L17 self3 vM_11) (fun _ => none) FU (0 : Int32))
def f_X8_readsOutputs (vM : Vs) : Option (Int32 × Vs) :=
  lp f_X8_readsOutputs_L2 (fun _ _ => none) FU (1 : Int32) vM
abbrev wsX8_readsOutputs : List Cond := .code yX8_readsOutputs cX8_readsOutputs 3 (some .boolean) :: UW
abbrev rmX8_readsOutputs : Room := { frames := 3, cells := 0, slots := 0, locals := 64 }
set_option maxHeartbeats 4000000 in
set_option maxRecDepth 100000 in
theorem c_X8_readsOutputs (l : Launch) (g : Gx) (bM : Nat → Nat) (vM : Vs) (r : Int32) (vM1 : Vs) (hf : f_X8_readsOutputs vM = some (r, vM1)) : CtI l yX8_readsOutputs wsX8_readsOutputs rmX8_readsOutputs g [.ref (bM 0)] (cM g bM vM) (cM g bM vM1) r 0 0 := by
  unfold CtI
  intro sz
  refine Met.ofW (cc := cX8_readsOutputs) (maxL := 3) (ret := (some .boolean)) (by decide) rfl ?_
  intro p e s m args below meth c s₁ B hml hv
  obtain ⟨rfl, hsz, hP, hK, hD0, hG⟩ := hv
  have hx := B.exec
  have hb := B.bytes
  have hr := B.returns
  have hts := atoms_spec (ws := wsX8_readsOutputs) B.pre
  have hown : s.vm.findClass RX8 = some m.cls := findClass_of_methodNamed B.named
  have hlocks := B.notSynchronized
  subst hsz
  have hD := hD0.self (sz := s.heap.size)
  generalize hAe : va_A (cM g bM vM) s.heap.size = A at hD hG ⊢
  have hA : ∀ q : Nat, s.heap.size ≤ q → A q := fun q h => by rw [← hAe]; exact Or.inr h
  clear hAe hD0
  have hS : va_S A s.heap s.heap [] := va_S.rf
  have hl := lv_entry ([.ref (bM 0)]) (n := 3) (Nat.le_of_ble_eq_true rfl)
  rw [lg_entry_eq]
  generalize (lg_sl ([.ref (bM 0)]) ++ List.replicate (3 - (lg_sl ([.ref (bM 0)])).length) Slot.unset).toArray = ls at hl ⊢
  have hl : lv_has ls 3 [(0, .ref (bM 0))] := hl
  have htu : ∀ w ∈ UW, w.before _ s = true := fun w h => hts w (List.mem_cons_of_mem _ h)
  have k_5_74 := htu _ mw_5_74
  have k_5_89 := htu _ mw_5_89
  have k_5_90 := htu _ mw_5_90
  unfold f_X8_readsOutputs at hf
  obtain ⟨H, hH⟩ : ∃ z, z = s.heap := ⟨_, rfl⟩
  obtain ⟨locs, hlo⟩ : ∃ z : List Loc, z = [] := ⟨_, rfl⟩
  have hS : va_S A s.heap H locs := by rw [hH, hlo]; exact hS
  rw [← hH] at hP
  have hW : W p l e (headSpec wsX8_readsOutputs rmX8_readsOutputs).room s m ([.ref (bM 0)] : List Value).toArray below meth c H locs 0 0 (MQ below (qI g A (cM g bM vM1) r) ([.ref (bM 0)] : List Value).toArray s 0 0 A) (F0 m 0 ls []) := by
    refine lv_iconst (v := (1 : Int32)) hx hb dX8_readsOutputs_0 (by decide) ?_
    refine lv_istore_n (lv' := [(1, .int (1 : Int32)), (0, .ref (bM 0))]) hx hb dX8_readsOutputs_1 rfl hl (by decide) rfl (fun ls hl => ?_)
    have hL4 : ∀ (x1_1 : Int32) (vM_2 : Vs), lp f_X8_readsOutputs_L2 (fun _ _ => none) FU x1_1 vM_2 = some (r, vM1) → ∀ (H : Heap) (locs : List Loc), va_P g.1 vwCl (cM g bM vM_2) H → va_D A (cM g bM vM_2) → va_S A s.heap H locs → ∀ ls : Array Slot, lv_has ls 3 [(0, .ref (bM 0)), (1, .int x1_1)] → W p l e (headSpec wsX8_readsOutputs rmX8_readsOutputs).room s m ([.ref (bM 0)] : List Value).toArray below meth c H locs 0 0 (MQ below (qI g A (cM g bM vM1) r) ([.ref (bM 0)] : List Value).toArray s 0 0 A) (F0 m 2 ls []) := by
      refine lp_ind (T := Int32 → Vs → Option (Int32 × Vs)) (fun self3 => ∀ (x1_1 : Int32) (vM_2 : Vs), self3 x1_1 vM_2 = some (r, vM1) → ∀ (H : Heap) (locs : List Loc), va_P g.1 vwCl (cM g bM vM_2) H → va_D A (cM g bM vM_2) → va_S A s.heap H locs → ∀ ls : Array Slot, lv_has ls 3 [(0, .ref (bM 0)), (1, .int x1_1)] → W p l e (headSpec wsX8_readsOutputs rmX8_readsOutputs).room s m ([.ref (bM 0)] : List Value).toArray below meth c H locs 0 0 (MQ below (qI g A (cM g bM vM1) r) ([.ref (bM 0)] : List Value).toArray s 0 0 A) (F0 m 2 ls [])) ?_ ?_ FU
      · intro x1_1 vM_2 hf; cases hf
      · intro self3 ih5 x1_1 vM_2 hf H locs hP hD hS ls hl
        unfold f_X8_readsOutputs_L2 at hf
        refine lv_iload_n hx hb dX8_readsOutputs_2 rfl (lv_at hl 1 rfl) ?_
        refine lv_if_eq (tgt := 123) hx hb dX8_readsOutputs_3 (by decide) (fun c6 => ?_) (fun c6 => ?_)
        · have hf := it_t hf c6
          refine lv_iconst (v := (1 : Int32)) hx hb dX8_readsOutputs_123 (by decide) ?_
          obtain ⟨h7, hf⟩ := gd_isB hf
          obtain ⟨e8, e9⟩ := kp_2 hf
          rw [e9] at hP hD
          exact k_zret hx hb hr hlocks hK hP hD hS e8 h7 dX8_readsOutputs_124
        · have hf := it_f hf c6
          refine lv_aload_n hx hb dX8_readsOutputs_6 rfl (lv_at hl 0 rfl) ?_
          obtain ⟨r10, vM_11, hg12, hf⟩ := o2_at hf
          refine k_viW ⟨hx, hb, hml, hown, htu⟩ hK hP hD hS hA hG (c_X8_readsWire l g bM vM_2 r10 vM_11 hg12) (cwV 0 htu (gU_V mw_5_232 hcX8_readsWire) rfl rfl rfl hdX8_readsWire ⟨Nat.le_of_ble_eq_true rfl, Nat.le_of_ble_eq_true rfl⟩) (q0 := 0) (ci := 8) (fs := fcM bM vM_2) (q := (RX8, TX8, 23)) rfl rfl rfl (As := []) (rest := []) rfl rfl hl.1 (Nat.le_of_ble_eq_true rfl) dX8_readsOutputs_7 (k1 := 0) (n1 := 0) rfl rfl ⟨Nat.le_refl _, Nat.le_refl _⟩ (fun H locs hP hD hS => ?_)
          refine lv_if_ne (tgt := 15) hx hb dX8_readsOutputs_10 (by decide) (fun c13 => ?_) (fun c13 => ?_)
          · have hf := it_f hf c13
            refine lv_iconst (v := (0 : Int32)) hx hb dX8_readsOutputs_15 (by decide) ?_
            refine lv_istore_n (lv' := [(2, .int (0 : Int32)), (0, .ref (bM 0)), (1, .int x1_1)]) hx hb dX8_readsOutputs_16 rfl hl (by decide) rfl (fun ls hl => ?_)
            have hL16 : ∀ (x2_14 : Int32), lp (f_X8_readsOutputs_L17 self3 vM_11) (fun _ => none) FU x2_14 = some (r, vM1) → ∀ (H : Heap) (locs : List Loc), va_P g.1 vwCl (cM g bM vM_11) H → va_D A (cM g bM vM_11) → va_S A s.heap H locs → ∀ ls : Array Slot, lv_has ls 3 [(0, .ref (bM 0)), (2, .int x2_14)] → W p l e (headSpec wsX8_readsOutputs rmX8_readsOutputs).room s m ([.ref (bM 0)] : List Value).toArray below meth c H locs 0 0 (MQ below (qI g A (cM g bM vM1) r) ([.ref (bM 0)] : List Value).toArray s 0 0 A) (F0 m 17 ls []) := by
              refine lp_ind (T := Int32 → Option (Int32 × Vs)) (fun self15 => ∀ (x2_14 : Int32), self15 x2_14 = some (r, vM1) → ∀ (H : Heap) (locs : List Loc), va_P g.1 vwCl (cM g bM vM_11) H → va_D A (cM g bM vM_11) → va_S A s.heap H locs → ∀ ls : Array Slot, lv_has ls 3 [(0, .ref (bM 0)), (2, .int x2_14)] → W p l e (headSpec wsX8_readsOutputs rmX8_readsOutputs).room s m ([.ref (bM 0)] : List Value).toArray below meth c H locs 0 0 (MQ below (qI g A (cM g bM vM1) r) ([.ref (bM 0)] : List Value).toArray s 0 0 A) (F0 m 17 ls [])) ?_ ?_ FU
              · intro x2_14 hf; cases hf
              · intro self15 ih17 x2_14 hf H locs hP hD hS ls hl
                unfold f_X8_readsOutputs_L17 at hf
                refine lv_iload_n hx hb dX8_readsOutputs_17 rfl (lv_at hl 1 rfl) ?_
                refine lv_aload_n hx hb dX8_readsOutputs_18 rfl (lv_at hl 0 rfl) ?_
                refine va_get (D := g.1) (ci := 8) (fs := fcM bM vM_11) (v := .ref (bM 3)) (C := RX8) (T := TX8) (N := 23) hx hb htu hinX8 hown hK hP 0 rfl rfl 2 (by decide) k_5_74 (fun _ h9 => h9) rfl dX8_readsOutputs_19 ?_
                refine lv_iconst (v := (2 : Int32)) hx hb dX8_readsOutputs_22 (by decide) ?_
                obtain ⟨h18, hf⟩ := gd_in hf
                refine va_iald (D := g.1) (f := (vM_11.2.1 2)) hx hb hK hP 2 0 rfl rfl h18 dX8_readsOutputs_23 ?_
                refine lv_icmp_ge (tgt := 61) hx hb dX8_readsOutputs_24 (by decide) (fun c19 => ?_) (fun c19 => ?_)
                · have hf := it_t hf c19
                  refine lv_aload_n hx hb dX8_readsOutputs_61 rfl (lv_at hl 0 rfl) ?_
                  refine va_get (D := g.1) (ci := 8) (fs := fcM bM vM_11) (v := .ref (bM 3)) (C := RX8) (T := TX8) (N := 23) hx hb htu hinX8 hown hK hP 0 rfl rfl 2 (by decide) k_5_74 (fun _ h9 => h9) rfl dX8_readsOutputs_62 ?_
                  refine lv_iconst (v := (2 : Int32)) hx hb dX8_readsOutputs_65 (by decide) ?_
                  obtain ⟨h20, hf⟩ := gd_in hf
                  refine va_iald (D := g.1) (f := (vM_11.2.1 2)) hx hb hK hP 2 0 rfl rfl h20 dX8_readsOutputs_66 ?_
                  refine lv_bipush (v := (6 : Int32)) hx hb dX8_readsOutputs_67 (by decide) ?_
                  refine lv_icmp_ne (tgt := 83) hx hb dX8_readsOutputs_69 (by decide) (fun c21 => ?_) (fun c21 => ?_)
                  · have hf := it_f hf c21
                    refine lv_aload_n hx hb dX8_readsOutputs_83 rfl (lv_at hl 0 rfl) ?_
                    refine va_get (D := g.1) (ci := 8) (fs := fcM bM vM_11) (v := .ref (bM 3)) (C := RX8) (T := TX8) (N := 23) hx hb htu hinX8 hown hK hP 0 rfl rfl 2 (by decide) k_5_74 (fun _ h9 => h9) rfl dX8_readsOutputs_84 ?_
                    refine lv_sipush (v := (152 : Int32)) hx hb dX8_readsOutputs_87 (by decide) ?_
                    refine lv_aload_n hx hb dX8_readsOutputs_90 rfl (lv_at hl 0 rfl) ?_
                    refine va_get (D := g.1) (ci := 8) (fs := fcM bM vM_11) (v := .ref (bM 3)) (C := RX8) (T := TX8) (N := 23) hx hb htu hinX8 hown hK hP 0 rfl rfl 2 (by decide) k_5_74 (fun _ h9 => h9) rfl dX8_readsOutputs_91 ?_
                    refine lv_iconst (v := (2 : Int32)) hx hb dX8_readsOutputs_94 (by decide) ?_
                    obtain ⟨h22, hf⟩ := gd_in hf
                    refine va_iald (D := g.1) (f := (vM_11.2.1 2)) hx hb hK hP 2 0 rfl rfl h22 dX8_readsOutputs_95 ?_
                    refine lv_iadd hx hb dX8_readsOutputs_96 ?_
                    refine lv_aload_n hx hb dX8_readsOutputs_97 rfl (lv_at hl 0 rfl) ?_
                    refine va_get (D := g.1) (ci := 8) (fs := fcM bM vM_11) (v := .int (vM_11.1 17)) (C := RX8) (T := TX8) (N := 23) hx hb htu hinX8 hown hK hP 0 rfl rfl 17 (by decide) k_5_89 (fun _ h9 => h9) rfl dX8_readsOutputs_98 ?_
                    obtain ⟨h23, hf⟩ := gd_in hf
                    refine va_iast (D := g.1) (f := (vM_11.2.1 2)) hx hb hK hP hD hS 2 0 rfl rfl h23 dX8_readsOutputs_101 (fun H locs hP hD hS => ?_)
                    obtain ⟨vM_24, evM_24⟩ : ∃ z, z = sI vM_11 2 (((152 : Int32) + (vM_11.2.1 2 ((2 : Int32)).toNatClampNeg))).toNatClampNeg (vM_11.1 17) := ⟨_, rfl⟩
                    have hf := bn_at hf evM_24
                    have hP : va_P g.1 vwCl (cM g bM vM_24) H := by rw [evM_24]; exact hP
                    have hD : va_D A (cM g bM vM_24) := by rw [evM_24]; exact hD
                    refine lv_aload_n hx hb dX8_readsOutputs_102 rfl (lv_at hl 0 rfl) ?_
                    refine va_get (D := g.1) (ci := 8) (fs := fcM bM vM_24) (v := .ref (bM 3)) (C := RX8) (T := TX8) (N := 23) hx hb htu hinX8 hown hK hP 0 rfl rfl 2 (by decide) k_5_74 (fun _ h9 => h9) rfl dX8_readsOutputs_103 ?_
                    refine lv_iconst (v := (2 : Int32)) hx hb dX8_readsOutputs_106 (by decide) ?_
                    refine lv_dup2_11 hx hb dX8_readsOutputs_107 rfl rfl ?_
                    obtain ⟨h25, hf⟩ := gd_in hf
                    refine va_iald (D := g.1) (f := (vM_24.2.1 2)) hx hb hK hP 2 0 rfl rfl h25 dX8_readsOutputs_108 ?_
                    refine lv_iconst (v := (1 : Int32)) hx hb dX8_readsOutputs_109 (by decide) ?_
                    refine lv_iadd hx hb dX8_readsOutputs_110 ?_
                    obtain ⟨h26, hf⟩ := gd_in hf
                    refine va_iast (D := g.1) (f := (vM_24.2.1 2)) hx hb hK hP hD hS 2 0 rfl rfl h26 dX8_readsOutputs_111 (fun H locs hP hD hS => ?_)
                    obtain ⟨vM_27, evM_27⟩ : ∃ z, z = sI vM_24 2 ((2 : Int32)).toNatClampNeg ((vM_24.2.1 2 ((2 : Int32)).toNatClampNeg) + (1 : Int32)) := ⟨_, rfl⟩
                    have hf := bn_at hf evM_27
                    have hP : va_P g.1 vwCl (cM g bM vM_27) H := by rw [evM_27]; exact hP
                    have hD : va_D A (cM g bM vM_27) := by rw [evM_27]; exact hD
                    refine lv_aload_n hx hb dX8_readsOutputs_112 rfl (lv_at hl 0 rfl) ?_
                    obtain ⟨r28, vM_29, hg30, hf⟩ := o2_at hf
                    refine k_viW ⟨hx, hb, hml, hown, htu⟩ hK hP hD hS hA hG (c_X8_here l g bM vM_27 r28 vM_29 hg30) (cwV 0 htu (gU_V mw_5_179 hcX8_here) rfl rfl rfl hdX8_here ⟨Nat.le_of_ble_eq_true rfl, Nat.le_of_ble_eq_true rfl⟩) (q0 := 0) (ci := 8) (fs := fcM bM vM_27) (q := (RX8, TX8, 23)) rfl rfl rfl (As := []) (rest := []) rfl rfl hl.1 (Nat.le_of_ble_eq_true rfl) dX8_readsOutputs_113 (k1 := 0) (n1 := 0) rfl rfl ⟨Nat.le_refl _, Nat.le_refl _⟩ (fun H locs hP hD hS => ?_)
                    obtain ⟨r31, hg32, hf⟩ := o1_at hf
                    refine k_si0 ⟨hx, hb, hml, hown, htu⟩ hK hP hD hS hA hG (c_X8_isDigit l g r28 r31 hg32) (va_cwS 1 htu (gU_S mw_5_196 hcX8_isDigit) rfl rfl rfl hdX8_isDigit ⟨Nat.le_of_ble_eq_true rfl, Nat.le_of_ble_eq_true rfl⟩) (As := [.int r28]) (rest := []) rfl rfl hl.1 (Nat.le_of_ble_eq_true rfl) dX8_readsOutputs_116 (k1 := 0) (n1 := 0) rfl rfl ⟨Nat.le_refl _, Nat.le_refl _⟩ (fun H locs hP hD hS => ?_)
                    refine lv_istore_n (lv' := [(1, .int r31), (0, .ref (bM 0)), (2, .int x2_14)]) hx hb dX8_readsOutputs_119 rfl hl (by decide) rfl (fun ls hl => ?_)
                    refine lv_goto (tgt := 2) hx hb dX8_readsOutputs_120 (by decide) ?_
                    exact ih5 r31 vM_29 hf H locs hP hD hS _ (lv_sub hl [1, 0] rfl)
                  · have hf := it_t hf c21
                    refine lv_aload_n hx hb dX8_readsOutputs_72 rfl (lv_at hl 0 rfl) ?_
                    refine lv_bipush (v := (-6 : Int32)) hx hb dX8_readsOutputs_73 (by decide) ?_
                    refine lv_aload_n hx hb dX8_readsOutputs_75 rfl (lv_at hl 0 rfl) ?_
                    refine va_get (D := g.1) (ci := 8) (fs := fcM bM vM_11) (v := .int (vM_11.1 18)) (C := RX8) (T := TX8) (N := 23) hx hb htu hinX8 hown hK hP 0 rfl rfl 18 (by decide) k_5_90 (fun _ h9 => h9) rfl dX8_readsOutputs_76 ?_
                    obtain ⟨r33, vM_34, hg35, hf⟩ := o2_at hf
                    refine k_viW ⟨hx, hb, hml, hown, htu⟩ hK hP hD hS hA hG (c_X8_fails l g bM vM_11 (-6 : Int32) (vM_11.1 18) r33 vM_34 hg35) (cwV 2 htu (gU_V mw_5_188 hcX8_fails) rfl rfl rfl hdX8_fails ⟨Nat.le_of_ble_eq_true rfl, Nat.le_of_ble_eq_true rfl⟩) (q0 := 0) (ci := 8) (fs := fcM bM vM_11) (q := (RX8, TX8, 23)) rfl rfl rfl (As := [.int (-6 : Int32), .int (vM_11.1 18)]) (rest := []) rfl rfl hl.1 (Nat.le_of_ble_eq_true rfl) dX8_readsOutputs_79 (k1 := 0) (n1 := 0) rfl rfl ⟨Nat.le_refl _, Nat.le_refl _⟩ (fun H locs hP hD hS => ?_)
                    obtain ⟨h36, hf⟩ := gd_isB hf
                    obtain ⟨e37, e38⟩ := kp_2 hf
                    rw [e38] at hP hD
                    exact k_zret hx hb hr hlocks hK hP hD hS e37 h36 dX8_readsOutputs_82
                · have hf := it_f hf c19
                  refine lv_aload_n hx hb dX8_readsOutputs_27 rfl (lv_at hl 0 rfl) ?_
                  refine va_get (D := g.1) (ci := 8) (fs := fcM bM vM_11) (v := .ref (bM 3)) (C := RX8) (T := TX8) (N := 23) hx hb htu hinX8 hown hK hP 0 rfl rfl 2 (by decide) k_5_74 (fun _ h9 => h9) rfl dX8_readsOutputs_28 ?_
                  refine lv_sipush (v := (152 : Int32)) hx hb dX8_readsOutputs_31 (by decide) ?_
                  refine lv_iload_n hx hb dX8_readsOutputs_34 rfl (lv_at hl 1 rfl) ?_
                  refine lv_iadd hx hb dX8_readsOutputs_35 ?_
                  obtain ⟨h39, hf⟩ := gd_in hf
                  refine va_iald (D := g.1) (f := (vM_11.2.1 2)) hx hb hK hP 2 0 rfl rfl h39 dX8_readsOutputs_36 ?_
                  refine lv_aload_n hx hb dX8_readsOutputs_37 rfl (lv_at hl 0 rfl) ?_
                  refine va_get (D := g.1) (ci := 8) (fs := fcM bM vM_11) (v := .int (vM_11.1 17)) (C := RX8) (T := TX8) (N := 23) hx hb htu hinX8 hown hK hP 0 rfl rfl 17 (by decide) k_5_89 (fun _ h9 => h9) rfl dX8_readsOutputs_38 ?_
                  refine lv_icmp_ne (tgt := 55) hx hb dX8_readsOutputs_41 (by decide) (fun c40 => ?_) (fun c40 => ?_)
                  · have hf := it_f hf c40
                    refine lv_iinc (v := (x2_14 + (1 : Int32))) (lv' := [(2, .int (x2_14 + (1 : Int32))), (0, .ref (bM 0))]) hx hb dX8_readsOutputs_55 hl (k := 1) rfl rfl (by decide) rfl (fun ls hl => ?_)
                    refine lv_goto (tgt := 17) hx hb dX8_readsOutputs_58 (by decide) ?_
                    exact ih17 (x2_14 + (1 : Int32)) hf H locs hP hD hS _ (lv_sub hl [1, 0] rfl)
                  · have hf := it_t hf c40
                    refine lv_aload_n hx hb dX8_readsOutputs_44 rfl (lv_at hl 0 rfl) ?_
                    refine lv_bipush (v := (-4 : Int32)) hx hb dX8_readsOutputs_45 (by decide) ?_
                    refine lv_aload_n hx hb dX8_readsOutputs_47 rfl (lv_at hl 0 rfl) ?_
                    refine va_get (D := g.1) (ci := 8) (fs := fcM bM vM_11) (v := .int (vM_11.1 18)) (C := RX8) (T := TX8) (N := 23) hx hb htu hinX8 hown hK hP 0 rfl rfl 18 (by decide) k_5_90 (fun _ h9 => h9) rfl dX8_readsOutputs_48 ?_
                    obtain ⟨r41, vM_42, hg43, hf⟩ := o2_at hf
                    refine k_viW ⟨hx, hb, hml, hown, htu⟩ hK hP hD hS hA hG (c_X8_fails l g bM vM_11 (-4 : Int32) (vM_11.1 18) r41 vM_42 hg43) (cwV 2 htu (gU_V mw_5_188 hcX8_fails) rfl rfl rfl hdX8_fails ⟨Nat.le_of_ble_eq_true rfl, Nat.le_of_ble_eq_true rfl⟩) (q0 := 0) (ci := 8) (fs := fcM bM vM_11) (q := (RX8, TX8, 23)) rfl rfl rfl (As := [.int (-4 : Int32), .int (vM_11.1 18)]) (rest := []) rfl rfl hl.1 (Nat.le_of_ble_eq_true rfl) dX8_readsOutputs_51 (k1 := 0) (n1 := 0) rfl rfl ⟨Nat.le_refl _, Nat.le_refl _⟩ (fun H locs hP hD hS => ?_)
                    obtain ⟨h44, hf⟩ := gd_isB hf
                    obtain ⟨e45, e46⟩ := kp_2 hf
                    rw [e46] at hP hD
                    exact k_zret hx hb hr hlocks hK hP hD hS e45 h44 dX8_readsOutputs_54
            exact hL16 (0 : Int32) hf H locs hP hD hS _ (lv_sub hl [1, 0] rfl)
          · have hf := it_t hf c13
            refine lv_iconst (v := (0 : Int32)) hx hb dX8_readsOutputs_13 (by decide) ?_
            obtain ⟨h47, hf⟩ := gd_isB hf
            obtain ⟨e48, e49⟩ := kp_2 hf
            rw [e49] at hP hD
            exact k_zret hx hb hr hlocks hK hP hD hS e48 h47 dX8_readsOutputs_14
    exact hL4 (1 : Int32) vM hf H locs hP hD hS _ (lv_sub hl [1, 0] rfl)
  rw [hH, hlo] at hW
  exact hW
def f_X8_readsBridge (vM : Vs) (x1 : Int32) : Option (Int32 × Vs) :=
  gd (inb (3 : Int32) 440) (if (vM.2.1 2 ((3 : Int32)).toNatClampNeg) = (8 : Int32) then o2 (f_X8_fails vM (-6 : Int32) x1) (fun (r70 : Int32) (vM_71 : Vs) => gd (isB r70) (some (r70, vM_71))) else o2 (f_X8_takes vM 1) (fun (r3 : Int32) (vM_4 : Vs) => jn (fun (t6 : Int32) (vM_7 : Vs) => if t6 = (-1 : Int32) then o2 (f_X8_fails vM_7 (-2 : Int32) (vM_7.1 14)) (fun (r58 : Int32) (vM_59 : Vs) => gd (isB r58) (some (r58, vM_59))) else o2 (f_X8_readsWire vM_7) (fun (r11 : Int32) (vM_12 : Vs) => if r11 = 0 then gd (isB (0 : Int32)) (some ((0 : Int32), vM_12)) else o2 (f_X8_readsWire vM_12) (fun (r15 : Int32) (vM_16 : Vs) => if r15 = 0 then gd (isB (0 : Int32)) (some ((0 : Int32), vM_16)) else jn (fun (vM_19 : Vs) => o2 (f_X8_fails vM_19 (-5 : Int32) (vM_19.1 18)) (fun (r22 : Int32) (vM_23 : Vs) => gd (isB r22) (some (r22, vM_23)))) (fun k20 => if (vM_12.1 17) = (vM_16.1 17) then k20 vM_16 else o2 (f_X8_dependsOn vM_16 (vM_12.1 17) (vM_16.1 17)) (fun (r30 : Int32) (vM_31 : Vs) => if r30 = 0 then o2 (f_X8_dependsOn vM_31 (vM_31.1 17) (vM_12.1 17)) (fun (r34 : Int32) (vM_35 : Vs) => if r34 = 0 then gd (inb (3 : Int32) 440) (bn (((158 : Int32) + ((3 : Int32) * (vM_35.2.1 2 ((3 : Int32)).toNatClampNeg)))) (fun (y39 : Int32) => gd (inb y39 440) (bn (sI vM_35 2 (y39).toNatClampNeg t6) (fun (vM_41 : Vs) => gd (inb (y39 + (1 : Int32)) 440) (bn (sI vM_41 2 ((y39 + (1 : Int32))).toNatClampNeg (vM_12.1 17)) (fun (vM_43 : Vs) => gd (inb (y39 + (2 : Int32)) 440) (bn (sI vM_43 2 ((y39 + (2 : Int32))).toNatClampNeg (vM_43.1 17)) (fun (vM_45 : Vs) => gd (inb (3 : Int32) 440) (gd (inb (3 : Int32) 440) (bn (sI vM_45 2 ((3 : Int32)).toNatClampNeg ((vM_45.2.1 2 ((3 : Int32)).toNatClampNeg) + (1 : Int32))) (fun (vM_48 : Vs) => gd (isB (1 : Int32)) (some ((1 : Int32), vM_48))))))))))))) else k20 vM_35) else k20 vM_31))))) (fun k8 => if r3 = 0 then o2 (f_X8_takes vM_4 16) (fun (r66 : Int32) (vM_67 : Vs) => if r66 = 0 then k8 (-1 : Int32) vM_67 else k8 (1 : Int32) vM_67) else k8 (0 : Int32) vM_4)))
abbrev wsX8_readsBridge : List Cond := .code yX8_readsBridge cX8_readsBridge 5 (some .boolean) :: UW
abbrev rmX8_readsBridge : Room := { frames := 5, cells := 0, slots := 0, locals := 108 }
set_option maxHeartbeats 4000000 in
set_option maxRecDepth 100000 in
theorem c_X8_readsBridge (l : Launch) (g : Gx) (bM : Nat → Nat) (vM : Vs) (x1 : Int32) (r : Int32) (vM1 : Vs) (hf : f_X8_readsBridge vM x1 = some (r, vM1)) : CtI l yX8_readsBridge wsX8_readsBridge rmX8_readsBridge g [.ref (bM 0), .int x1] (cM g bM vM) (cM g bM vM1) r 0 0 := by
  unfold CtI
  intro sz
  refine Met.ofW (cc := cX8_readsBridge) (maxL := 5) (ret := (some .boolean)) (by decide) rfl ?_
  intro p e s m args below meth c s₁ B hml hv
  obtain ⟨rfl, hsz, hP, hK, hD0, hG⟩ := hv
  have hx := B.exec
  have hb := B.bytes
  have hr := B.returns
  have hts := atoms_spec (ws := wsX8_readsBridge) B.pre
  have hown : s.vm.findClass RX8 = some m.cls := findClass_of_methodNamed B.named
  have hlocks := B.notSynchronized
  subst hsz
  have hD := hD0.self (sz := s.heap.size)
  generalize hAe : va_A (cM g bM vM) s.heap.size = A at hD hG ⊢
  have hA : ∀ q : Nat, s.heap.size ≤ q → A q := fun q h => by rw [← hAe]; exact Or.inr h
  clear hAe hD0
  have hS : va_S A s.heap s.heap [] := va_S.rf
  have hl := lv_entry ([.ref (bM 0), .int x1]) (n := 5) (Nat.le_of_ble_eq_true rfl)
  rw [lg_entry_eq]
  generalize (lg_sl ([.ref (bM 0), .int x1]) ++ List.replicate (5 - (lg_sl ([.ref (bM 0), .int x1])).length) Slot.unset).toArray = ls at hl ⊢
  have hl : lv_has ls 5 [(0, .ref (bM 0)), (1, .int x1)] := hl
  have htu : ∀ w ∈ UW, w.before _ s = true := fun w h => hts w (List.mem_cons_of_mem _ h)
  have k_5_74 := htu _ mw_5_74
  have k_5_89 := htu _ mw_5_89
  have k_5_90 := htu _ mw_5_90
  have k_5_86 := htu _ mw_5_86
  unfold f_X8_readsBridge at hf
  obtain ⟨H, hH⟩ : ∃ z, z = s.heap := ⟨_, rfl⟩
  obtain ⟨locs, hlo⟩ : ∃ z : List Loc, z = [] := ⟨_, rfl⟩
  have hS : va_S A s.heap H locs := by rw [hH, hlo]; exact hS
  rw [← hH] at hP
  have hW : W p l e (headSpec wsX8_readsBridge rmX8_readsBridge).room s m ([.ref (bM 0), .int x1] : List Value).toArray below meth c H locs 0 0 (MQ below (qI g A (cM g bM vM1) r) ([.ref (bM 0), .int x1] : List Value).toArray s 0 0 A) (F0 m 0 ls []) := by
    refine lv_aload_n hx hb dX8_readsBridge_0 rfl (lv_at hl 0 rfl) ?_
    refine va_get (D := g.1) (ci := 8) (fs := fcM bM vM) (v := .ref (bM 3)) (C := RX8) (T := TX8) (N := 23) hx hb htu hinX8 hown hK hP 0 rfl rfl 2 (by decide) k_5_74 (fun _ h9 => h9) rfl dX8_readsBridge_1 ?_
    refine lv_iconst (v := (3 : Int32)) hx hb dX8_readsBridge_4 (by decide) ?_
    obtain ⟨h1, hf⟩ := gd_in hf
    refine va_iald (D := g.1) (f := (vM.2.1 2)) hx hb hK hP 2 0 rfl rfl h1 dX8_readsBridge_5 ?_
    refine lv_bipush (v := (8 : Int32)) hx hb dX8_readsBridge_6 (by decide) ?_
    refine lv_icmp_ne (tgt := 19) hx hb dX8_readsBridge_8 (by decide) (fun c2 => ?_) (fun c2 => ?_)
    · have hf := it_f hf c2
      refine lv_aload_n hx hb dX8_readsBridge_19 rfl (lv_at hl 0 rfl) ?_
      refine va_ldcS hx hb hown (hG.1.1 _ (List.mem_of_getElem? (i := 28) rfl)) dX8_readsBridge_20 ?_
      obtain ⟨r3, vM_4, hg5, hf⟩ := o2_at hf
      refine k_viW ⟨hx, hb, hml, hown, htu⟩ hK hP hD hS hA hG (c_X8_takes l g bM vM 1 (by decide) r3 vM_4 hg5) (cwV 1 htu (gU_V mw_5_175 hcX8_takes) rfl rfl rfl hdX8_takes ⟨Nat.le_of_ble_eq_true rfl, Nat.le_of_ble_eq_true rfl⟩) (q0 := 0) (ci := 8) (fs := fcM bM vM) (q := (RX8, TX8, 23)) rfl rfl rfl (As := [.ref (adK g 1)]) (rest := []) rfl rfl hl.1 (Nat.le_of_ble_eq_true rfl) dX8_readsBridge_22 (k1 := 0) (n1 := 0) rfl rfl ⟨Nat.le_refl _, Nat.le_refl _⟩ (fun H locs hP hD hS => ?_)
      obtain ⟨k8, hk64, hf⟩ := jn_at hf
      have hJ9 : ∀ (t6 : Int32) (vM_7 : Vs), k8 t6 vM_7 = some (r, vM1) → ∀ (H : Heap) (locs : List Loc), va_P g.1 vwCl (cM g bM vM_7) H → va_D A (cM g bM vM_7) → va_S A s.heap H locs → ∀ ls : Array Slot, lv_has ls 5 [(0, .ref (bM 0))] → W p l e (headSpec wsX8_readsBridge rmX8_readsBridge).room s m ([.ref (bM 0), .int x1] : List Value).toArray below meth c H locs 0 0 (MQ below (qI g A (cM g bM vM1) r) ([.ref (bM 0), .int x1] : List Value).toArray s 0 0 A) (F0 m 46 ls [.int t6]) := by
        intro t6 vM_7 hf H locs hP hD hS ls hl
        rw [hk64] at hf
        dsimp only at hf
        clear hk64
        refine lv_istore_n (lv' := [(2, .int t6), (0, .ref (bM 0))]) hx hb dX8_readsBridge_46 rfl hl (by decide) rfl (fun ls hl => ?_)
        refine lv_iload_n hx hb dX8_readsBridge_47 rfl (lv_at hl 0 rfl) ?_
        refine lv_iconst (v := (-1 : Int32)) hx hb dX8_readsBridge_48 (by decide) ?_
        refine lv_icmp_ne (tgt := 63) hx hb dX8_readsBridge_49 (by decide) (fun c10 => ?_) (fun c10 => ?_)
        · have hf := it_f hf c10
          refine lv_aload_n hx hb dX8_readsBridge_63 rfl (lv_at hl 1 rfl) ?_
          obtain ⟨r11, vM_12, hg13, hf⟩ := o2_at hf
          refine k_viW ⟨hx, hb, hml, hown, htu⟩ hK hP hD hS hA hG (c_X8_readsWire l g bM vM_7 r11 vM_12 hg13) (cwV 0 htu (gU_V mw_5_232 hcX8_readsWire) rfl rfl rfl hdX8_readsWire ⟨Nat.le_of_ble_eq_true rfl, Nat.le_of_ble_eq_true rfl⟩) (q0 := 0) (ci := 8) (fs := fcM bM vM_7) (q := (RX8, TX8, 23)) rfl rfl rfl (As := []) (rest := []) rfl rfl hl.1 (Nat.le_of_ble_eq_true rfl) dX8_readsBridge_64 (k1 := 0) (n1 := 0) rfl rfl ⟨Nat.le_refl _, Nat.le_refl _⟩ (fun H locs hP hD hS => ?_)
          refine lv_if_ne (tgt := 72) hx hb dX8_readsBridge_67 (by decide) (fun c14 => ?_) (fun c14 => ?_)
          · have hf := it_f hf c14
            refine lv_aload_n hx hb dX8_readsBridge_72 rfl (lv_at hl 1 rfl) ?_
            refine va_get (D := g.1) (ci := 8) (fs := fcM bM vM_12) (v := .int (vM_12.1 17)) (C := RX8) (T := TX8) (N := 23) hx hb htu hinX8 hown hK hP 0 rfl rfl 17 (by decide) k_5_89 (fun _ h9 => h9) rfl dX8_readsBridge_73 ?_
            refine lv_istore_n (lv' := [(3, .int (vM_12.1 17)), (2, .int t6), (0, .ref (bM 0))]) hx hb dX8_readsBridge_76 rfl hl (by decide) rfl (fun ls hl => ?_)
            refine lv_aload_n hx hb dX8_readsBridge_77 rfl (lv_at hl 2 rfl) ?_
            obtain ⟨r15, vM_16, hg17, hf⟩ := o2_at hf
            refine k_viW ⟨hx, hb, hml, hown, htu⟩ hK hP hD hS hA hG (c_X8_readsWire l g bM vM_12 r15 vM_16 hg17) (cwV 0 htu (gU_V mw_5_232 hcX8_readsWire) rfl rfl rfl hdX8_readsWire ⟨Nat.le_of_ble_eq_true rfl, Nat.le_of_ble_eq_true rfl⟩) (q0 := 0) (ci := 8) (fs := fcM bM vM_12) (q := (RX8, TX8, 23)) rfl rfl rfl (As := []) (rest := []) rfl rfl hl.1 (Nat.le_of_ble_eq_true rfl) dX8_readsBridge_78 (k1 := 0) (n1 := 0) rfl rfl ⟨Nat.le_refl _, Nat.le_refl _⟩ (fun H locs hP hD hS => ?_)
            refine lv_if_ne (tgt := 86) hx hb dX8_readsBridge_81 (by decide) (fun c18 => ?_) (fun c18 => ?_)
            · have hf := it_f hf c18
              refine lv_iload_n hx hb dX8_readsBridge_86 rfl (lv_at hl 0 rfl) ?_
              refine lv_aload_n hx hb dX8_readsBridge_87 rfl (lv_at hl 2 rfl) ?_
              refine va_get (D := g.1) (ci := 8) (fs := fcM bM vM_16) (v := .int (vM_16.1 17)) (C := RX8) (T := TX8) (N := 23) hx hb htu hinX8 hown hK hP 0 rfl rfl 17 (by decide) k_5_89 (fun _ h9 => h9) rfl dX8_readsBridge_88 ?_
              obtain ⟨k20, hk28, hf⟩ := jn_at hf
              have hJ21 : ∀ (vM_19 : Vs), k20 vM_19 = some (r, vM1) → ∀ (H : Heap) (locs : List Loc), va_P g.1 vwCl (cM g bM vM_19) H → va_D A (cM g bM vM_19) → va_S A s.heap H locs → ∀ ls : Array Slot, lv_has ls 5 [(0, .ref (bM 0))] → W p l e (headSpec wsX8_readsBridge rmX8_readsBridge).room s m ([.ref (bM 0), .int x1] : List Value).toArray below meth c H locs 0 0 (MQ below (qI g A (cM g bM vM1) r) ([.ref (bM 0), .int x1] : List Value).toArray s 0 0 A) (F0 m 118 ls []) := by
                intro vM_19 hf H locs hP hD hS ls hl
                rw [hk28] at hf
                dsimp only at hf
                clear hk28
                refine lv_aload_n hx hb dX8_readsBridge_118 rfl (lv_at hl 0 rfl) ?_
                refine lv_bipush (v := (-5 : Int32)) hx hb dX8_readsBridge_119 (by decide) ?_
                refine lv_aload_n hx hb dX8_readsBridge_121 rfl (lv_at hl 0 rfl) ?_
                refine va_get (D := g.1) (ci := 8) (fs := fcM bM vM_19) (v := .int (vM_19.1 18)) (C := RX8) (T := TX8) (N := 23) hx hb htu hinX8 hown hK hP 0 rfl rfl 18 (by decide) k_5_90 (fun _ h9 => h9) rfl dX8_readsBridge_122 ?_
                obtain ⟨r22, vM_23, hg24, hf⟩ := o2_at hf
                refine k_viW ⟨hx, hb, hml, hown, htu⟩ hK hP hD hS hA hG (c_X8_fails l g bM vM_19 (-5 : Int32) (vM_19.1 18) r22 vM_23 hg24) (cwV 2 htu (gU_V mw_5_188 hcX8_fails) rfl rfl rfl hdX8_fails ⟨Nat.le_of_ble_eq_true rfl, Nat.le_of_ble_eq_true rfl⟩) (q0 := 0) (ci := 8) (fs := fcM bM vM_19) (q := (RX8, TX8, 23)) rfl rfl rfl (As := [.int (-5 : Int32), .int (vM_19.1 18)]) (rest := []) rfl rfl hl.1 (Nat.le_of_ble_eq_true rfl) dX8_readsBridge_125 (k1 := 0) (n1 := 0) rfl rfl ⟨Nat.le_refl _, Nat.le_refl _⟩ (fun H locs hP hD hS => ?_)
                obtain ⟨h25, hf⟩ := gd_isB hf
                obtain ⟨e26, e27⟩ := kp_2 hf
                rw [e27] at hP hD
                exact k_zret hx hb hr hlocks hK hP hD hS e26 h25 dX8_readsBridge_128
              refine lv_icmp_eq (tgt := 118) hx hb dX8_readsBridge_91 (by decide) (fun c29 => ?_) (fun c29 => ?_)
              · have hf := it_t hf c29
                exact hJ21 vM_16 hf H locs hP hD hS _ (lv_sub hl [2] rfl)
              · have hf := it_f hf c29
                refine lv_aload_n hx hb dX8_readsBridge_94 rfl (lv_at hl 2 rfl) ?_
                refine lv_iload_n hx hb dX8_readsBridge_95 rfl (lv_at hl 0 rfl) ?_
                refine lv_aload_n hx hb dX8_readsBridge_96 rfl (lv_at hl 2 rfl) ?_
                refine va_get (D := g.1) (ci := 8) (fs := fcM bM vM_16) (v := .int (vM_16.1 17)) (C := RX8) (T := TX8) (N := 23) hx hb htu hinX8 hown hK hP 0 rfl rfl 17 (by decide) k_5_89 (fun _ h9 => h9) rfl dX8_readsBridge_97 ?_
                obtain ⟨r30, vM_31, hg32, hf⟩ := o2_at hf
                refine k_viW ⟨hx, hb, hml, hown, htu⟩ hK hP hD hS hA hG (c_X8_dependsOn l g bM vM_16 (vM_12.1 17) (vM_16.1 17) r30 vM_31 hg32) (cwV 2 htu (gU_V mw_6_6 hcX8_dependsOn) rfl rfl rfl hdX8_dependsOn ⟨Nat.le_of_ble_eq_true rfl, Nat.le_of_ble_eq_true rfl⟩) (q0 := 0) (ci := 8) (fs := fcM bM vM_16) (q := (RX8, TX8, 23)) rfl rfl rfl (As := [.int (vM_12.1 17), .int (vM_16.1 17)]) (rest := []) rfl rfl hl.1 (Nat.le_of_ble_eq_true rfl) dX8_readsBridge_100 (k1 := 0) (n1 := 0) rfl rfl ⟨Nat.le_refl _, Nat.le_refl _⟩ (fun H locs hP hD hS => ?_)
                refine lv_if_ne (tgt := 118) hx hb dX8_readsBridge_103 (by decide) (fun c33 => ?_) (fun c33 => ?_)
                · have hf := it_f hf c33
                  exact hJ21 vM_31 hf H locs hP hD hS _ (lv_sub hl [2] rfl)
                · have hf := it_t hf c33
                  refine lv_aload_n hx hb dX8_readsBridge_106 rfl (lv_at hl 2 rfl) ?_
                  refine lv_aload_n hx hb dX8_readsBridge_107 rfl (lv_at hl 2 rfl) ?_
                  refine va_get (D := g.1) (ci := 8) (fs := fcM bM vM_31) (v := .int (vM_31.1 17)) (C := RX8) (T := TX8) (N := 23) hx hb htu hinX8 hown hK hP 0 rfl rfl 17 (by decide) k_5_89 (fun _ h9 => h9) rfl dX8_readsBridge_108 ?_
                  refine lv_iload_n hx hb dX8_readsBridge_111 rfl (lv_at hl 0 rfl) ?_
                  obtain ⟨r34, vM_35, hg36, hf⟩ := o2_at hf
                  refine k_viW ⟨hx, hb, hml, hown, htu⟩ hK hP hD hS hA hG (c_X8_dependsOn l g bM vM_31 (vM_31.1 17) (vM_12.1 17) r34 vM_35 hg36) (cwV 2 htu (gU_V mw_6_6 hcX8_dependsOn) rfl rfl rfl hdX8_dependsOn ⟨Nat.le_of_ble_eq_true rfl, Nat.le_of_ble_eq_true rfl⟩) (q0 := 0) (ci := 8) (fs := fcM bM vM_31) (q := (RX8, TX8, 23)) rfl rfl rfl (As := [.int (vM_31.1 17), .int (vM_12.1 17)]) (rest := []) rfl rfl hl.1 (Nat.le_of_ble_eq_true rfl) dX8_readsBridge_112 (k1 := 0) (n1 := 0) rfl rfl ⟨Nat.le_refl _, Nat.le_refl _⟩ (fun H locs hP hD hS => ?_)
                  refine lv_if_eq (tgt := 129) hx hb dX8_readsBridge_115 (by decide) (fun c37 => ?_) (fun c37 => ?_)
                  · have hf := it_t hf c37
                    refine lv_sipush (v := (158 : Int32)) hx hb dX8_readsBridge_129 (by decide) ?_
                    refine lv_iconst (v := (3 : Int32)) hx hb dX8_readsBridge_132 (by decide) ?_
                    refine lv_aload_n hx hb dX8_readsBridge_133 rfl (lv_at hl 2 rfl) ?_
                    refine va_get (D := g.1) (ci := 8) (fs := fcM bM vM_35) (v := .ref (bM 3)) (C := RX8) (T := TX8) (N := 23) hx hb htu hinX8 hown hK hP 0 rfl rfl 2 (by decide) k_5_74 (fun _ h9 => h9) rfl dX8_readsBridge_134 ?_
                    refine lv_iconst (v := (3 : Int32)) hx hb dX8_readsBridge_137 (by decide) ?_
                    obtain ⟨h38, hf⟩ := gd_in hf
                    refine va_iald (D := g.1) (f := (vM_35.2.1 2)) hx hb hK hP 2 0 rfl rfl h38 dX8_readsBridge_138 ?_
                    refine lv_imul hx hb dX8_readsBridge_139 ?_
                    refine lv_iadd hx hb dX8_readsBridge_140 ?_
                    refine lv_topi (fun y39 ey39 => ?_)
                    have hf := bn_at hf ey39
                    refine lv_istore (lv' := [(4, .int y39), (3, .int (vM_12.1 17)), (2, .int t6), (0, .ref (bM 0))]) hx hb dX8_readsBridge_141 hl (by decide) rfl (fun ls hl => ?_)
                    refine lv_aload_n hx hb dX8_readsBridge_143 rfl (lv_at hl 3 rfl) ?_
                    refine va_get (D := g.1) (ci := 8) (fs := fcM bM vM_35) (v := .ref (bM 3)) (C := RX8) (T := TX8) (N := 23) hx hb htu hinX8 hown hK hP 0 rfl rfl 2 (by decide) k_5_74 (fun _ h9 => h9) rfl dX8_readsBridge_144 ?_
                    refine lv_iload hx hb dX8_readsBridge_147 (lv_at hl 0 rfl) ?_
                    refine lv_iload_n hx hb dX8_readsBridge_149 rfl (lv_at hl 2 rfl) ?_
                    obtain ⟨h40, hf⟩ := gd_in hf
                    refine va_iast (D := g.1) (f := (vM_35.2.1 2)) hx hb hK hP hD hS 2 0 rfl rfl h40 dX8_readsBridge_150 (fun H locs hP hD hS => ?_)
                    obtain ⟨vM_41, evM_41⟩ : ∃ z, z = sI vM_35 2 (y39).toNatClampNeg t6 := ⟨_, rfl⟩
                    have hf := bn_at hf evM_41
                    have hP : va_P g.1 vwCl (cM g bM vM_41) H := by rw [evM_41]; exact hP
                    have hD : va_D A (cM g bM vM_41) := by rw [evM_41]; exact hD
                    refine lv_aload_n hx hb dX8_readsBridge_151 rfl (lv_at hl 3 rfl) ?_
                    refine va_get (D := g.1) (ci := 8) (fs := fcM bM vM_41) (v := .ref (bM 3)) (C := RX8) (T := TX8) (N := 23) hx hb htu hinX8 hown hK hP 0 rfl rfl 2 (by decide) k_5_74 (fun _ h9 => h9) rfl dX8_readsBridge_152 ?_
                    refine lv_iload hx hb dX8_readsBridge_155 (lv_at hl 0 rfl) ?_
                    refine lv_iconst (v := (1 : Int32)) hx hb dX8_readsBridge_157 (by decide) ?_
                    refine lv_iadd hx hb dX8_readsBridge_158 ?_
                    refine lv_iload_n hx hb dX8_readsBridge_159 rfl (lv_at hl 1 rfl) ?_
                    obtain ⟨h42, hf⟩ := gd_in hf
                    refine va_iast (D := g.1) (f := (vM_41.2.1 2)) hx hb hK hP hD hS 2 0 rfl rfl h42 dX8_readsBridge_160 (fun H locs hP hD hS => ?_)
                    obtain ⟨vM_43, evM_43⟩ : ∃ z, z = sI vM_41 2 ((y39 + (1 : Int32))).toNatClampNeg (vM_12.1 17) := ⟨_, rfl⟩
                    have hf := bn_at hf evM_43
                    have hP : va_P g.1 vwCl (cM g bM vM_43) H := by rw [evM_43]; exact hP
                    have hD : va_D A (cM g bM vM_43) := by rw [evM_43]; exact hD
                    refine lv_aload_n hx hb dX8_readsBridge_161 rfl (lv_at hl 3 rfl) ?_
                    refine va_get (D := g.1) (ci := 8) (fs := fcM bM vM_43) (v := .ref (bM 3)) (C := RX8) (T := TX8) (N := 23) hx hb htu hinX8 hown hK hP 0 rfl rfl 2 (by decide) k_5_74 (fun _ h9 => h9) rfl dX8_readsBridge_162 ?_
                    refine lv_iload hx hb dX8_readsBridge_165 (lv_at hl 0 rfl) ?_
                    refine lv_iconst (v := (2 : Int32)) hx hb dX8_readsBridge_167 (by decide) ?_
                    refine lv_iadd hx hb dX8_readsBridge_168 ?_
                    refine lv_aload_n hx hb dX8_readsBridge_169 rfl (lv_at hl 3 rfl) ?_
                    refine va_get (D := g.1) (ci := 8) (fs := fcM bM vM_43) (v := .int (vM_43.1 17)) (C := RX8) (T := TX8) (N := 23) hx hb htu hinX8 hown hK hP 0 rfl rfl 17 (by decide) k_5_89 (fun _ h9 => h9) rfl dX8_readsBridge_170 ?_
                    obtain ⟨h44, hf⟩ := gd_in hf
                    refine va_iast (D := g.1) (f := (vM_43.2.1 2)) hx hb hK hP hD hS 2 0 rfl rfl h44 dX8_readsBridge_173 (fun H locs hP hD hS => ?_)
                    obtain ⟨vM_45, evM_45⟩ : ∃ z, z = sI vM_43 2 ((y39 + (2 : Int32))).toNatClampNeg (vM_43.1 17) := ⟨_, rfl⟩
                    have hf := bn_at hf evM_45
                    have hP : va_P g.1 vwCl (cM g bM vM_45) H := by rw [evM_45]; exact hP
                    have hD : va_D A (cM g bM vM_45) := by rw [evM_45]; exact hD
                    refine lv_aload_n hx hb dX8_readsBridge_174 rfl (lv_at hl 3 rfl) ?_
                    refine va_get (D := g.1) (ci := 8) (fs := fcM bM vM_45) (v := .ref (bM 3)) (C := RX8) (T := TX8) (N := 23) hx hb htu hinX8 hown hK hP 0 rfl rfl 2 (by decide) k_5_74 (fun _ h9 => h9) rfl dX8_readsBridge_175 ?_
                    refine lv_iconst (v := (3 : Int32)) hx hb dX8_readsBridge_178 (by decide) ?_
                    refine lv_dup2_11 hx hb dX8_readsBridge_179 rfl rfl ?_
                    obtain ⟨h46, hf⟩ := gd_in hf
                    refine va_iald (D := g.1) (f := (vM_45.2.1 2)) hx hb hK hP 2 0 rfl rfl h46 dX8_readsBridge_180 ?_
                    refine lv_iconst (v := (1 : Int32)) hx hb dX8_readsBridge_181 (by decide) ?_
                    refine lv_iadd hx hb dX8_readsBridge_182 ?_
                    obtain ⟨h47, hf⟩ := gd_in hf
                    refine va_iast (D := g.1) (f := (vM_45.2.1 2)) hx hb hK hP hD hS 2 0 rfl rfl h47 dX8_readsBridge_183 (fun H locs hP hD hS => ?_)
                    obtain ⟨vM_48, evM_48⟩ : ∃ z, z = sI vM_45 2 ((3 : Int32)).toNatClampNeg ((vM_45.2.1 2 ((3 : Int32)).toNatClampNeg) + (1 : Int32)) := ⟨_, rfl⟩
                    have hf := bn_at hf evM_48
                    have hP : va_P g.1 vwCl (cM g bM vM_48) H := by rw [evM_48]; exact hP
                    have hD : va_D A (cM g bM vM_48) := by rw [evM_48]; exact hD
                    refine lv_iconst (v := (1 : Int32)) hx hb dX8_readsBridge_184 (by decide) ?_
                    obtain ⟨h49, hf⟩ := gd_isB hf
                    obtain ⟨e50, e51⟩ := kp_2 hf
                    rw [e51] at hP hD
                    exact k_zret hx hb hr hlocks hK hP hD hS e50 h49 dX8_readsBridge_185
                  · have hf := it_f hf c37
                    exact hJ21 vM_35 hf H locs hP hD hS _ (lv_sub hl [2] rfl)
            · have hf := it_t hf c18
              refine lv_iconst (v := (0 : Int32)) hx hb dX8_readsBridge_84 (by decide) ?_
              obtain ⟨h52, hf⟩ := gd_isB hf
              obtain ⟨e53, e54⟩ := kp_2 hf
              rw [e54] at hP hD
              exact k_zret hx hb hr hlocks hK hP hD hS e53 h52 dX8_readsBridge_85
          · have hf := it_t hf c14
            refine lv_iconst (v := (0 : Int32)) hx hb dX8_readsBridge_70 (by decide) ?_
            obtain ⟨h55, hf⟩ := gd_isB hf
            obtain ⟨e56, e57⟩ := kp_2 hf
            rw [e57] at hP hD
            exact k_zret hx hb hr hlocks hK hP hD hS e56 h55 dX8_readsBridge_71
        · have hf := it_t hf c10
          refine lv_aload_n hx hb dX8_readsBridge_52 rfl (lv_at hl 1 rfl) ?_
          refine lv_bipush (v := (-2 : Int32)) hx hb dX8_readsBridge_53 (by decide) ?_
          refine lv_aload_n hx hb dX8_readsBridge_55 rfl (lv_at hl 1 rfl) ?_
          refine va_get (D := g.1) (ci := 8) (fs := fcM bM vM_7) (v := .int (vM_7.1 14)) (C := RX8) (T := TX8) (N := 23) hx hb htu hinX8 hown hK hP 0 rfl rfl 14 (by decide) k_5_86 (fun _ h9 => h9) rfl dX8_readsBridge_56 ?_
          obtain ⟨r58, vM_59, hg60, hf⟩ := o2_at hf
          refine k_viW ⟨hx, hb, hml, hown, htu⟩ hK hP hD hS hA hG (c_X8_fails l g bM vM_7 (-2 : Int32) (vM_7.1 14) r58 vM_59 hg60) (cwV 2 htu (gU_V mw_5_188 hcX8_fails) rfl rfl rfl hdX8_fails ⟨Nat.le_of_ble_eq_true rfl, Nat.le_of_ble_eq_true rfl⟩) (q0 := 0) (ci := 8) (fs := fcM bM vM_7) (q := (RX8, TX8, 23)) rfl rfl rfl (As := [.int (-2 : Int32), .int (vM_7.1 14)]) (rest := []) rfl rfl hl.1 (Nat.le_of_ble_eq_true rfl) dX8_readsBridge_59 (k1 := 0) (n1 := 0) rfl rfl ⟨Nat.le_refl _, Nat.le_refl _⟩ (fun H locs hP hD hS => ?_)
          obtain ⟨h61, hf⟩ := gd_isB hf
          obtain ⟨e62, e63⟩ := kp_2 hf
          rw [e63] at hP hD
          exact k_zret hx hb hr hlocks hK hP hD hS e62 h61 dX8_readsBridge_62
      refine lv_if_eq (tgt := 32) hx hb dX8_readsBridge_25 (by decide) (fun c65 => ?_) (fun c65 => ?_)
      · have hf := it_t hf c65
        refine lv_aload_n hx hb dX8_readsBridge_32 rfl (lv_at hl 0 rfl) ?_
        refine va_ldcS hx hb hown (hG.1.1 _ (List.mem_of_getElem? (i := 29) rfl)) dX8_readsBridge_33 ?_
        obtain ⟨r66, vM_67, hg68, hf⟩ := o2_at hf
        refine k_viW ⟨hx, hb, hml, hown, htu⟩ hK hP hD hS hA hG (c_X8_takes l g bM vM_4 16 (by decide) r66 vM_67 hg68) (cwV 1 htu (gU_V mw_5_175 hcX8_takes) rfl rfl rfl hdX8_takes ⟨Nat.le_of_ble_eq_true rfl, Nat.le_of_ble_eq_true rfl⟩) (q0 := 0) (ci := 8) (fs := fcM bM vM_4) (q := (RX8, TX8, 23)) rfl rfl rfl (As := [.ref (adK g 16)]) (rest := []) rfl rfl hl.1 (Nat.le_of_ble_eq_true rfl) dX8_readsBridge_35 (k1 := 0) (n1 := 0) rfl rfl ⟨Nat.le_refl _, Nat.le_refl _⟩ (fun H locs hP hD hS => ?_)
        refine lv_if_eq (tgt := 45) hx hb dX8_readsBridge_38 (by decide) (fun c69 => ?_) (fun c69 => ?_)
        · have hf := it_t hf c69
          refine lv_iconst (v := (-1 : Int32)) hx hb dX8_readsBridge_45 (by decide) ?_
          exact hJ9 (-1 : Int32) vM_67 hf H locs hP hD hS _ (lv_sub hl [0] rfl)
        · have hf := it_f hf c69
          refine lv_iconst (v := (1 : Int32)) hx hb dX8_readsBridge_41 (by decide) ?_
          refine lv_goto (tgt := 46) hx hb dX8_readsBridge_42 (by decide) ?_
          exact hJ9 (1 : Int32) vM_67 hf H locs hP hD hS _ (lv_sub hl [0] rfl)
      · have hf := it_f hf c65
        refine lv_iconst (v := (0 : Int32)) hx hb dX8_readsBridge_28 (by decide) ?_
        refine lv_goto (tgt := 46) hx hb dX8_readsBridge_29 (by decide) ?_
        exact hJ9 (0 : Int32) vM_4 hf H locs hP hD hS _ (lv_sub hl [0] rfl)
    · have hf := it_t hf c2
      refine lv_aload_n hx hb dX8_readsBridge_11 rfl (lv_at hl 0 rfl) ?_
      refine lv_bipush (v := (-6 : Int32)) hx hb dX8_readsBridge_12 (by decide) ?_
      refine lv_iload_n hx hb dX8_readsBridge_14 rfl (lv_at hl 1 rfl) ?_
      obtain ⟨r70, vM_71, hg72, hf⟩ := o2_at hf
      refine k_viW ⟨hx, hb, hml, hown, htu⟩ hK hP hD hS hA hG (c_X8_fails l g bM vM (-6 : Int32) x1 r70 vM_71 hg72) (cwV 2 htu (gU_V mw_5_188 hcX8_fails) rfl rfl rfl hdX8_fails ⟨Nat.le_of_ble_eq_true rfl, Nat.le_of_ble_eq_true rfl⟩) (q0 := 0) (ci := 8) (fs := fcM bM vM) (q := (RX8, TX8, 23)) rfl rfl rfl (As := [.int (-6 : Int32), .int x1]) (rest := []) rfl rfl hl.1 (Nat.le_of_ble_eq_true rfl) dX8_readsBridge_15 (k1 := 0) (n1 := 0) rfl rfl ⟨Nat.le_refl _, Nat.le_refl _⟩ (fun H locs hP hD hS => ?_)
      obtain ⟨h73, hf⟩ := gd_isB hf
      obtain ⟨e74, e75⟩ := kp_2 hf
      rw [e75] at hP hD
      exact k_zret hx hb hr hlocks hK hP hD hS e74 h73 dX8_readsBridge_18
  rw [hH, hlo] at hW
  exact hW
def f_X8_readsTest_L35 (y4 : Int32) (self7 : Int32 → Vs → Option (Int32 × Vs)) (x3_5 : Int32) (vM_6 : Vs) : Option (Int32 × Vs) :=
  gd (inb (0 : Int32) 440) (if (vM_6.2.1 2 ((0 : Int32)).toNatClampNeg) ≤ x3_5 then gd (inb (4 : Int32) 440) (gd (inb (4 : Int32) 440) (bn (sI vM_6 2 ((4 : Int32)).toNatClampNeg ((vM_6.2.1 2 ((4 : Int32)).toNatClampNeg) + (1 : Int32))) (fun (vM_14 : Vs) => gd (isB (1 : Int32)) (some ((1 : Int32), vM_14))))) else o2 (f_X8_takes vM_6 23) (fun (r18 : Int32) (vM_19 : Vs) => jn (fun (vM_21 : Vs) => jn (fun (t24 : Int32) => gd (inb (y4 + x3_5) 440) (bn (sI vM_21 2 ((y4 + x3_5)).toNatClampNeg t24) (fun (vM_28 : Vs) => self7 (x3_5 + (1 : Int32)) vM_28))) (fun k25 => if r18 = 0 then k25 (vM_21.1 17) else k25 (2 : Int32))) (fun k22 => if r18 = 0 then o2 (f_X8_reads vM_19 (0 : Int32) (1 : Int32)) (fun (r33 : Int32) (vM_34 : Vs) => if r33 = 0 then gd (isB (0 : Int32)) (some ((0 : Int32), vM_34)) else k22 vM_34) else k22 vM_19)))
def f_X8_readsTest (vM : Vs) (x1 : Int32) : Option (Int32 × Vs) :=
  gd (inb (4 : Int32) 440) (if (vM.2.1 2 ((4 : Int32)).toNatClampNeg) = (16 : Int32) then o2 (f_X8_fails vM (-6 : Int32) x1) (fun (r40 : Int32) (vM_41 : Vs) => gd (isB r40) (some (r40, vM_41))) else gd (inb (4 : Int32) 440) (bn (((182 : Int32) + ((8 : Int32) * (vM.2.1 2 ((4 : Int32)).toNatClampNeg)))) (fun (y4 : Int32) => lp (f_X8_readsTest_L35 y4) (fun _ _ => none) FU (0 : Int32) vM)))
abbrev wsX8_readsTest : List Cond := .code yX8_readsTest cX8_readsTest 5 (some .boolean) :: UW
abbrev rmX8_readsTest : Room := { frames := 5, cells := 0, slots := 0, locals := 108 }
set_option maxHeartbeats 4000000 in
set_option maxRecDepth 100000 in
theorem c_X8_readsTest (l : Launch) (g : Gx) (bM : Nat → Nat) (vM : Vs) (x1 : Int32) (r : Int32) (vM1 : Vs) (hf : f_X8_readsTest vM x1 = some (r, vM1)) : CtI l yX8_readsTest wsX8_readsTest rmX8_readsTest g [.ref (bM 0), .int x1] (cM g bM vM) (cM g bM vM1) r 0 0 := by
  unfold CtI
  intro sz
  refine Met.ofW (cc := cX8_readsTest) (maxL := 5) (ret := (some .boolean)) (by decide) rfl ?_
  intro p e s m args below meth c s₁ B hml hv
  obtain ⟨rfl, hsz, hP, hK, hD0, hG⟩ := hv
  have hx := B.exec
  have hb := B.bytes
  have hr := B.returns
  have hts := atoms_spec (ws := wsX8_readsTest) B.pre
  have hown : s.vm.findClass RX8 = some m.cls := findClass_of_methodNamed B.named
  have hlocks := B.notSynchronized
  subst hsz
  have hD := hD0.self (sz := s.heap.size)
  generalize hAe : va_A (cM g bM vM) s.heap.size = A at hD hG ⊢
  have hA : ∀ q : Nat, s.heap.size ≤ q → A q := fun q h => by rw [← hAe]; exact Or.inr h
  clear hAe hD0
  have hS : va_S A s.heap s.heap [] := va_S.rf
  have hl := lv_entry ([.ref (bM 0), .int x1]) (n := 5) (Nat.le_of_ble_eq_true rfl)
  rw [lg_entry_eq]
  generalize (lg_sl ([.ref (bM 0), .int x1]) ++ List.replicate (5 - (lg_sl ([.ref (bM 0), .int x1])).length) Slot.unset).toArray = ls at hl ⊢
  have hl : lv_has ls 5 [(0, .ref (bM 0)), (1, .int x1)] := hl
  have htu : ∀ w ∈ UW, w.before _ s = true := fun w h => hts w (List.mem_cons_of_mem _ h)
  have k_5_74 := htu _ mw_5_74
  have k_5_89 := htu _ mw_5_89
  unfold f_X8_readsTest at hf
  obtain ⟨H, hH⟩ : ∃ z, z = s.heap := ⟨_, rfl⟩
  obtain ⟨locs, hlo⟩ : ∃ z : List Loc, z = [] := ⟨_, rfl⟩
  have hS : va_S A s.heap H locs := by rw [hH, hlo]; exact hS
  rw [← hH] at hP
  have hW : W p l e (headSpec wsX8_readsTest rmX8_readsTest).room s m ([.ref (bM 0), .int x1] : List Value).toArray below meth c H locs 0 0 (MQ below (qI g A (cM g bM vM1) r) ([.ref (bM 0), .int x1] : List Value).toArray s 0 0 A) (F0 m 0 ls []) := by
    refine lv_aload_n hx hb dX8_readsTest_0 rfl (lv_at hl 0 rfl) ?_
    refine va_get (D := g.1) (ci := 8) (fs := fcM bM vM) (v := .ref (bM 3)) (C := RX8) (T := TX8) (N := 23) hx hb htu hinX8 hown hK hP 0 rfl rfl 2 (by decide) k_5_74 (fun _ h9 => h9) rfl dX8_readsTest_1 ?_
    refine lv_iconst (v := (4 : Int32)) hx hb dX8_readsTest_4 (by decide) ?_
    obtain ⟨h1, hf⟩ := gd_in hf
    refine va_iald (D := g.1) (f := (vM.2.1 2)) hx hb hK hP 2 0 rfl rfl h1 dX8_readsTest_5 ?_
    refine lv_bipush (v := (16 : Int32)) hx hb dX8_readsTest_6 (by decide) ?_
    refine lv_icmp_ne (tgt := 19) hx hb dX8_readsTest_8 (by decide) (fun c2 => ?_) (fun c2 => ?_)
    · have hf := it_f hf c2
      refine lv_sipush (v := (182 : Int32)) hx hb dX8_readsTest_19 (by decide) ?_
      refine lv_bipush (v := (8 : Int32)) hx hb dX8_readsTest_22 (by decide) ?_
      refine lv_aload_n hx hb dX8_readsTest_24 rfl (lv_at hl 0 rfl) ?_
      refine va_get (D := g.1) (ci := 8) (fs := fcM bM vM) (v := .ref (bM 3)) (C := RX8) (T := TX8) (N := 23) hx hb htu hinX8 hown hK hP 0 rfl rfl 2 (by decide) k_5_74 (fun _ h9 => h9) rfl dX8_readsTest_25 ?_
      refine lv_iconst (v := (4 : Int32)) hx hb dX8_readsTest_28 (by decide) ?_
      obtain ⟨h3, hf⟩ := gd_in hf
      refine va_iald (D := g.1) (f := (vM.2.1 2)) hx hb hK hP 2 0 rfl rfl h3 dX8_readsTest_29 ?_
      refine lv_imul hx hb dX8_readsTest_30 ?_
      refine lv_iadd hx hb dX8_readsTest_31 ?_
      refine lv_topi (fun y4 ey4 => ?_)
      have hf := bn_at hf ey4
      refine lv_istore_n (lv' := [(2, .int y4), (0, .ref (bM 0)), (1, .int x1)]) hx hb dX8_readsTest_32 rfl hl (by decide) rfl (fun ls hl => ?_)
      refine lv_iconst (v := (0 : Int32)) hx hb dX8_readsTest_33 (by decide) ?_
      refine lv_istore_n (lv' := [(3, .int (0 : Int32)), (2, .int y4), (0, .ref (bM 0)), (1, .int x1)]) hx hb dX8_readsTest_34 rfl hl (by decide) rfl (fun ls hl => ?_)
      have hL8 : ∀ (x3_5 : Int32) (vM_6 : Vs), lp (f_X8_readsTest_L35 y4) (fun _ _ => none) FU x3_5 vM_6 = some (r, vM1) → ∀ (H : Heap) (locs : List Loc), va_P g.1 vwCl (cM g bM vM_6) H → va_D A (cM g bM vM_6) → va_S A s.heap H locs → ∀ ls : Array Slot, lv_has ls 5 [(0, .ref (bM 0)), (2, .int y4), (3, .int x3_5)] → W p l e (headSpec wsX8_readsTest rmX8_readsTest).room s m ([.ref (bM 0), .int x1] : List Value).toArray below meth c H locs 0 0 (MQ below (qI g A (cM g bM vM1) r) ([.ref (bM 0), .int x1] : List Value).toArray s 0 0 A) (F0 m 35 ls []) := by
        refine lp_ind (T := Int32 → Vs → Option (Int32 × Vs)) (fun self7 => ∀ (x3_5 : Int32) (vM_6 : Vs), self7 x3_5 vM_6 = some (r, vM1) → ∀ (H : Heap) (locs : List Loc), va_P g.1 vwCl (cM g bM vM_6) H → va_D A (cM g bM vM_6) → va_S A s.heap H locs → ∀ ls : Array Slot, lv_has ls 5 [(0, .ref (bM 0)), (2, .int y4), (3, .int x3_5)] → W p l e (headSpec wsX8_readsTest rmX8_readsTest).room s m ([.ref (bM 0), .int x1] : List Value).toArray below meth c H locs 0 0 (MQ below (qI g A (cM g bM vM1) r) ([.ref (bM 0), .int x1] : List Value).toArray s 0 0 A) (F0 m 35 ls [])) ?_ ?_ FU
        · intro x3_5 vM_6 hf; cases hf
        · intro self7 ih9 x3_5 vM_6 hf H locs hP hD hS ls hl
          unfold f_X8_readsTest_L35 at hf
          refine lv_iload_n hx hb dX8_readsTest_35 rfl (lv_at hl 2 rfl) ?_
          refine lv_aload_n hx hb dX8_readsTest_36 rfl (lv_at hl 0 rfl) ?_
          refine va_get (D := g.1) (ci := 8) (fs := fcM bM vM_6) (v := .ref (bM 3)) (C := RX8) (T := TX8) (N := 23) hx hb htu hinX8 hown hK hP 0 rfl rfl 2 (by decide) k_5_74 (fun _ h9 => h9) rfl dX8_readsTest_37 ?_
          refine lv_iconst (v := (0 : Int32)) hx hb dX8_readsTest_40 (by decide) ?_
          obtain ⟨h10, hf⟩ := gd_in hf
          refine va_iald (D := g.1) (f := (vM_6.2.1 2)) hx hb hK hP 2 0 rfl rfl h10 dX8_readsTest_41 ?_
          refine lv_icmp_ge (tgt := 96) hx hb dX8_readsTest_42 (by decide) (fun c11 => ?_) (fun c11 => ?_)
          · have hf := it_t hf c11
            refine lv_aload_n hx hb dX8_readsTest_96 rfl (lv_at hl 0 rfl) ?_
            refine va_get (D := g.1) (ci := 8) (fs := fcM bM vM_6) (v := .ref (bM 3)) (C := RX8) (T := TX8) (N := 23) hx hb htu hinX8 hown hK hP 0 rfl rfl 2 (by decide) k_5_74 (fun _ h9 => h9) rfl dX8_readsTest_97 ?_
            refine lv_iconst (v := (4 : Int32)) hx hb dX8_readsTest_100 (by decide) ?_
            refine lv_dup2_11 hx hb dX8_readsTest_101 rfl rfl ?_
            obtain ⟨h12, hf⟩ := gd_in hf
            refine va_iald (D := g.1) (f := (vM_6.2.1 2)) hx hb hK hP 2 0 rfl rfl h12 dX8_readsTest_102 ?_
            refine lv_iconst (v := (1 : Int32)) hx hb dX8_readsTest_103 (by decide) ?_
            refine lv_iadd hx hb dX8_readsTest_104 ?_
            obtain ⟨h13, hf⟩ := gd_in hf
            refine va_iast (D := g.1) (f := (vM_6.2.1 2)) hx hb hK hP hD hS 2 0 rfl rfl h13 dX8_readsTest_105 (fun H locs hP hD hS => ?_)
            obtain ⟨vM_14, evM_14⟩ : ∃ z, z = sI vM_6 2 ((4 : Int32)).toNatClampNeg ((vM_6.2.1 2 ((4 : Int32)).toNatClampNeg) + (1 : Int32)) := ⟨_, rfl⟩
            have hf := bn_at hf evM_14
            have hP : va_P g.1 vwCl (cM g bM vM_14) H := by rw [evM_14]; exact hP
            have hD : va_D A (cM g bM vM_14) := by rw [evM_14]; exact hD
            refine lv_iconst (v := (1 : Int32)) hx hb dX8_readsTest_106 (by decide) ?_
            obtain ⟨h15, hf⟩ := gd_isB hf
            obtain ⟨e16, e17⟩ := kp_2 hf
            rw [e17] at hP hD
            exact k_zret hx hb hr hlocks hK hP hD hS e16 h15 dX8_readsTest_107
          · have hf := it_f hf c11
            refine lv_aload_n hx hb dX8_readsTest_45 rfl (lv_at hl 0 rfl) ?_
            refine va_ldcS hx hb hown (hG.1.1 _ (List.mem_of_getElem? (i := 37) rfl)) dX8_readsTest_46 ?_
            obtain ⟨r18, vM_19, hg20, hf⟩ := o2_at hf
            refine k_viW ⟨hx, hb, hml, hown, htu⟩ hK hP hD hS hA hG (c_X8_takes l g bM vM_6 23 (by decide) r18 vM_19 hg20) (cwV 1 htu (gU_V mw_5_175 hcX8_takes) rfl rfl rfl hdX8_takes ⟨Nat.le_of_ble_eq_true rfl, Nat.le_of_ble_eq_true rfl⟩) (q0 := 0) (ci := 8) (fs := fcM bM vM_6) (q := (RX8, TX8, 23)) rfl rfl rfl (As := [.ref (adK g 23)]) (rest := []) rfl rfl hl.1 (Nat.le_of_ble_eq_true rfl) dX8_readsTest_48 (k1 := 0) (n1 := 0) rfl rfl ⟨Nat.le_refl _, Nat.le_refl _⟩ (fun H locs hP hD hS => ?_)
            refine lv_istore (lv' := [(4, .int r18), (0, .ref (bM 0)), (2, .int y4), (3, .int x3_5)]) hx hb dX8_readsTest_51 hl (by decide) rfl (fun ls hl => ?_)
            refine lv_iload hx hb dX8_readsTest_53 (lv_at hl 0 rfl) ?_
            obtain ⟨k22, hk31, hf⟩ := jn_at hf
            have hJ23 : ∀ (vM_21 : Vs), k22 vM_21 = some (r, vM1) → ∀ (H : Heap) (locs : List Loc), va_P g.1 vwCl (cM g bM vM_21) H → va_D A (cM g bM vM_21) → va_S A s.heap H locs → ∀ ls : Array Slot, lv_has ls 5 [(0, .ref (bM 0)), (2, .int y4), (3, .int x3_5), (4, .int r18)] → W p l e (headSpec wsX8_readsTest rmX8_readsTest).room s m ([.ref (bM 0), .int x1] : List Value).toArray below meth c H locs 0 0 (MQ below (qI g A (cM g bM vM1) r) ([.ref (bM 0), .int x1] : List Value).toArray s 0 0 A) (F0 m 69 ls []) := by
              intro vM_21 hf H locs hP hD hS ls hl
              rw [hk31] at hf
              dsimp only at hf
              clear hk31
              refine lv_aload_n hx hb dX8_readsTest_69 rfl (lv_at hl 0 rfl) ?_
              refine va_get (D := g.1) (ci := 8) (fs := fcM bM vM_21) (v := .ref (bM 3)) (C := RX8) (T := TX8) (N := 23) hx hb htu hinX8 hown hK hP 0 rfl rfl 2 (by decide) k_5_74 (fun _ h9 => h9) rfl dX8_readsTest_70 ?_
              refine lv_iload_n hx hb dX8_readsTest_73 rfl (lv_at hl 1 rfl) ?_
              refine lv_iload_n hx hb dX8_readsTest_74 rfl (lv_at hl 2 rfl) ?_
              refine lv_iadd hx hb dX8_readsTest_75 ?_
              refine lv_iload hx hb dX8_readsTest_76 (lv_at hl 3 rfl) ?_
              obtain ⟨k25, hk29, hf⟩ := jn_at hf
              have hJ26 : ∀ (t24 : Int32), k25 t24 = some (r, vM1) → ∀ (H : Heap) (locs : List Loc), va_P g.1 vwCl (cM g bM vM_21) H → va_D A (cM g bM vM_21) → va_S A s.heap H locs → ∀ ls : Array Slot, lv_has ls 5 [(0, .ref (bM 0)), (2, .int y4), (3, .int x3_5)] → W p l e (headSpec wsX8_readsTest rmX8_readsTest).room s m ([.ref (bM 0), .int x1] : List Value).toArray below meth c H locs 0 0 (MQ below (qI g A (cM g bM vM1) r) ([.ref (bM 0), .int x1] : List Value).toArray s 0 0 A) (F0 m 89 ls [.int t24, .int (y4 + x3_5), .ref (bM 3)]) := by
                intro t24 hf H locs hP hD hS ls hl
                rw [hk29] at hf
                dsimp only at hf
                clear hk29
                obtain ⟨h27, hf⟩ := gd_in hf
                refine va_iast (D := g.1) (f := (vM_21.2.1 2)) hx hb hK hP hD hS 2 0 rfl rfl h27 dX8_readsTest_89 (fun H locs hP hD hS => ?_)
                obtain ⟨vM_28, evM_28⟩ : ∃ z, z = sI vM_21 2 ((y4 + x3_5)).toNatClampNeg t24 := ⟨_, rfl⟩
                have hf := bn_at hf evM_28
                have hP : va_P g.1 vwCl (cM g bM vM_28) H := by rw [evM_28]; exact hP
                have hD : va_D A (cM g bM vM_28) := by rw [evM_28]; exact hD
                refine lv_iinc (v := (x3_5 + (1 : Int32))) (lv' := [(3, .int (x3_5 + (1 : Int32))), (0, .ref (bM 0)), (2, .int y4)]) hx hb dX8_readsTest_90 hl (k := 2) rfl rfl (by decide) rfl (fun ls hl => ?_)
                refine lv_goto (tgt := 35) hx hb dX8_readsTest_93 (by decide) ?_
                exact ih9 (x3_5 + (1 : Int32)) vM_28 hf H locs hP hD hS _ (lv_sub hl [1, 2, 0] rfl)
              refine lv_if_eq (tgt := 85) hx hb dX8_readsTest_78 (by decide) (fun c30 => ?_) (fun c30 => ?_)
              · have hf := it_t hf c30
                refine lv_aload_n hx hb dX8_readsTest_85 rfl (lv_at hl 0 rfl) ?_
                refine va_get (D := g.1) (ci := 8) (fs := fcM bM vM_21) (v := .int (vM_21.1 17)) (C := RX8) (T := TX8) (N := 23) hx hb htu hinX8 hown hK hP 0 rfl rfl 17 (by decide) k_5_89 (fun _ h9 => h9) rfl dX8_readsTest_86 ?_
                exact hJ26 (vM_21.1 17) hf H locs hP hD hS _ (lv_sub hl [0, 1, 2] rfl)
              · have hf := it_f hf c30
                refine lv_iconst (v := (2 : Int32)) hx hb dX8_readsTest_81 (by decide) ?_
                refine lv_goto (tgt := 89) hx hb dX8_readsTest_82 (by decide) ?_
                exact hJ26 (2 : Int32) hf H locs hP hD hS _ (lv_sub hl [0, 1, 2] rfl)
            refine lv_if_ne (tgt := 69) hx hb dX8_readsTest_55 (by decide) (fun c32 => ?_) (fun c32 => ?_)
            · have hf := it_f hf c32
              exact hJ23 vM_19 hf H locs hP hD hS _ (lv_sub hl [1, 2, 3, 0] rfl)
            · have hf := it_t hf c32
              refine lv_aload_n hx hb dX8_readsTest_58 rfl (lv_at hl 1 rfl) ?_
              refine lv_iconst (v := (0 : Int32)) hx hb dX8_readsTest_59 (by decide) ?_
              refine lv_iconst (v := (1 : Int32)) hx hb dX8_readsTest_60 (by decide) ?_
              obtain ⟨r33, vM_34, hg35, hf⟩ := o2_at hf
              refine k_viW ⟨hx, hb, hml, hown, htu⟩ hK hP hD hS hA hG (c_X8_reads l g bM vM_19 (0 : Int32) (1 : Int32) r33 vM_34 hg35) (cwV 2 htu (gU_V mw_5_192 hcX8_reads) rfl rfl rfl hdX8_reads ⟨Nat.le_of_ble_eq_true rfl, Nat.le_of_ble_eq_true rfl⟩) (q0 := 0) (ci := 8) (fs := fcM bM vM_19) (q := (RX8, TX8, 23)) rfl rfl rfl (As := [.int (0 : Int32), .int (1 : Int32)]) (rest := []) rfl rfl hl.1 (Nat.le_of_ble_eq_true rfl) dX8_readsTest_61 (k1 := 0) (n1 := 0) rfl rfl ⟨Nat.le_refl _, Nat.le_refl _⟩ (fun H locs hP hD hS => ?_)
              refine lv_if_ne (tgt := 69) hx hb dX8_readsTest_64 (by decide) (fun c36 => ?_) (fun c36 => ?_)
              · have hf := it_f hf c36
                exact hJ23 vM_34 hf H locs hP hD hS _ (lv_sub hl [1, 2, 3, 0] rfl)
              · have hf := it_t hf c36
                refine lv_iconst (v := (0 : Int32)) hx hb dX8_readsTest_67 (by decide) ?_
                obtain ⟨h37, hf⟩ := gd_isB hf
                obtain ⟨e38, e39⟩ := kp_2 hf
                rw [e39] at hP hD
                exact k_zret hx hb hr hlocks hK hP hD hS e38 h37 dX8_readsTest_68
      exact hL8 (0 : Int32) vM hf H locs hP hD hS _ (lv_sub hl [2, 1, 0] rfl)
    · have hf := it_t hf c2
      refine lv_aload_n hx hb dX8_readsTest_11 rfl (lv_at hl 0 rfl) ?_
      refine lv_bipush (v := (-6 : Int32)) hx hb dX8_readsTest_12 (by decide) ?_
      refine lv_iload_n hx hb dX8_readsTest_14 rfl (lv_at hl 1 rfl) ?_
      obtain ⟨r40, vM_41, hg42, hf⟩ := o2_at hf
      refine k_viW ⟨hx, hb, hml, hown, htu⟩ hK hP hD hS hA hG (c_X8_fails l g bM vM (-6 : Int32) x1 r40 vM_41 hg42) (cwV 2 htu (gU_V mw_5_188 hcX8_fails) rfl rfl rfl hdX8_fails ⟨Nat.le_of_ble_eq_true rfl, Nat.le_of_ble_eq_true rfl⟩) (q0 := 0) (ci := 8) (fs := fcM bM vM) (q := (RX8, TX8, 23)) rfl rfl rfl (As := [.int (-6 : Int32), .int x1]) (rest := []) rfl rfl hl.1 (Nat.le_of_ble_eq_true rfl) dX8_readsTest_15 (k1 := 0) (n1 := 0) rfl rfl ⟨Nat.le_refl _, Nat.le_refl _⟩ (fun H locs hP hD hS => ?_)
      obtain ⟨h43, hf⟩ := gd_isB hf
      obtain ⟨e44, e45⟩ := kp_2 hf
      rw [e45] at hP hD
      exact k_zret hx hb hr hlocks hK hP hD hS e44 h43 dX8_readsTest_18
  rw [hH, hlo] at hW
  exact hW
def f_X8_readsLine (vM : Vs) : Option (Int32 × Vs) :=
  o2 (f_X8_takes vM 6) (fun (r1 : Int32) (vM_2 : Vs) => jn (fun (t4 : Int32) (vM_5 : Vs) => jn (fun (t8 : Int32) (vM_9 : Vs) => gd (isB t8) (some (t8, vM_9))) (fun k10 => jn (fun (vM_16 : Vs) => k10 (0 : Int32) vM_16) (fun k17 => if t4 = 0 then k17 vM_5 else o2 (f_X8_sign vM_5 (59 : Int32)) (fun (r21 : Int32) (vM_22 : Vs) => if r21 = 0 then k17 vM_22 else k10 (1 : Int32) vM_22)))) (fun k6 => if r1 = 0 then o2 (f_X8_takes vM_2 17) (fun (r27 : Int32) (vM_28 : Vs) => if r27 = 0 then o2 (f_X8_takes vM_28 2) (fun (r31 : Int32) (vM_32 : Vs) => if r31 = 0 then o2 (f_X8_takes vM_32 19) (fun (r35 : Int32) (vM_36 : Vs) => if r35 = 0 then o2 (f_X8_fails vM_36 (-2 : Int32) (vM_36.1 14)) (fun (r39 : Int32) (vM_40 : Vs) => k6 r39 vM_40) else o2 (f_X8_readsTest vM_36 (vM.1 14)) (fun (r42 : Int32) (vM_43 : Vs) => k6 r42 vM_43)) else o2 (f_X8_readsBridge vM_32 (vM.1 14)) (fun (r45 : Int32) (vM_46 : Vs) => k6 r45 vM_46)) else o2 (f_X8_readsOutputs vM_28) (fun (r48 : Int32) (vM_49 : Vs) => k6 r48 vM_49)) else o2 (f_X8_readsGate vM_2 (vM.1 14)) (fun (r51 : Int32) (vM_52 : Vs) => k6 r51 vM_52)))
abbrev wsX8_readsLine : List Cond := .code yX8_readsLine cX8_readsLine 3 (some .boolean) :: UW
abbrev rmX8_readsLine : Room := { frames := 7, cells := 0, slots := 0, locals := 152 }
set_option maxHeartbeats 4000000 in
set_option maxRecDepth 100000 in
theorem c_X8_readsLine (l : Launch) (g : Gx) (bM : Nat → Nat) (vM : Vs) (r : Int32) (vM1 : Vs) (hf : f_X8_readsLine vM = some (r, vM1)) : CtI l yX8_readsLine wsX8_readsLine rmX8_readsLine g [.ref (bM 0)] (cM g bM vM) (cM g bM vM1) r 0 0 := by
  unfold CtI
  intro sz
  refine Met.ofW (cc := cX8_readsLine) (maxL := 3) (ret := (some .boolean)) (by decide) rfl ?_
  intro p e s m args below meth c s₁ B hml hv
  obtain ⟨rfl, hsz, hP, hK, hD0, hG⟩ := hv
  have hx := B.exec
  have hb := B.bytes
  have hr := B.returns
  have hts := atoms_spec (ws := wsX8_readsLine) B.pre
  have hown : s.vm.findClass RX8 = some m.cls := findClass_of_methodNamed B.named
  have hlocks := B.notSynchronized
  subst hsz
  have hD := hD0.self (sz := s.heap.size)
  generalize hAe : va_A (cM g bM vM) s.heap.size = A at hD hG ⊢
  have hA : ∀ q : Nat, s.heap.size ≤ q → A q := fun q h => by rw [← hAe]; exact Or.inr h
  clear hAe hD0
  have hS : va_S A s.heap s.heap [] := va_S.rf
  have hl := lv_entry ([.ref (bM 0)]) (n := 3) (Nat.le_of_ble_eq_true rfl)
  rw [lg_entry_eq]
  generalize (lg_sl ([.ref (bM 0)]) ++ List.replicate (3 - (lg_sl ([.ref (bM 0)])).length) Slot.unset).toArray = ls at hl ⊢
  have hl : lv_has ls 3 [(0, .ref (bM 0))] := hl
  have htu : ∀ w ∈ UW, w.before _ s = true := fun w h => hts w (List.mem_cons_of_mem _ h)
  have k_5_86 := htu _ mw_5_86
  unfold f_X8_readsLine at hf
  obtain ⟨H, hH⟩ : ∃ z, z = s.heap := ⟨_, rfl⟩
  obtain ⟨locs, hlo⟩ : ∃ z : List Loc, z = [] := ⟨_, rfl⟩
  have hS : va_S A s.heap H locs := by rw [hH, hlo]; exact hS
  rw [← hH] at hP
  have hW : W p l e (headSpec wsX8_readsLine rmX8_readsLine).room s m ([.ref (bM 0)] : List Value).toArray below meth c H locs 0 0 (MQ below (qI g A (cM g bM vM1) r) ([.ref (bM 0)] : List Value).toArray s 0 0 A) (F0 m 0 ls []) := by
    refine lv_aload_n hx hb dX8_readsLine_0 rfl (lv_at hl 0 rfl) ?_
    refine va_get (D := g.1) (ci := 8) (fs := fcM bM vM) (v := .int (vM.1 14)) (C := RX8) (T := TX8) (N := 23) hx hb htu hinX8 hown hK hP 0 rfl rfl 14 (by decide) k_5_86 (fun _ h9 => h9) rfl dX8_readsLine_1 ?_
    refine lv_istore_n (lv' := [(1, .int (vM.1 14)), (0, .ref (bM 0))]) hx hb dX8_readsLine_4 rfl hl (by decide) rfl (fun ls hl => ?_)
    refine lv_aload_n hx hb dX8_readsLine_5 rfl (lv_at hl 1 rfl) ?_
    refine va_ldcS hx hb hown (hG.1.1 _ (List.mem_of_getElem? (i := 38) rfl)) dX8_readsLine_6 ?_
    obtain ⟨r1, vM_2, hg3, hf⟩ := o2_at hf
    refine k_viW ⟨hx, hb, hml, hown, htu⟩ hK hP hD hS hA hG (c_X8_takes l g bM vM 6 (by decide) r1 vM_2 hg3) (cwV 1 htu (gU_V mw_5_175 hcX8_takes) rfl rfl rfl hdX8_takes ⟨Nat.le_of_ble_eq_true rfl, Nat.le_of_ble_eq_true rfl⟩) (q0 := 0) (ci := 8) (fs := fcM bM vM) (q := (RX8, TX8, 23)) rfl rfl rfl (As := [.ref (adK g 6)]) (rest := []) rfl rfl hl.1 (Nat.le_of_ble_eq_true rfl) dX8_readsLine_8 (k1 := 0) (n1 := 0) rfl rfl ⟨Nat.le_refl _, Nat.le_refl _⟩ (fun H locs hP hD hS => ?_)
    obtain ⟨k6, hk25, hf⟩ := jn_at hf
    have hJ7 : ∀ (t4 : Int32) (vM_5 : Vs), k6 t4 vM_5 = some (r, vM1) → ∀ (H : Heap) (locs : List Loc), va_P g.1 vwCl (cM g bM vM_5) H → va_D A (cM g bM vM_5) → va_S A s.heap H locs → ∀ ls : Array Slot, lv_has ls 3 [(0, .ref (bM 0))] → W p l e (headSpec wsX8_readsLine rmX8_readsLine).room s m ([.ref (bM 0)] : List Value).toArray below meth c H locs 0 0 (MQ below (qI g A (cM g bM vM1) r) ([.ref (bM 0)] : List Value).toArray s 0 0 A) (F0 m 82 ls [.int t4]) := by
      intro t4 vM_5 hf H locs hP hD hS ls hl
      rw [hk25] at hf
      dsimp only at hf
      clear hk25
      refine lv_istore_n (lv' := [(2, .int t4), (0, .ref (bM 0))]) hx hb dX8_readsLine_82 rfl hl (by decide) rfl (fun ls hl => ?_)
      refine lv_iload_n hx hb dX8_readsLine_83 rfl (lv_at hl 0 rfl) ?_
      obtain ⟨k10, hk15, hf⟩ := jn_at hf
      have hJ11 : ∀ (t8 : Int32) (vM_9 : Vs), k10 t8 vM_9 = some (r, vM1) → ∀ (H : Heap) (locs : List Loc), va_P g.1 vwCl (cM g bM vM_9) H → va_D A (cM g bM vM_9) → va_S A s.heap H locs → ∀ ls : Array Slot, lv_has ls 3 [] → W p l e (headSpec wsX8_readsLine rmX8_readsLine).room s m ([.ref (bM 0)] : List Value).toArray below meth c H locs 0 0 (MQ below (qI g A (cM g bM vM1) r) ([.ref (bM 0)] : List Value).toArray s 0 0 A) (F0 m 101 ls [.int t8]) := by
        intro t8 vM_9 hf H locs hP hD hS ls hl
        rw [hk15] at hf
        dsimp only at hf
        clear hk15
        obtain ⟨h12, hf⟩ := gd_isB hf
        obtain ⟨e13, e14⟩ := kp_2 hf
        rw [e14] at hP hD
        exact k_zret hx hb hr hlocks hK hP hD hS e13 h12 dX8_readsLine_101
      obtain ⟨k17, hk19, hf⟩ := jn_at hf
      have hJ18 : ∀ (vM_16 : Vs), k17 vM_16 = some (r, vM1) → ∀ (H : Heap) (locs : List Loc), va_P g.1 vwCl (cM g bM vM_16) H → va_D A (cM g bM vM_16) → va_S A s.heap H locs → ∀ ls : Array Slot, lv_has ls 3 [] → W p l e (headSpec wsX8_readsLine rmX8_readsLine).room s m ([.ref (bM 0)] : List Value).toArray below meth c H locs 0 0 (MQ below (qI g A (cM g bM vM1) r) ([.ref (bM 0)] : List Value).toArray s 0 0 A) (F0 m 100 ls []) := by
        intro vM_16 hf H locs hP hD hS ls hl
        rw [hk19] at hf
        dsimp only at hf
        clear hk19
        refine lv_iconst (v := (0 : Int32)) hx hb dX8_readsLine_100 (by decide) ?_
        exact hJ11 (0 : Int32) vM_16 hf H locs hP hD hS _ (lv_sub hl [] rfl)
      refine lv_if_eq (tgt := 100) hx hb dX8_readsLine_84 (by decide) (fun c20 => ?_) (fun c20 => ?_)
      · have hf := it_t hf c20
        exact hJ18 vM_5 hf H locs hP hD hS _ (lv_sub hl [] rfl)
      · have hf := it_f hf c20
        refine lv_aload_n hx hb dX8_readsLine_87 rfl (lv_at hl 1 rfl) ?_
        refine lv_bipush (v := (59 : Int32)) hx hb dX8_readsLine_88 (by decide) ?_
        obtain ⟨r21, vM_22, hg23, hf⟩ := o2_at hf
        refine k_viW ⟨hx, hb, hml, hown, htu⟩ hK hP hD hS hA hG (c_X8_sign l g bM vM_5 (59 : Int32) r21 vM_22 hg23) (cwV 1 htu (gU_V mw_5_200 hcX8_sign) rfl rfl rfl hdX8_sign ⟨Nat.le_of_ble_eq_true rfl, Nat.le_of_ble_eq_true rfl⟩) (q0 := 0) (ci := 8) (fs := fcM bM vM_5) (q := (RX8, TX8, 23)) rfl rfl rfl (As := [.int (59 : Int32)]) (rest := []) rfl rfl hl.1 (Nat.le_of_ble_eq_true rfl) dX8_readsLine_90 (k1 := 0) (n1 := 0) rfl rfl ⟨Nat.le_refl _, Nat.le_refl _⟩ (fun H locs hP hD hS => ?_)
        refine lv_if_eq (tgt := 100) hx hb dX8_readsLine_93 (by decide) (fun c24 => ?_) (fun c24 => ?_)
        · have hf := it_t hf c24
          exact hJ18 vM_22 hf H locs hP hD hS _ (lv_sub hl [] rfl)
        · have hf := it_f hf c24
          refine lv_iconst (v := (1 : Int32)) hx hb dX8_readsLine_96 (by decide) ?_
          refine lv_goto (tgt := 101) hx hb dX8_readsLine_97 (by decide) ?_
          exact hJ11 (1 : Int32) vM_22 hf H locs hP hD hS _ (lv_sub hl [] rfl)
    refine lv_if_eq (tgt := 22) hx hb dX8_readsLine_11 (by decide) (fun c26 => ?_) (fun c26 => ?_)
    · have hf := it_t hf c26
      refine lv_aload_n hx hb dX8_readsLine_22 rfl (lv_at hl 1 rfl) ?_
      refine va_ldcS hx hb hown (hG.1.1 _ (List.mem_of_getElem? (i := 39) rfl)) dX8_readsLine_23 ?_
      obtain ⟨r27, vM_28, hg29, hf⟩ := o2_at hf
      refine k_viW ⟨hx, hb, hml, hown, htu⟩ hK hP hD hS hA hG (c_X8_takes l g bM vM_2 17 (by decide) r27 vM_28 hg29) (cwV 1 htu (gU_V mw_5_175 hcX8_takes) rfl rfl rfl hdX8_takes ⟨Nat.le_of_ble_eq_true rfl, Nat.le_of_ble_eq_true rfl⟩) (q0 := 0) (ci := 8) (fs := fcM bM vM_2) (q := (RX8, TX8, 23)) rfl rfl rfl (As := [.ref (adK g 17)]) (rest := []) rfl rfl hl.1 (Nat.le_of_ble_eq_true rfl) dX8_readsLine_25 (k1 := 0) (n1 := 0) rfl rfl ⟨Nat.le_refl _, Nat.le_refl _⟩ (fun H locs hP hD hS => ?_)
      refine lv_if_eq (tgt := 38) hx hb dX8_readsLine_28 (by decide) (fun c30 => ?_) (fun c30 => ?_)
      · have hf := it_t hf c30
        refine lv_aload_n hx hb dX8_readsLine_38 rfl (lv_at hl 1 rfl) ?_
        refine va_ldcS hx hb hown (hG.1.1 _ (List.mem_of_getElem? (i := 40) rfl)) dX8_readsLine_39 ?_
        obtain ⟨r31, vM_32, hg33, hf⟩ := o2_at hf
        refine k_viW ⟨hx, hb, hml, hown, htu⟩ hK hP hD hS hA hG (c_X8_takes l g bM vM_28 2 (by decide) r31 vM_32 hg33) (cwV 1 htu (gU_V mw_5_175 hcX8_takes) rfl rfl rfl hdX8_takes ⟨Nat.le_of_ble_eq_true rfl, Nat.le_of_ble_eq_true rfl⟩) (q0 := 0) (ci := 8) (fs := fcM bM vM_28) (q := (RX8, TX8, 23)) rfl rfl rfl (As := [.ref (adK g 2)]) (rest := []) rfl rfl hl.1 (Nat.le_of_ble_eq_true rfl) dX8_readsLine_41 (k1 := 0) (n1 := 0) rfl rfl ⟨Nat.le_refl _, Nat.le_refl _⟩ (fun H locs hP hD hS => ?_)
        refine lv_if_eq (tgt := 55) hx hb dX8_readsLine_44 (by decide) (fun c34 => ?_) (fun c34 => ?_)
        · have hf := it_t hf c34
          refine lv_aload_n hx hb dX8_readsLine_55 rfl (lv_at hl 1 rfl) ?_
          refine va_ldcS hx hb hown (hG.1.1 _ (List.mem_of_getElem? (i := 41) rfl)) dX8_readsLine_56 ?_
          obtain ⟨r35, vM_36, hg37, hf⟩ := o2_at hf
          refine k_viW ⟨hx, hb, hml, hown, htu⟩ hK hP hD hS hA hG (c_X8_takes l g bM vM_32 19 (by decide) r35 vM_36 hg37) (cwV 1 htu (gU_V mw_5_175 hcX8_takes) rfl rfl rfl hdX8_takes ⟨Nat.le_of_ble_eq_true rfl, Nat.le_of_ble_eq_true rfl⟩) (q0 := 0) (ci := 8) (fs := fcM bM vM_32) (q := (RX8, TX8, 23)) rfl rfl rfl (As := [.ref (adK g 19)]) (rest := []) rfl rfl hl.1 (Nat.le_of_ble_eq_true rfl) dX8_readsLine_58 (k1 := 0) (n1 := 0) rfl rfl ⟨Nat.le_refl _, Nat.le_refl _⟩ (fun H locs hP hD hS => ?_)
          refine lv_if_eq (tgt := 72) hx hb dX8_readsLine_61 (by decide) (fun c38 => ?_) (fun c38 => ?_)
          · have hf := it_t hf c38
            refine lv_aload_n hx hb dX8_readsLine_72 rfl (lv_at hl 1 rfl) ?_
            refine lv_bipush (v := (-2 : Int32)) hx hb dX8_readsLine_73 (by decide) ?_
            refine lv_aload_n hx hb dX8_readsLine_75 rfl (lv_at hl 1 rfl) ?_
            refine va_get (D := g.1) (ci := 8) (fs := fcM bM vM_36) (v := .int (vM_36.1 14)) (C := RX8) (T := TX8) (N := 23) hx hb htu hinX8 hown hK hP 0 rfl rfl 14 (by decide) k_5_86 (fun _ h9 => h9) rfl dX8_readsLine_76 ?_
            obtain ⟨r39, vM_40, hg41, hf⟩ := o2_at hf
            refine k_viW ⟨hx, hb, hml, hown, htu⟩ hK hP hD hS hA hG (c_X8_fails l g bM vM_36 (-2 : Int32) (vM_36.1 14) r39 vM_40 hg41) (cwV 2 htu (gU_V mw_5_188 hcX8_fails) rfl rfl rfl hdX8_fails ⟨Nat.le_of_ble_eq_true rfl, Nat.le_of_ble_eq_true rfl⟩) (q0 := 0) (ci := 8) (fs := fcM bM vM_36) (q := (RX8, TX8, 23)) rfl rfl rfl (As := [.int (-2 : Int32), .int (vM_36.1 14)]) (rest := []) rfl rfl hl.1 (Nat.le_of_ble_eq_true rfl) dX8_readsLine_79 (k1 := 0) (n1 := 0) rfl rfl ⟨Nat.le_refl _, Nat.le_refl _⟩ (fun H locs hP hD hS => ?_)
            exact hJ7 r39 vM_40 hf H locs hP hD hS _ (lv_sub hl [1] rfl)
          · have hf := it_f hf c38
            refine lv_aload_n hx hb dX8_readsLine_64 rfl (lv_at hl 1 rfl) ?_
            refine lv_iload_n hx hb dX8_readsLine_65 rfl (lv_at hl 0 rfl) ?_
            obtain ⟨r42, vM_43, hg44, hf⟩ := o2_at hf
            refine k_viW ⟨hx, hb, hml, hown, htu⟩ hK hP hD hS hA hG (c_X8_readsTest l g bM vM_36 (vM.1 14) r42 vM_43 hg44) (cwV 1 htu (gU_V mw_6_11 hcX8_readsTest) rfl rfl rfl hdX8_readsTest ⟨Nat.le_of_ble_eq_true rfl, Nat.le_of_ble_eq_true rfl⟩) (q0 := 0) (ci := 8) (fs := fcM bM vM_36) (q := (RX8, TX8, 23)) rfl rfl rfl (As := [.int (vM.1 14)]) (rest := []) rfl rfl hl.1 (Nat.le_of_ble_eq_true rfl) dX8_readsLine_66 (k1 := 0) (n1 := 0) rfl rfl ⟨Nat.le_refl _, Nat.le_refl _⟩ (fun H locs hP hD hS => ?_)
            refine lv_goto (tgt := 82) hx hb dX8_readsLine_69 (by decide) ?_
            exact hJ7 r42 vM_43 hf H locs hP hD hS _ (lv_sub hl [1] rfl)
        · have hf := it_f hf c34
          refine lv_aload_n hx hb dX8_readsLine_47 rfl (lv_at hl 1 rfl) ?_
          refine lv_iload_n hx hb dX8_readsLine_48 rfl (lv_at hl 0 rfl) ?_
          obtain ⟨r45, vM_46, hg47, hf⟩ := o2_at hf
          refine k_viW ⟨hx, hb, hml, hown, htu⟩ hK hP hD hS hA hG (c_X8_readsBridge l g bM vM_32 (vM.1 14) r45 vM_46 hg47) (cwV 1 htu (gU_V mw_6_2 hcX8_readsBridge) rfl rfl rfl hdX8_readsBridge ⟨Nat.le_of_ble_eq_true rfl, Nat.le_of_ble_eq_true rfl⟩) (q0 := 0) (ci := 8) (fs := fcM bM vM_32) (q := (RX8, TX8, 23)) rfl rfl rfl (As := [.int (vM.1 14)]) (rest := []) rfl rfl hl.1 (Nat.le_of_ble_eq_true rfl) dX8_readsLine_49 (k1 := 0) (n1 := 0) rfl rfl ⟨Nat.le_refl _, Nat.le_refl _⟩ (fun H locs hP hD hS => ?_)
          refine lv_goto (tgt := 82) hx hb dX8_readsLine_52 (by decide) ?_
          exact hJ7 r45 vM_46 hf H locs hP hD hS _ (lv_sub hl [1] rfl)
      · have hf := it_f hf c30
        refine lv_aload_n hx hb dX8_readsLine_31 rfl (lv_at hl 1 rfl) ?_
        obtain ⟨r48, vM_49, hg50, hf⟩ := o2_at hf
        refine k_viW ⟨hx, hb, hml, hown, htu⟩ hK hP hD hS hA hG (c_X8_readsOutputs l g bM vM_28 r48 vM_49 hg50) (cwV 0 htu (gU_V mw_5_237 hcX8_readsOutputs) rfl rfl rfl hdX8_readsOutputs ⟨Nat.le_of_ble_eq_true rfl, Nat.le_of_ble_eq_true rfl⟩) (q0 := 0) (ci := 8) (fs := fcM bM vM_28) (q := (RX8, TX8, 23)) rfl rfl rfl (As := []) (rest := []) rfl rfl hl.1 (Nat.le_of_ble_eq_true rfl) dX8_readsLine_32 (k1 := 0) (n1 := 0) rfl rfl ⟨Nat.le_refl _, Nat.le_refl _⟩ (fun H locs hP hD hS => ?_)
        refine lv_goto (tgt := 82) hx hb dX8_readsLine_35 (by decide) ?_
        exact hJ7 r48 vM_49 hf H locs hP hD hS _ (lv_sub hl [1] rfl)
    · have hf := it_f hf c26
      refine lv_aload_n hx hb dX8_readsLine_14 rfl (lv_at hl 1 rfl) ?_
      refine lv_iload_n hx hb dX8_readsLine_15 rfl (lv_at hl 0 rfl) ?_
      obtain ⟨r51, vM_52, hg53, hf⟩ := o2_at hf
      refine k_viW ⟨hx, hb, hml, hown, htu⟩ hK hP hD hS hA hG (c_X8_readsGate l g bM vM_2 (vM.1 14) r51 vM_52 hg53) (cwV 1 htu (gU_V mw_5_209 hcX8_readsGate) rfl rfl rfl hdX8_readsGate ⟨Nat.le_of_ble_eq_true rfl, Nat.le_of_ble_eq_true rfl⟩) (q0 := 0) (ci := 8) (fs := fcM bM vM_2) (q := (RX8, TX8, 23)) rfl rfl rfl (As := [.int (vM.1 14)]) (rest := []) rfl rfl hl.1 (Nat.le_of_ble_eq_true rfl) dX8_readsLine_16 (k1 := 0) (n1 := 0) rfl rfl ⟨Nat.le_refl _, Nat.le_refl _⟩ (fun H locs hP hD hS => ?_)
      refine lv_goto (tgt := 82) hx hb dX8_readsLine_19 (by decide) ?_
      exact hJ7 r51 vM_52 hf H locs hP hD hS _ (lv_sub hl [1] rfl)
  rw [hH, hlo] at hW
  exact hW
def f_X8_readsAll_L68 (self19 : Vs → Option (Int32 × Vs)) (vM_18 : Vs) : Option (Int32 × Vs) :=
  o2 (f_X8_here vM_18) (fun (r22 : Int32) (vM_23 : Vs) => if r22 = (-1 : Int32) then gd (isB (1 : Int32)) (some ((1 : Int32), vM_23)) else o2 (f_X8_readsLine vM_23) (fun (r29 : Int32) (vM_30 : Vs) => if r29 = 0 then gd (isB (0 : Int32)) (some ((0 : Int32), vM_30)) else self19 vM_30))
def f_X8_readsAll (vM : Vs) : Option (Int32 × Vs) :=
  o1 (f_X8_plain vM) (fun (vM_1 : Vs) => o2 (f_X8_takes vM_1 4) (fun (r3 : Int32) (vM_4 : Vs) => if r3 = 0 then o2 (f_X8_fails vM_4 (-2 : Int32) (vM_4.1 14)) (fun (r43 : Int32) (vM_44 : Vs) => gd (isB r43) (some (r43, vM_44))) else o2 (f_X8_reads vM_4 (1 : Int32) (8 : Int32)) (fun (r7 : Int32) (vM_8 : Vs) => if r7 = 0 then gd (isB (0 : Int32)) (some ((0 : Int32), vM_8)) else gd (inb (0 : Int32) 440) (bn (sI vM_8 2 ((0 : Int32)).toNatClampNeg (vM_8.1 17)) (fun (vM_12 : Vs) => gd (inb (1 : Int32) 440) (bn (sI vM_12 2 ((1 : Int32)).toNatClampNeg (vM_12.1 17)) (fun (vM_14 : Vs) => o2 (f_X8_sign vM_14 (59 : Int32)) (fun (r15 : Int32) (vM_16 : Vs) => if r15 = 0 then gd (isB (0 : Int32)) (some ((0 : Int32), vM_16)) else lp f_X8_readsAll_L68 (fun _ => none) FU vM_16))))))))
abbrev wsX8_readsAll : List Cond := .code yX8_readsAll cX8_readsAll 1 (some .boolean) :: UW
abbrev rmX8_readsAll : Room := { frames := 8, cells := 0, slots := 0, locals := 174 }
set_option maxHeartbeats 4000000 in
set_option maxRecDepth 100000 in
theorem c_X8_readsAll (l : Launch) (g : Gx) (bM : Nat → Nat) (vM : Vs) (r : Int32) (vM1 : Vs) (hf : f_X8_readsAll vM = some (r, vM1)) : CtI l yX8_readsAll wsX8_readsAll rmX8_readsAll g [.ref (bM 0)] (cM g bM vM) (cM g bM vM1) r 0 0 := by
  unfold CtI
  intro sz
  refine Met.ofW (cc := cX8_readsAll) (maxL := 1) (ret := (some .boolean)) (by decide) rfl ?_
  intro p e s m args below meth c s₁ B hml hv
  obtain ⟨rfl, hsz, hP, hK, hD0, hG⟩ := hv
  have hx := B.exec
  have hb := B.bytes
  have hr := B.returns
  have hts := atoms_spec (ws := wsX8_readsAll) B.pre
  have hown : s.vm.findClass RX8 = some m.cls := findClass_of_methodNamed B.named
  have hlocks := B.notSynchronized
  subst hsz
  have hD := hD0.self (sz := s.heap.size)
  generalize hAe : va_A (cM g bM vM) s.heap.size = A at hD hG ⊢
  have hA : ∀ q : Nat, s.heap.size ≤ q → A q := fun q h => by rw [← hAe]; exact Or.inr h
  clear hAe hD0
  have hS : va_S A s.heap s.heap [] := va_S.rf
  have hl := lv_entry ([.ref (bM 0)]) (n := 1) (Nat.le_of_ble_eq_true rfl)
  rw [lg_entry_eq]
  generalize (lg_sl ([.ref (bM 0)]) ++ List.replicate (1 - (lg_sl ([.ref (bM 0)])).length) Slot.unset).toArray = ls at hl ⊢
  have hl : lv_has ls 1 [(0, .ref (bM 0))] := hl
  have htu : ∀ w ∈ UW, w.before _ s = true := fun w h => hts w (List.mem_cons_of_mem _ h)
  have k_5_74 := htu _ mw_5_74
  have k_5_89 := htu _ mw_5_89
  have k_5_86 := htu _ mw_5_86
  unfold f_X8_readsAll at hf
  obtain ⟨H, hH⟩ : ∃ z, z = s.heap := ⟨_, rfl⟩
  obtain ⟨locs, hlo⟩ : ∃ z : List Loc, z = [] := ⟨_, rfl⟩
  have hS : va_S A s.heap H locs := by rw [hH, hlo]; exact hS
  rw [← hH] at hP
  have hW : W p l e (headSpec wsX8_readsAll rmX8_readsAll).room s m ([.ref (bM 0)] : List Value).toArray below meth c H locs 0 0 (MQ below (qI g A (cM g bM vM1) r) ([.ref (bM 0)] : List Value).toArray s 0 0 A) (F0 m 0 ls []) := by
    refine lv_aload_n hx hb dX8_readsAll_0 rfl (lv_at hl 0 rfl) ?_
    obtain ⟨vM_1, hg2, hf⟩ := o1_at hf
    refine k_vvW ⟨hx, hb, hml, hown, htu⟩ hK hP hD hS hA hG (c_X8_plain l g bM vM vM_1 hg2) (cwV 0 htu (gU_V mw_5_64 hcX8_plain) rfl rfl rfl hdX8_plain ⟨Nat.le_of_ble_eq_true rfl, Nat.le_of_ble_eq_true rfl⟩) (q0 := 0) (ci := 8) (fs := fcM bM vM) (q := (RX8, TX8, 23)) rfl rfl rfl (As := []) (rest := []) rfl rfl hl.1 (Nat.le_of_ble_eq_true rfl) dX8_readsAll_1 (k1 := 0) (n1 := 0) rfl rfl ⟨Nat.le_refl _, Nat.le_refl _⟩ (fun H locs hP hD hS => ?_)
    refine lv_aload_n hx hb dX8_readsAll_4 rfl (lv_at hl 0 rfl) ?_
    refine k_ldcSw hx hb hown (hG.1.1 _ (List.mem_of_getElem? (i := 42) rfl)) dX8_readsAll_5 ?_
    obtain ⟨r3, vM_4, hg5, hf⟩ := o2_at hf
    refine k_viW ⟨hx, hb, hml, hown, htu⟩ hK hP hD hS hA hG (c_X8_takes l g bM vM_1 4 (by decide) r3 vM_4 hg5) (cwV 1 htu (gU_V mw_5_175 hcX8_takes) rfl rfl rfl hdX8_takes ⟨Nat.le_of_ble_eq_true rfl, Nat.le_of_ble_eq_true rfl⟩) (q0 := 0) (ci := 8) (fs := fcM bM vM_1) (q := (RX8, TX8, 23)) rfl rfl rfl (As := [.ref (adK g 4)]) (rest := []) rfl rfl hl.1 (Nat.le_of_ble_eq_true rfl) dX8_readsAll_8 (k1 := 0) (n1 := 0) rfl rfl ⟨Nat.le_refl _, Nat.le_refl _⟩ (fun H locs hP hD hS => ?_)
    refine lv_if_ne (tgt := 25) hx hb dX8_readsAll_11 (by decide) (fun c6 => ?_) (fun c6 => ?_)
    · have hf := it_f hf c6
      refine lv_aload_n hx hb dX8_readsAll_25 rfl (lv_at hl 0 rfl) ?_
      refine lv_iconst (v := (1 : Int32)) hx hb dX8_readsAll_26 (by decide) ?_
      refine lv_bipush (v := (8 : Int32)) hx hb dX8_readsAll_27 (by decide) ?_
      obtain ⟨r7, vM_8, hg9, hf⟩ := o2_at hf
      refine k_viW ⟨hx, hb, hml, hown, htu⟩ hK hP hD hS hA hG (c_X8_reads l g bM vM_4 (1 : Int32) (8 : Int32) r7 vM_8 hg9) (cwV 2 htu (gU_V mw_5_192 hcX8_reads) rfl rfl rfl hdX8_reads ⟨Nat.le_of_ble_eq_true rfl, Nat.le_of_ble_eq_true rfl⟩) (q0 := 0) (ci := 8) (fs := fcM bM vM_4) (q := (RX8, TX8, 23)) rfl rfl rfl (As := [.int (1 : Int32), .int (8 : Int32)]) (rest := []) rfl rfl hl.1 (Nat.le_of_ble_eq_true rfl) dX8_readsAll_29 (k1 := 0) (n1 := 0) rfl rfl ⟨Nat.le_refl _, Nat.le_refl _⟩ (fun H locs hP hD hS => ?_)
      refine lv_if_ne (tgt := 37) hx hb dX8_readsAll_32 (by decide) (fun c10 => ?_) (fun c10 => ?_)
      · have hf := it_f hf c10
        refine lv_aload_n hx hb dX8_readsAll_37 rfl (lv_at hl 0 rfl) ?_
        refine va_get (D := g.1) (ci := 8) (fs := fcM bM vM_8) (v := .ref (bM 3)) (C := RX8) (T := TX8) (N := 23) hx hb htu hinX8 hown hK hP 0 rfl rfl 2 (by decide) k_5_74 (fun _ h9 => h9) rfl dX8_readsAll_38 ?_
        refine lv_iconst (v := (0 : Int32)) hx hb dX8_readsAll_41 (by decide) ?_
        refine lv_aload_n hx hb dX8_readsAll_42 rfl (lv_at hl 0 rfl) ?_
        refine va_get (D := g.1) (ci := 8) (fs := fcM bM vM_8) (v := .int (vM_8.1 17)) (C := RX8) (T := TX8) (N := 23) hx hb htu hinX8 hown hK hP 0 rfl rfl 17 (by decide) k_5_89 (fun _ h9 => h9) rfl dX8_readsAll_43 ?_
        obtain ⟨h11, hf⟩ := gd_in hf
        refine va_iast (D := g.1) (f := (vM_8.2.1 2)) hx hb hK hP hD hS 2 0 rfl rfl h11 dX8_readsAll_46 (fun H locs hP hD hS => ?_)
        obtain ⟨vM_12, evM_12⟩ : ∃ z, z = sI vM_8 2 ((0 : Int32)).toNatClampNeg (vM_8.1 17) := ⟨_, rfl⟩
        have hf := bn_at hf evM_12
        have hP : va_P g.1 vwCl (cM g bM vM_12) H := by rw [evM_12]; exact hP
        have hD : va_D A (cM g bM vM_12) := by rw [evM_12]; exact hD
        refine lv_aload_n hx hb dX8_readsAll_47 rfl (lv_at hl 0 rfl) ?_
        refine va_get (D := g.1) (ci := 8) (fs := fcM bM vM_12) (v := .ref (bM 3)) (C := RX8) (T := TX8) (N := 23) hx hb htu hinX8 hown hK hP 0 rfl rfl 2 (by decide) k_5_74 (fun _ h9 => h9) rfl dX8_readsAll_48 ?_
        refine lv_iconst (v := (1 : Int32)) hx hb dX8_readsAll_51 (by decide) ?_
        refine lv_aload_n hx hb dX8_readsAll_52 rfl (lv_at hl 0 rfl) ?_
        refine va_get (D := g.1) (ci := 8) (fs := fcM bM vM_12) (v := .int (vM_12.1 17)) (C := RX8) (T := TX8) (N := 23) hx hb htu hinX8 hown hK hP 0 rfl rfl 17 (by decide) k_5_89 (fun _ h9 => h9) rfl dX8_readsAll_53 ?_
        obtain ⟨h13, hf⟩ := gd_in hf
        refine va_iast (D := g.1) (f := (vM_12.2.1 2)) hx hb hK hP hD hS 2 0 rfl rfl h13 dX8_readsAll_56 (fun H locs hP hD hS => ?_)
        obtain ⟨vM_14, evM_14⟩ : ∃ z, z = sI vM_12 2 ((1 : Int32)).toNatClampNeg (vM_12.1 17) := ⟨_, rfl⟩
        have hf := bn_at hf evM_14
        have hP : va_P g.1 vwCl (cM g bM vM_14) H := by rw [evM_14]; exact hP
        have hD : va_D A (cM g bM vM_14) := by rw [evM_14]; exact hD
        refine lv_aload_n hx hb dX8_readsAll_57 rfl (lv_at hl 0 rfl) ?_
        refine lv_bipush (v := (59 : Int32)) hx hb dX8_readsAll_58 (by decide) ?_
        obtain ⟨r15, vM_16, hg17, hf⟩ := o2_at hf
        refine k_viW ⟨hx, hb, hml, hown, htu⟩ hK hP hD hS hA hG (c_X8_sign l g bM vM_14 (59 : Int32) r15 vM_16 hg17) (cwV 1 htu (gU_V mw_5_200 hcX8_sign) rfl rfl rfl hdX8_sign ⟨Nat.le_of_ble_eq_true rfl, Nat.le_of_ble_eq_true rfl⟩) (q0 := 0) (ci := 8) (fs := fcM bM vM_14) (q := (RX8, TX8, 23)) rfl rfl rfl (As := [.int (59 : Int32)]) (rest := []) rfl rfl hl.1 (Nat.le_of_ble_eq_true rfl) dX8_readsAll_60 (k1 := 0) (n1 := 0) rfl rfl ⟨Nat.le_refl _, Nat.le_refl _⟩ (fun H locs hP hD hS => ?_)
        have hL20 : ∀ (vM_18 : Vs), lp f_X8_readsAll_L68 (fun _ => none) FU vM_18 = some (r, vM1) → ∀ (H : Heap) (locs : List Loc), va_P g.1 vwCl (cM g bM vM_18) H → va_D A (cM g bM vM_18) → va_S A s.heap H locs → ∀ ls : Array Slot, lv_has ls 1 [(0, .ref (bM 0))] → W p l e (headSpec wsX8_readsAll rmX8_readsAll).room s m ([.ref (bM 0)] : List Value).toArray below meth c H locs 0 0 (MQ below (qI g A (cM g bM vM1) r) ([.ref (bM 0)] : List Value).toArray s 0 0 A) (F0 m 68 ls []) := by
          refine lp_ind (T := Vs → Option (Int32 × Vs)) (fun self19 => ∀ (vM_18 : Vs), self19 vM_18 = some (r, vM1) → ∀ (H : Heap) (locs : List Loc), va_P g.1 vwCl (cM g bM vM_18) H → va_D A (cM g bM vM_18) → va_S A s.heap H locs → ∀ ls : Array Slot, lv_has ls 1 [(0, .ref (bM 0))] → W p l e (headSpec wsX8_readsAll rmX8_readsAll).room s m ([.ref (bM 0)] : List Value).toArray below meth c H locs 0 0 (MQ below (qI g A (cM g bM vM1) r) ([.ref (bM 0)] : List Value).toArray s 0 0 A) (F0 m 68 ls [])) ?_ ?_ FU
          · intro vM_18 hf; cases hf
          · intro self19 ih21 vM_18 hf H locs hP hD hS ls hl
            unfold f_X8_readsAll_L68 at hf
            refine lv_aload_n hx hb dX8_readsAll_68 rfl (lv_at hl 0 rfl) ?_
            obtain ⟨r22, vM_23, hg24, hf⟩ := o2_at hf
            refine k_viW ⟨hx, hb, hml, hown, htu⟩ hK hP hD hS hA hG (c_X8_here l g bM vM_18 r22 vM_23 hg24) (cwV 0 htu (gU_V mw_5_179 hcX8_here) rfl rfl rfl hdX8_here ⟨Nat.le_of_ble_eq_true rfl, Nat.le_of_ble_eq_true rfl⟩) (q0 := 0) (ci := 8) (fs := fcM bM vM_18) (q := (RX8, TX8, 23)) rfl rfl rfl (As := []) (rest := []) rfl rfl hl.1 (Nat.le_of_ble_eq_true rfl) dX8_readsAll_69 (k1 := 0) (n1 := 0) rfl rfl ⟨Nat.le_refl _, Nat.le_refl _⟩ (fun H locs hP hD hS => ?_)
            refine lv_iconst (v := (-1 : Int32)) hx hb dX8_readsAll_72 (by decide) ?_
            refine lv_icmp_eq (tgt := 85) hx hb dX8_readsAll_73 (by decide) (fun c25 => ?_) (fun c25 => ?_)
            · have hf := it_t hf c25
              refine lv_iconst (v := (1 : Int32)) hx hb dX8_readsAll_85 (by decide) ?_
              obtain ⟨h26, hf⟩ := gd_isB hf
              obtain ⟨e27, e28⟩ := kp_2 hf
              rw [e28] at hP hD
              exact k_zret hx hb hr hlocks hK hP hD hS e27 h26 dX8_readsAll_86
            · have hf := it_f hf c25
              refine lv_aload_n hx hb dX8_readsAll_76 rfl (lv_at hl 0 rfl) ?_
              obtain ⟨r29, vM_30, hg31, hf⟩ := o2_at hf
              refine k_viW ⟨hx, hb, hml, hown, htu⟩ hK hP hD hS hA hG (c_X8_readsLine l g bM vM_23 r29 vM_30 hg31) (cwV 0 htu (gU_V mw_5_204 hcX8_readsLine) rfl rfl rfl hdX8_readsLine ⟨Nat.le_of_ble_eq_true rfl, Nat.le_of_ble_eq_true rfl⟩) (q0 := 0) (ci := 8) (fs := fcM bM vM_23) (q := (RX8, TX8, 23)) rfl rfl rfl (As := []) (rest := []) rfl rfl hl.1 (Nat.le_of_ble_eq_true rfl) dX8_readsAll_77 (k1 := 0) (n1 := 0) rfl rfl ⟨Nat.le_refl _, Nat.le_refl _⟩ (fun H locs hP hD hS => ?_)
              refine lv_if_ne (tgt := 68) hx hb dX8_readsAll_80 (by decide) (fun c32 => ?_) (fun c32 => ?_)
              · have hf := it_f hf c32
                exact ih21 vM_30 hf H locs hP hD hS _ (lv_sub hl [0] rfl)
              · have hf := it_t hf c32
                refine lv_iconst (v := (0 : Int32)) hx hb dX8_readsAll_83 (by decide) ?_
                obtain ⟨h33, hf⟩ := gd_isB hf
                obtain ⟨e34, e35⟩ := kp_2 hf
                rw [e35] at hP hD
                exact k_zret hx hb hr hlocks hK hP hD hS e34 h33 dX8_readsAll_84
        refine lv_if_ne (tgt := 68) hx hb dX8_readsAll_63 (by decide) (fun c36 => ?_) (fun c36 => ?_)
        · have hf := it_f hf c36
          exact hL20 vM_16 hf H locs hP hD hS _ (lv_sub hl [0] rfl)
        · have hf := it_t hf c36
          refine lv_iconst (v := (0 : Int32)) hx hb dX8_readsAll_66 (by decide) ?_
          obtain ⟨h37, hf⟩ := gd_isB hf
          obtain ⟨e38, e39⟩ := kp_2 hf
          rw [e39] at hP hD
          exact k_zret hx hb hr hlocks hK hP hD hS e38 h37 dX8_readsAll_67
      · have hf := it_t hf c10
        refine lv_iconst (v := (0 : Int32)) hx hb dX8_readsAll_35 (by decide) ?_
        obtain ⟨h40, hf⟩ := gd_isB hf
        obtain ⟨e41, e42⟩ := kp_2 hf
        rw [e42] at hP hD
        exact k_zret hx hb hr hlocks hK hP hD hS e41 h40 dX8_readsAll_36
    · have hf := it_t hf c6
      refine lv_aload_n hx hb dX8_readsAll_14 rfl (lv_at hl 0 rfl) ?_
      refine lv_bipush (v := (-2 : Int32)) hx hb dX8_readsAll_15 (by decide) ?_
      refine lv_aload_n hx hb dX8_readsAll_17 rfl (lv_at hl 0 rfl) ?_
      refine va_get (D := g.1) (ci := 8) (fs := fcM bM vM_4) (v := .int (vM_4.1 14)) (C := RX8) (T := TX8) (N := 23) hx hb htu hinX8 hown hK hP 0 rfl rfl 14 (by decide) k_5_86 (fun _ h9 => h9) rfl dX8_readsAll_18 ?_
      obtain ⟨r43, vM_44, hg45, hf⟩ := o2_at hf
      refine k_viW ⟨hx, hb, hml, hown, htu⟩ hK hP hD hS hA hG (c_X8_fails l g bM vM_4 (-2 : Int32) (vM_4.1 14) r43 vM_44 hg45) (cwV 2 htu (gU_V mw_5_188 hcX8_fails) rfl rfl rfl hdX8_fails ⟨Nat.le_of_ble_eq_true rfl, Nat.le_of_ble_eq_true rfl⟩) (q0 := 0) (ci := 8) (fs := fcM bM vM_4) (q := (RX8, TX8, 23)) rfl rfl rfl (As := [.int (-2 : Int32), .int (vM_4.1 14)]) (rest := []) rfl rfl hl.1 (Nat.le_of_ble_eq_true rfl) dX8_readsAll_21 (k1 := 0) (n1 := 0) rfl rfl ⟨Nat.le_refl _, Nat.le_refl _⟩ (fun H locs hP hD hS => ?_)
      obtain ⟨h46, hf⟩ := gd_isB hf
      obtain ⟨e47, e48⟩ := kp_2 hf
      rw [e48] at hP hD
      exact k_zret hx hb hr hlocks hK hP hD hS e47 h46 dX8_readsAll_24
  rw [hH, hlo] at hW
  exact hW
def f_X8_load_L67 (self21 : Int32 → Vs → Option (Int32 × Vs)) (x2_19 : Int32) (vM_20 : Vs) : Option (Int32 × Vs) :=
  if (440 : Int32) ≤ x2_19 then o1 (f_X8_wires vM_20) (fun (r25 : Int32) => some (r25, vM_20)) else gd (inb x2_19 440) (o1 (f_X8_put vM_20 x2_19 (vM_20.2.1 2 (x2_19).toNatClampNeg)) (fun (vM_30 : Vs) => self21 (x2_19 + (1 : Int32)) vM_30))
def f_X8_load (vM : Vs) (x1 : Int32) : Option (Int32 × Vs) :=
  bn (sF vM 0 (0 : Int32)) (fun (vM_1 : Vs) => o1 (f_X8_isIn x1 (0 : Int32) (vM_1.1 12)) (fun (r2 : Int32) => o2 (f_X8_right vM_1 r2 (1 : Int32)) (fun (r4 : Int32) (vM_5 : Vs) => if r4 = 0 then some ((0 : Int32), vM_5) else bn (sF vM_5 13 x1) (fun (vM_8 : Vs) => bn (sF vM_8 14 (0 : Int32)) (fun (vM_9 : Vs) => bn (sF vM_9 12 (0 : Int32)) (fun (vM_10 : Vs) => bn (sF vM_10 15 (0 : Int32)) (fun (vM_11 : Vs) => bn (sF vM_11 16 (-1 : Int32)) (fun (vM_12 : Vs) => o2 (f_X8_readsAll vM_12) (fun (r13 : Int32) (vM_14 : Vs) => if r13 = 0 then some ((vM_14.1 15), vM_14) else o1 (f_X8_change vM_14) (fun (vM_17 : Vs) => lp f_X8_load_L67 (fun _ _ => none) FU (0 : Int32) vM_17))))))))))
abbrev wsX8_load : List Cond := .code yX8_load cX8_load 3 (some .int) :: UW
abbrev rmX8_load : Room := { frames := 9, cells := 0, slots := 0, locals := 194 }
set_option maxHeartbeats 4000000 in
set_option maxRecDepth 100000 in
theorem c_X8_load (l : Launch) (g : Gx) (bM : Nat → Nat) (vM : Vs) (x1 : Int32) (r : Int32) (vM1 : Vs) (hf : f_X8_load vM x1 = some (r, vM1)) : CtI l yX8_load wsX8_load rmX8_load g [.ref (bM 0), .int x1] (cM g bM vM) (cM g bM vM1) r 0 0 := by
  unfold CtI
  intro sz
  refine Met.ofW (cc := cX8_load) (maxL := 3) (ret := (some .int)) (by decide) rfl ?_
  intro p e s m args below meth c s₁ B hml hv
  obtain ⟨rfl, hsz, hP, hK, hD0, hG⟩ := hv
  have hx := B.exec
  have hb := B.bytes
  have hr := B.returns
  have hts := atoms_spec (ws := wsX8_load) B.pre
  have hown : s.vm.findClass RX8 = some m.cls := findClass_of_methodNamed B.named
  have hlocks := B.notSynchronized
  subst hsz
  have hD := hD0.self (sz := s.heap.size)
  generalize hAe : va_A (cM g bM vM) s.heap.size = A at hD hG ⊢
  have hA : ∀ q : Nat, s.heap.size ≤ q → A q := fun q h => by rw [← hAe]; exact Or.inr h
  clear hAe hD0
  have hS : va_S A s.heap s.heap [] := va_S.rf
  have hl := lv_entry ([.ref (bM 0), .int x1]) (n := 3) (Nat.le_of_ble_eq_true rfl)
  rw [lg_entry_eq]
  generalize (lg_sl ([.ref (bM 0), .int x1]) ++ List.replicate (3 - (lg_sl ([.ref (bM 0), .int x1])).length) Slot.unset).toArray = ls at hl ⊢
  have hl : lv_has ls 3 [(0, .ref (bM 0)), (1, .int x1)] := hl
  have htu : ∀ w ∈ UW, w.before _ s = true := fun w h => hts w (List.mem_cons_of_mem _ h)
  have k_5_72 := htu _ mw_5_72
  have k_5_84 := htu _ mw_5_84
  have k_5_85 := htu _ mw_5_85
  have k_5_86 := htu _ mw_5_86
  have k_5_87 := htu _ mw_5_87
  have k_5_88 := htu _ mw_5_88
  have k_5_74 := htu _ mw_5_74
  unfold f_X8_load at hf
  obtain ⟨H, hH⟩ : ∃ z, z = s.heap := ⟨_, rfl⟩
  obtain ⟨locs, hlo⟩ : ∃ z : List Loc, z = [] := ⟨_, rfl⟩
  have hS : va_S A s.heap H locs := by rw [hH, hlo]; exact hS
  rw [← hH] at hP
  have hW : W p l e (headSpec wsX8_load rmX8_load).room s m ([.ref (bM 0), .int x1] : List Value).toArray below meth c H locs 0 0 (MQ below (qI g A (cM g bM vM1) r) ([.ref (bM 0), .int x1] : List Value).toArray s 0 0 A) (F0 m 0 ls []) := by
    refine lv_aload_n hx hb dX8_load_0 rfl (lv_at hl 0 rfl) ?_
    refine lv_iconst (v := (0 : Int32)) hx hb dX8_load_1 (by decide) ?_
    refine va_put (D := g.1) (ci := 8) (fs := fcM bM vM) (v := .int (0 : Int32)) (ty := .int) (C := RX8) (T := TX8) (N := 23) hx hb htu hinX8 tyX8 tyX8_ok nmX8 hown hK hP hD hS 0 rfl rfl 0 (by decide) k_5_72 (fun _ h9 => h9) rfl (by decide +kernel) rfl rfl (Nat.le_of_ble_eq_true rfl) dX8_load_2 (fun H locs hP hD hS => ?_)
    obtain ⟨vM_1, evM_1⟩ : ∃ z, z = sF vM 0 (0 : Int32) := ⟨_, rfl⟩
    have hf := bn_at hf evM_1
    have hP : va_P g.1 vwCl (cM g bM vM_1) H := by rw [evM_1]; exact hP
    have hD : va_D A (cM g bM vM_1) := by rw [evM_1]; exact hD
    refine lv_aload_n hx hb dX8_load_5 rfl (lv_at hl 0 rfl) ?_
    refine lv_iload_n hx hb dX8_load_6 rfl (lv_at hl 1 rfl) ?_
    refine lv_iconst (v := (0 : Int32)) hx hb dX8_load_7 (by decide) ?_
    refine lv_aload_n hx hb dX8_load_8 rfl (lv_at hl 0 rfl) ?_
    refine va_get (D := g.1) (ci := 8) (fs := fcM bM vM_1) (v := .int (vM_1.1 12)) (C := RX8) (T := TX8) (N := 23) hx hb htu hinX8 hown hK hP 0 rfl rfl 12 (by decide) k_5_84 (fun _ h9 => h9) rfl dX8_load_9 ?_
    obtain ⟨r2, hg3, hf⟩ := o1_at hf
    refine k_si0 ⟨hx, hb, hml, hown, htu⟩ hK hP hD hS hA hG (c_X8_isIn l g x1 (0 : Int32) (vM_1.1 12) r2 hg3) (va_cwS 3 htu (gU_S mw_5_163 hcX8_isIn) rfl rfl rfl hdX8_isIn ⟨Nat.le_of_ble_eq_true rfl, Nat.le_of_ble_eq_true rfl⟩) (As := [.int x1, .int (0 : Int32), .int (vM_1.1 12)]) (rest := [.ref (bM 0)]) rfl rfl hl.1 (Nat.le_of_ble_eq_true rfl) dX8_load_12 (k1 := 0) (n1 := 0) rfl rfl ⟨Nat.le_refl _, Nat.le_refl _⟩ (fun H locs hP hD hS => ?_)
    refine lv_iconst (v := (1 : Int32)) hx hb dX8_load_15 (by decide) ?_
    obtain ⟨r4, vM_5, hg6, hf⟩ := o2_at hf
    refine k_viW ⟨hx, hb, hml, hown, htu⟩ hK hP hD hS hA hG (c_X8_right l g bM vM_1 r2 (1 : Int32) r4 vM_5 hg6) (cwV 2 htu (gU_V mw_5_166 hcX8_right) rfl rfl rfl hdX8_right ⟨Nat.le_of_ble_eq_true rfl, Nat.le_of_ble_eq_true rfl⟩) (q0 := 0) (ci := 8) (fs := fcM bM vM_1) (q := (RX8, TX8, 23)) rfl rfl rfl (As := [.int r2, .int (1 : Int32)]) (rest := []) rfl rfl hl.1 (Nat.le_of_ble_eq_true rfl) dX8_load_16 (k1 := 0) (n1 := 0) rfl rfl ⟨Nat.le_refl _, Nat.le_refl _⟩ (fun H locs hP hD hS => ?_)
    refine lv_if_ne (tgt := 24) hx hb dX8_load_19 (by decide) (fun c7 => ?_) (fun c7 => ?_)
    · have hf := it_f hf c7
      refine lv_aload_n hx hb dX8_load_24 rfl (lv_at hl 0 rfl) ?_
      refine lv_iload_n hx hb dX8_load_25 rfl (lv_at hl 1 rfl) ?_
      refine va_put (D := g.1) (ci := 8) (fs := fcM bM vM_5) (v := .int x1) (ty := .int) (C := RX8) (T := TX8) (N := 23) hx hb htu hinX8 tyX8 tyX8_ok nmX8 hown hK hP hD hS 0 rfl rfl 13 (by decide) k_5_85 (fun _ h9 => h9) rfl (by decide +kernel) rfl rfl (Nat.le_of_ble_eq_true rfl) dX8_load_26 (fun H locs hP hD hS => ?_)
      obtain ⟨vM_8, evM_8⟩ : ∃ z, z = sF vM_5 13 x1 := ⟨_, rfl⟩
      have hf := bn_at hf evM_8
      have hP : va_P g.1 vwCl (cM g bM vM_8) H := by rw [evM_8]; exact hP
      have hD : va_D A (cM g bM vM_8) := by rw [evM_8]; exact hD
      refine lv_aload_n hx hb dX8_load_29 rfl (lv_at hl 0 rfl) ?_
      refine lv_iconst (v := (0 : Int32)) hx hb dX8_load_30 (by decide) ?_
      refine va_put (D := g.1) (ci := 8) (fs := fcM bM vM_8) (v := .int (0 : Int32)) (ty := .int) (C := RX8) (T := TX8) (N := 23) hx hb htu hinX8 tyX8 tyX8_ok nmX8 hown hK hP hD hS 0 rfl rfl 14 (by decide) k_5_86 (fun _ h9 => h9) rfl (by decide +kernel) rfl rfl (Nat.le_of_ble_eq_true rfl) dX8_load_31 (fun H locs hP hD hS => ?_)
      obtain ⟨vM_9, evM_9⟩ : ∃ z, z = sF vM_8 14 (0 : Int32) := ⟨_, rfl⟩
      have hf := bn_at hf evM_9
      have hP : va_P g.1 vwCl (cM g bM vM_9) H := by rw [evM_9]; exact hP
      have hD : va_D A (cM g bM vM_9) := by rw [evM_9]; exact hD
      refine lv_aload_n hx hb dX8_load_34 rfl (lv_at hl 0 rfl) ?_
      refine lv_iconst (v := (0 : Int32)) hx hb dX8_load_35 (by decide) ?_
      refine va_put (D := g.1) (ci := 8) (fs := fcM bM vM_9) (v := .int (0 : Int32)) (ty := .int) (C := RX8) (T := TX8) (N := 23) hx hb htu hinX8 tyX8 tyX8_ok nmX8 hown hK hP hD hS 0 rfl rfl 12 (by decide) k_5_84 (fun _ h9 => h9) rfl (by decide +kernel) rfl rfl (Nat.le_of_ble_eq_true rfl) dX8_load_36 (fun H locs hP hD hS => ?_)
      obtain ⟨vM_10, evM_10⟩ : ∃ z, z = sF vM_9 12 (0 : Int32) := ⟨_, rfl⟩
      have hf := bn_at hf evM_10
      have hP : va_P g.1 vwCl (cM g bM vM_10) H := by rw [evM_10]; exact hP
      have hD : va_D A (cM g bM vM_10) := by rw [evM_10]; exact hD
      refine lv_aload_n hx hb dX8_load_39 rfl (lv_at hl 0 rfl) ?_
      refine lv_iconst (v := (0 : Int32)) hx hb dX8_load_40 (by decide) ?_
      refine va_put (D := g.1) (ci := 8) (fs := fcM bM vM_10) (v := .int (0 : Int32)) (ty := .int) (C := RX8) (T := TX8) (N := 23) hx hb htu hinX8 tyX8 tyX8_ok nmX8 hown hK hP hD hS 0 rfl rfl 15 (by decide) k_5_87 (fun _ h9 => h9) rfl (by decide +kernel) rfl rfl (Nat.le_of_ble_eq_true rfl) dX8_load_41 (fun H locs hP hD hS => ?_)
      obtain ⟨vM_11, evM_11⟩ : ∃ z, z = sF vM_10 15 (0 : Int32) := ⟨_, rfl⟩
      have hf := bn_at hf evM_11
      have hP : va_P g.1 vwCl (cM g bM vM_11) H := by rw [evM_11]; exact hP
      have hD : va_D A (cM g bM vM_11) := by rw [evM_11]; exact hD
      refine lv_aload_n hx hb dX8_load_44 rfl (lv_at hl 0 rfl) ?_
      refine lv_iconst (v := (-1 : Int32)) hx hb dX8_load_45 (by decide) ?_
      refine va_put (D := g.1) (ci := 8) (fs := fcM bM vM_11) (v := .int (-1 : Int32)) (ty := .int) (C := RX8) (T := TX8) (N := 23) hx hb htu hinX8 tyX8 tyX8_ok nmX8 hown hK hP hD hS 0 rfl rfl 16 (by decide) k_5_88 (fun _ h9 => h9) rfl (by decide +kernel) rfl rfl (Nat.le_of_ble_eq_true rfl) dX8_load_46 (fun H locs hP hD hS => ?_)
      obtain ⟨vM_12, evM_12⟩ : ∃ z, z = sF vM_11 16 (-1 : Int32) := ⟨_, rfl⟩
      have hf := bn_at hf evM_12
      have hP : va_P g.1 vwCl (cM g bM vM_12) H := by rw [evM_12]; exact hP
      have hD : va_D A (cM g bM vM_12) := by rw [evM_12]; exact hD
      refine lv_aload_n hx hb dX8_load_49 rfl (lv_at hl 0 rfl) ?_
      obtain ⟨r13, vM_14, hg15, hf⟩ := o2_at hf
      refine k_viW ⟨hx, hb, hml, hown, htu⟩ hK hP hD hS hA hG (c_X8_readsAll l g bM vM_12 r13 vM_14 hg15) (cwV 0 htu (gU_V mw_5_170 hcX8_readsAll) rfl rfl rfl hdX8_readsAll ⟨Nat.le_of_ble_eq_true rfl, Nat.le_of_ble_eq_true rfl⟩) (q0 := 0) (ci := 8) (fs := fcM bM vM_12) (q := (RX8, TX8, 23)) rfl rfl rfl (As := []) (rest := []) rfl rfl hl.1 (Nat.le_of_ble_eq_true rfl) dX8_load_50 (k1 := 0) (n1 := 0) rfl rfl ⟨Nat.le_refl _, Nat.le_refl _⟩ (fun H locs hP hD hS => ?_)
      refine lv_if_ne (tgt := 61) hx hb dX8_load_53 (by decide) (fun c16 => ?_) (fun c16 => ?_)
      · have hf := it_f hf c16
        refine lv_aload_n hx hb dX8_load_61 rfl (lv_at hl 0 rfl) ?_
        obtain ⟨vM_17, hg18, hf⟩ := o1_at hf
        refine k_vvW ⟨hx, hb, hml, hown, htu⟩ hK hP hD hS hA hG (c_X8_change l g bM vM_14 vM_17 hg18) (cwV 0 htu (gU_V mw_6_16 hcX8_change) rfl rfl rfl hdX8_change ⟨Nat.le_of_ble_eq_true rfl, Nat.le_of_ble_eq_true rfl⟩) (q0 := 0) (ci := 8) (fs := fcM bM vM_14) (q := (RX8, TX8, 23)) rfl rfl rfl (As := []) (rest := []) rfl rfl hl.1 (Nat.le_of_ble_eq_true rfl) dX8_load_62 (k1 := 0) (n1 := 0) rfl rfl ⟨Nat.le_refl _, Nat.le_refl _⟩ (fun H locs hP hD hS => ?_)
        refine lv_iconst (v := (0 : Int32)) hx hb dX8_load_65 (by decide) ?_
        refine lv_istore_n (lv' := [(2, .int (0 : Int32)), (0, .ref (bM 0)), (1, .int x1)]) hx hb dX8_load_66 rfl hl (by decide) rfl (fun ls hl => ?_)
        have hL22 : ∀ (x2_19 : Int32) (vM_20 : Vs), lp f_X8_load_L67 (fun _ _ => none) FU x2_19 vM_20 = some (r, vM1) → ∀ (H : Heap) (locs : List Loc), va_P g.1 vwCl (cM g bM vM_20) H → va_D A (cM g bM vM_20) → va_S A s.heap H locs → ∀ ls : Array Slot, lv_has ls 3 [(0, .ref (bM 0)), (2, .int x2_19)] → W p l e (headSpec wsX8_load rmX8_load).room s m ([.ref (bM 0), .int x1] : List Value).toArray below meth c H locs 0 0 (MQ below (qI g A (cM g bM vM1) r) ([.ref (bM 0), .int x1] : List Value).toArray s 0 0 A) (F0 m 67 ls []) := by
          refine lp_ind (T := Int32 → Vs → Option (Int32 × Vs)) (fun self21 => ∀ (x2_19 : Int32) (vM_20 : Vs), self21 x2_19 vM_20 = some (r, vM1) → ∀ (H : Heap) (locs : List Loc), va_P g.1 vwCl (cM g bM vM_20) H → va_D A (cM g bM vM_20) → va_S A s.heap H locs → ∀ ls : Array Slot, lv_has ls 3 [(0, .ref (bM 0)), (2, .int x2_19)] → W p l e (headSpec wsX8_load rmX8_load).room s m ([.ref (bM 0), .int x1] : List Value).toArray below meth c H locs 0 0 (MQ below (qI g A (cM g bM vM1) r) ([.ref (bM 0), .int x1] : List Value).toArray s 0 0 A) (F0 m 67 ls [])) ?_ ?_ FU
          · intro x2_19 vM_20 hf; cases hf
          · intro self21 ih23 x2_19 vM_20 hf H locs hP hD hS ls hl
            unfold f_X8_load_L67 at hf
            refine lv_iload_n hx hb dX8_load_67 rfl (lv_at hl 1 rfl) ?_
            refine lv_sipush (v := (440 : Int32)) hx hb dX8_load_68 (by decide) ?_
            refine lv_icmp_ge (tgt := 91) hx hb dX8_load_71 (by decide) (fun c24 => ?_) (fun c24 => ?_)
            · have hf := it_t hf c24
              refine lv_aload_n hx hb dX8_load_91 rfl (lv_at hl 0 rfl) ?_
              obtain ⟨r25, hg26, hf⟩ := o1_at hf
              refine k_viW ⟨hx, hb, hml, hown, htu⟩ hK hP hD hS hA hG (c_X8_wires l g bM vM_20 r25 hg26) (cwV 0 htu (gU_V mw_6_24 hcX8_wires) rfl rfl rfl hdX8_wires ⟨Nat.le_of_ble_eq_true rfl, Nat.le_of_ble_eq_true rfl⟩) (q0 := 0) (ci := 8) (fs := fcM bM vM_20) (q := (RX8, TX8, 23)) rfl rfl rfl (As := []) (rest := []) rfl rfl hl.1 (Nat.le_of_ble_eq_true rfl) dX8_load_92 (k1 := 0) (n1 := 0) rfl rfl ⟨Nat.le_refl _, Nat.le_refl _⟩ (fun H locs hP hD hS => ?_)
              obtain ⟨e27, e28⟩ := kp_2 hf
              rw [e28] at hP hD
              exact k_iret hx hb hr hlocks hK hP hD hS e27 dX8_load_95
            · have hf := it_f hf c24
              refine lv_aload_n hx hb dX8_load_74 rfl (lv_at hl 0 rfl) ?_
              refine lv_iload_n hx hb dX8_load_75 rfl (lv_at hl 1 rfl) ?_
              refine lv_aload_n hx hb dX8_load_76 rfl (lv_at hl 0 rfl) ?_
              refine va_get (D := g.1) (ci := 8) (fs := fcM bM vM_20) (v := .ref (bM 3)) (C := RX8) (T := TX8) (N := 23) hx hb htu hinX8 hown hK hP 0 rfl rfl 2 (by decide) k_5_74 (fun _ h9 => h9) rfl dX8_load_77 ?_
              refine lv_iload_n hx hb dX8_load_80 rfl (lv_at hl 1 rfl) ?_
              obtain ⟨h29, hf⟩ := gd_in hf
              refine va_iald (D := g.1) (f := (vM_20.2.1 2)) hx hb hK hP 2 0 rfl rfl h29 dX8_load_81 ?_
              obtain ⟨vM_30, hg31, hf⟩ := o1_at hf
              refine k_vvW ⟨hx, hb, hml, hown, htu⟩ hK hP hD hS hA hG (c_X8_put l g bM vM_20 x2_19 (vM_20.2.1 2 (x2_19).toNatClampNeg) vM_30 hg31) (cwV 2 htu (gU_V mw_5_68 hcX8_put) rfl rfl rfl hdX8_put ⟨Nat.le_of_ble_eq_true rfl, Nat.le_of_ble_eq_true rfl⟩) (q0 := 0) (ci := 8) (fs := fcM bM vM_20) (q := (RX8, TX8, 23)) rfl rfl rfl (As := [.int x2_19, .int (vM_20.2.1 2 (x2_19).toNatClampNeg)]) (rest := []) rfl rfl hl.1 (Nat.le_of_ble_eq_true rfl) dX8_load_82 (k1 := 0) (n1 := 0) rfl rfl ⟨Nat.le_refl _, Nat.le_refl _⟩ (fun H locs hP hD hS => ?_)
              refine lv_iinc (v := (x2_19 + (1 : Int32))) (lv' := [(2, .int (x2_19 + (1 : Int32))), (0, .ref (bM 0))]) hx hb dX8_load_85 hl (k := 1) rfl rfl (by decide) rfl (fun ls hl => ?_)
              refine lv_goto (tgt := 67) hx hb dX8_load_88 (by decide) ?_
              exact ih23 (x2_19 + (1 : Int32)) vM_30 hf H locs hP hD hS _ (lv_sub hl [1, 0] rfl)
        exact hL22 (0 : Int32) vM_17 hf H locs hP hD hS _ (lv_sub hl [1, 0] rfl)
      · have hf := it_t hf c16
        refine lv_aload_n hx hb dX8_load_56 rfl (lv_at hl 0 rfl) ?_
        refine va_get (D := g.1) (ci := 8) (fs := fcM bM vM_14) (v := .int (vM_14.1 15)) (C := RX8) (T := TX8) (N := 23) hx hb htu hinX8 hown hK hP 0 rfl rfl 15 (by decide) k_5_87 (fun _ h9 => h9) rfl dX8_load_57 ?_
        obtain ⟨e32, e33⟩ := kp_2 hf
        rw [e33] at hP hD
        exact k_iret hx hb hr hlocks hK hP hD hS e32 dX8_load_60
    · have hf := it_t hf c7
      refine lv_iconst (v := (0 : Int32)) hx hb dX8_load_22 (by decide) ?_
      obtain ⟨e34, e35⟩ := kp_2 hf
      rw [e35] at hP hD
      exact k_iret hx hb hr hlocks hK hP hD hS e34 dX8_load_23
  rw [hH, hlo] at hW
  exact hW
def f_X8_isWire (vM : Vs) (x1 : Int32) : Option (Int32 × Vs) :=
  o1 (f_X8_wires vM) (fun (r1 : Int32) => o1 (f_X8_isIn x1 (0 : Int32) (r1 - (1 : Int32))) (fun (r3 : Int32) => o2 (f_X8_right vM r3 (1 : Int32)) (fun (r5 : Int32) (vM_6 : Vs) => gd (isB r5) (some (r5, vM_6)))))
abbrev wsX8_isWire : List Cond := .code yX8_isWire cX8_isWire 2 (some .boolean) :: UW
abbrev rmX8_isWire : Room := { frames := 2, cells := 0, slots := 0, locals := 41 }
set_option maxHeartbeats 4000000 in
set_option maxRecDepth 100000 in
theorem c_X8_isWire (l : Launch) (g : Gx) (bM : Nat → Nat) (vM : Vs) (x1 : Int32) (r : Int32) (vM1 : Vs) (hf : f_X8_isWire vM x1 = some (r, vM1)) : CtI l yX8_isWire wsX8_isWire rmX8_isWire g [.ref (bM 0), .int x1] (cM g bM vM) (cM g bM vM1) r 0 0 := by
  unfold CtI
  intro sz
  refine Met.ofW (cc := cX8_isWire) (maxL := 2) (ret := (some .boolean)) (by decide) rfl ?_
  intro p e s m args below meth c s₁ B hml hv
  obtain ⟨rfl, hsz, hP, hK, hD0, hG⟩ := hv
  have hx := B.exec
  have hb := B.bytes
  have hr := B.returns
  have hts := atoms_spec (ws := wsX8_isWire) B.pre
  have hown : s.vm.findClass RX8 = some m.cls := findClass_of_methodNamed B.named
  have hlocks := B.notSynchronized
  subst hsz
  have hD := hD0.self (sz := s.heap.size)
  generalize hAe : va_A (cM g bM vM) s.heap.size = A at hD hG ⊢
  have hA : ∀ q : Nat, s.heap.size ≤ q → A q := fun q h => by rw [← hAe]; exact Or.inr h
  clear hAe hD0
  have hS : va_S A s.heap s.heap [] := va_S.rf
  have hl := lv_entry ([.ref (bM 0), .int x1]) (n := 2) (Nat.le_of_ble_eq_true rfl)
  rw [lg_entry_eq]
  generalize (lg_sl ([.ref (bM 0), .int x1]) ++ List.replicate (2 - (lg_sl ([.ref (bM 0), .int x1])).length) Slot.unset).toArray = ls at hl ⊢
  have hl : lv_has ls 2 [(0, .ref (bM 0)), (1, .int x1)] := hl
  have htu : ∀ w ∈ UW, w.before _ s = true := fun w h => hts w (List.mem_cons_of_mem _ h)
  unfold f_X8_isWire at hf
  obtain ⟨H, hH⟩ : ∃ z, z = s.heap := ⟨_, rfl⟩
  obtain ⟨locs, hlo⟩ : ∃ z : List Loc, z = [] := ⟨_, rfl⟩
  have hS : va_S A s.heap H locs := by rw [hH, hlo]; exact hS
  rw [← hH] at hP
  have hW : W p l e (headSpec wsX8_isWire rmX8_isWire).room s m ([.ref (bM 0), .int x1] : List Value).toArray below meth c H locs 0 0 (MQ below (qI g A (cM g bM vM1) r) ([.ref (bM 0), .int x1] : List Value).toArray s 0 0 A) (F0 m 0 ls []) := by
    refine lv_aload_n hx hb dX8_isWire_0 rfl (lv_at hl 0 rfl) ?_
    refine lv_iload_n hx hb dX8_isWire_1 rfl (lv_at hl 1 rfl) ?_
    refine lv_iconst (v := (0 : Int32)) hx hb dX8_isWire_2 (by decide) ?_
    refine lv_aload_n hx hb dX8_isWire_3 rfl (lv_at hl 0 rfl) ?_
    obtain ⟨r1, hg2, hf⟩ := o1_at hf
    refine k_viW ⟨hx, hb, hml, hown, htu⟩ hK hP hD hS hA hG (c_X8_wires l g bM vM r1 hg2) (cwV 0 htu (gU_V mw_6_24 hcX8_wires) rfl rfl rfl hdX8_wires ⟨Nat.le_of_ble_eq_true rfl, Nat.le_of_ble_eq_true rfl⟩) (q0 := 0) (ci := 8) (fs := fcM bM vM) (q := (RX8, TX8, 23)) rfl rfl rfl (As := []) (rest := [.int (0 : Int32), .int x1, .ref (bM 0)]) rfl rfl hl.1 (Nat.le_of_ble_eq_true rfl) dX8_isWire_4 (k1 := 0) (n1 := 0) rfl rfl ⟨Nat.le_refl _, Nat.le_refl _⟩ (fun H locs hP hD hS => ?_)
    refine lv_iconst (v := (1 : Int32)) hx hb dX8_isWire_7 (by decide) ?_
    refine lv_isub hx hb dX8_isWire_8 ?_
    obtain ⟨r3, hg4, hf⟩ := o1_at hf
    refine k_si0 ⟨hx, hb, hml, hown, htu⟩ hK hP hD hS hA hG (c_X8_isIn l g x1 (0 : Int32) (r1 - (1 : Int32)) r3 hg4) (va_cwS 3 htu (gU_S mw_5_163 hcX8_isIn) rfl rfl rfl hdX8_isIn ⟨Nat.le_of_ble_eq_true rfl, Nat.le_of_ble_eq_true rfl⟩) (As := [.int x1, .int (0 : Int32), .int (r1 - (1 : Int32))]) (rest := [.ref (bM 0)]) rfl rfl hl.1 (Nat.le_of_ble_eq_true rfl) dX8_isWire_9 (k1 := 0) (n1 := 0) rfl rfl ⟨Nat.le_refl _, Nat.le_refl _⟩ (fun H locs hP hD hS => ?_)
    refine lv_iconst (v := (1 : Int32)) hx hb dX8_isWire_12 (by decide) ?_
    obtain ⟨r5, vM_6, hg7, hf⟩ := o2_at hf
    refine k_viW ⟨hx, hb, hml, hown, htu⟩ hK hP hD hS hA hG (c_X8_right l g bM vM r3 (1 : Int32) r5 vM_6 hg7) (cwV 2 htu (gU_V mw_5_166 hcX8_right) rfl rfl rfl hdX8_right ⟨Nat.le_of_ble_eq_true rfl, Nat.le_of_ble_eq_true rfl⟩) (q0 := 0) (ci := 8) (fs := fcM bM vM) (q := (RX8, TX8, 23)) rfl rfl rfl (As := [.int r3, .int (1 : Int32)]) (rest := []) rfl rfl hl.1 (Nat.le_of_ble_eq_true rfl) dX8_isWire_13 (k1 := 0) (n1 := 0) rfl rfl ⟨Nat.le_refl _, Nat.le_refl _⟩ (fun H locs hP hD hS => ?_)
    obtain ⟨h8, hf⟩ := gd_isB hf
    obtain ⟨e9, e10⟩ := kp_2 hf
    rw [e10] at hP hD
    exact k_zret hx hb hr hlocks hK hP hD hS e9 h8 dX8_isWire_16
  rw [hH, hlo] at hW
  exact hW
def f_X8_isFault (vM : Vs) (x1 : Int32) : Option (Int32 × Vs) :=
  o1 (f_X8_faults vM) (fun (r1 : Int32) => o1 (f_X8_isIn x1 (0 : Int32) (r1 - (1 : Int32))) (fun (r3 : Int32) => o2 (f_X8_right vM r3 (1 : Int32)) (fun (r5 : Int32) (vM_6 : Vs) => gd (isB r5) (some (r5, vM_6)))))
abbrev wsX8_isFault : List Cond := .code yX8_isFault cX8_isFault 2 (some .boolean) :: UW
abbrev rmX8_isFault : Room := { frames := 3, cells := 0, slots := 0, locals := 61 }
set_option maxHeartbeats 4000000 in
set_option maxRecDepth 100000 in
theorem c_X8_isFault (l : Launch) (g : Gx) (bM : Nat → Nat) (vM : Vs) (x1 : Int32) (r : Int32) (vM1 : Vs) (hf : f_X8_isFault vM x1 = some (r, vM1)) : CtI l yX8_isFault wsX8_isFault rmX8_isFault g [.ref (bM 0), .int x1] (cM g bM vM) (cM g bM vM1) r 0 0 := by
  unfold CtI
  intro sz
  refine Met.ofW (cc := cX8_isFault) (maxL := 2) (ret := (some .boolean)) (by decide) rfl ?_
  intro p e s m args below meth c s₁ B hml hv
  obtain ⟨rfl, hsz, hP, hK, hD0, hG⟩ := hv
  have hx := B.exec
  have hb := B.bytes
  have hr := B.returns
  have hts := atoms_spec (ws := wsX8_isFault) B.pre
  have hown : s.vm.findClass RX8 = some m.cls := findClass_of_methodNamed B.named
  have hlocks := B.notSynchronized
  subst hsz
  have hD := hD0.self (sz := s.heap.size)
  generalize hAe : va_A (cM g bM vM) s.heap.size = A at hD hG ⊢
  have hA : ∀ q : Nat, s.heap.size ≤ q → A q := fun q h => by rw [← hAe]; exact Or.inr h
  clear hAe hD0
  have hS : va_S A s.heap s.heap [] := va_S.rf
  have hl := lv_entry ([.ref (bM 0), .int x1]) (n := 2) (Nat.le_of_ble_eq_true rfl)
  rw [lg_entry_eq]
  generalize (lg_sl ([.ref (bM 0), .int x1]) ++ List.replicate (2 - (lg_sl ([.ref (bM 0), .int x1])).length) Slot.unset).toArray = ls at hl ⊢
  have hl : lv_has ls 2 [(0, .ref (bM 0)), (1, .int x1)] := hl
  have htu : ∀ w ∈ UW, w.before _ s = true := fun w h => hts w (List.mem_cons_of_mem _ h)
  unfold f_X8_isFault at hf
  obtain ⟨H, hH⟩ : ∃ z, z = s.heap := ⟨_, rfl⟩
  obtain ⟨locs, hlo⟩ : ∃ z : List Loc, z = [] := ⟨_, rfl⟩
  have hS : va_S A s.heap H locs := by rw [hH, hlo]; exact hS
  rw [← hH] at hP
  have hW : W p l e (headSpec wsX8_isFault rmX8_isFault).room s m ([.ref (bM 0), .int x1] : List Value).toArray below meth c H locs 0 0 (MQ below (qI g A (cM g bM vM1) r) ([.ref (bM 0), .int x1] : List Value).toArray s 0 0 A) (F0 m 0 ls []) := by
    refine lv_aload_n hx hb dX8_isFault_0 rfl (lv_at hl 0 rfl) ?_
    refine lv_iload_n hx hb dX8_isFault_1 rfl (lv_at hl 1 rfl) ?_
    refine lv_iconst (v := (0 : Int32)) hx hb dX8_isFault_2 (by decide) ?_
    refine lv_aload_n hx hb dX8_isFault_3 rfl (lv_at hl 0 rfl) ?_
    obtain ⟨r1, hg2, hf⟩ := o1_at hf
    refine k_viW ⟨hx, hb, hml, hown, htu⟩ hK hP hD hS hA hG (c_X8_faults l g bM vM r1 hg2) (cwV 0 htu (gU_V mw_6_44 hcX8_faults) rfl rfl rfl hdX8_faults ⟨Nat.le_of_ble_eq_true rfl, Nat.le_of_ble_eq_true rfl⟩) (q0 := 0) (ci := 8) (fs := fcM bM vM) (q := (RX8, TX8, 23)) rfl rfl rfl (As := []) (rest := [.int (0 : Int32), .int x1, .ref (bM 0)]) rfl rfl hl.1 (Nat.le_of_ble_eq_true rfl) dX8_isFault_4 (k1 := 0) (n1 := 0) rfl rfl ⟨Nat.le_refl _, Nat.le_refl _⟩ (fun H locs hP hD hS => ?_)
    refine lv_iconst (v := (1 : Int32)) hx hb dX8_isFault_7 (by decide) ?_
    refine lv_isub hx hb dX8_isFault_8 ?_
    obtain ⟨r3, hg4, hf⟩ := o1_at hf
    refine k_si0 ⟨hx, hb, hml, hown, htu⟩ hK hP hD hS hA hG (c_X8_isIn l g x1 (0 : Int32) (r1 - (1 : Int32)) r3 hg4) (va_cwS 3 htu (gU_S mw_5_163 hcX8_isIn) rfl rfl rfl hdX8_isIn ⟨Nat.le_of_ble_eq_true rfl, Nat.le_of_ble_eq_true rfl⟩) (As := [.int x1, .int (0 : Int32), .int (r1 - (1 : Int32))]) (rest := [.ref (bM 0)]) rfl rfl hl.1 (Nat.le_of_ble_eq_true rfl) dX8_isFault_9 (k1 := 0) (n1 := 0) rfl rfl ⟨Nat.le_refl _, Nat.le_refl _⟩ (fun H locs hP hD hS => ?_)
    refine lv_iconst (v := (1 : Int32)) hx hb dX8_isFault_12 (by decide) ?_
    obtain ⟨r5, vM_6, hg7, hf⟩ := o2_at hf
    refine k_viW ⟨hx, hb, hml, hown, htu⟩ hK hP hD hS hA hG (c_X8_right l g bM vM r3 (1 : Int32) r5 vM_6 hg7) (cwV 2 htu (gU_V mw_5_166 hcX8_right) rfl rfl rfl hdX8_right ⟨Nat.le_of_ble_eq_true rfl, Nat.le_of_ble_eq_true rfl⟩) (q0 := 0) (ci := 8) (fs := fcM bM vM) (q := (RX8, TX8, 23)) rfl rfl rfl (As := [.int r3, .int (1 : Int32)]) (rest := []) rfl rfl hl.1 (Nat.le_of_ble_eq_true rfl) dX8_isFault_13 (k1 := 0) (n1 := 0) rfl rfl ⟨Nat.le_refl _, Nat.le_refl _⟩ (fun H locs hP hD hS => ?_)
    obtain ⟨h8, hf⟩ := gd_isB hf
    obtain ⟨e9, e10⟩ := kp_2 hf
    rw [e10] at hP hD
    exact k_zret hx hb hr hlocks hK hP hD hS e9 h8 dX8_isFault_16
  rw [hH, hlo] at hW
  exact hW
def f_X8_isTest (vM : Vs) (x1 : Int32) : Option (Int32 × Vs) :=
  o1 (f_X8_tests vM) (fun (r1 : Int32) => o1 (f_X8_isIn x1 (0 : Int32) (r1 - (1 : Int32))) (fun (r3 : Int32) => o2 (f_X8_right vM r3 (1 : Int32)) (fun (r5 : Int32) (vM_6 : Vs) => gd (isB r5) (some (r5, vM_6)))))
abbrev wsX8_isTest : List Cond := .code yX8_isTest cX8_isTest 2 (some .boolean) :: UW
abbrev rmX8_isTest : Room := { frames := 2, cells := 0, slots := 0, locals := 41 }
set_option maxHeartbeats 4000000 in
set_option maxRecDepth 100000 in
theorem c_X8_isTest (l : Launch) (g : Gx) (bM : Nat → Nat) (vM : Vs) (x1 : Int32) (r : Int32) (vM1 : Vs) (hf : f_X8_isTest vM x1 = some (r, vM1)) : CtI l yX8_isTest wsX8_isTest rmX8_isTest g [.ref (bM 0), .int x1] (cM g bM vM) (cM g bM vM1) r 0 0 := by
  unfold CtI
  intro sz
  refine Met.ofW (cc := cX8_isTest) (maxL := 2) (ret := (some .boolean)) (by decide) rfl ?_
  intro p e s m args below meth c s₁ B hml hv
  obtain ⟨rfl, hsz, hP, hK, hD0, hG⟩ := hv
  have hx := B.exec
  have hb := B.bytes
  have hr := B.returns
  have hts := atoms_spec (ws := wsX8_isTest) B.pre
  have hown : s.vm.findClass RX8 = some m.cls := findClass_of_methodNamed B.named
  have hlocks := B.notSynchronized
  subst hsz
  have hD := hD0.self (sz := s.heap.size)
  generalize hAe : va_A (cM g bM vM) s.heap.size = A at hD hG ⊢
  have hA : ∀ q : Nat, s.heap.size ≤ q → A q := fun q h => by rw [← hAe]; exact Or.inr h
  clear hAe hD0
  have hS : va_S A s.heap s.heap [] := va_S.rf
  have hl := lv_entry ([.ref (bM 0), .int x1]) (n := 2) (Nat.le_of_ble_eq_true rfl)
  rw [lg_entry_eq]
  generalize (lg_sl ([.ref (bM 0), .int x1]) ++ List.replicate (2 - (lg_sl ([.ref (bM 0), .int x1])).length) Slot.unset).toArray = ls at hl ⊢
  have hl : lv_has ls 2 [(0, .ref (bM 0)), (1, .int x1)] := hl
  have htu : ∀ w ∈ UW, w.before _ s = true := fun w h => hts w (List.mem_cons_of_mem _ h)
  unfold f_X8_isTest at hf
  obtain ⟨H, hH⟩ : ∃ z, z = s.heap := ⟨_, rfl⟩
  obtain ⟨locs, hlo⟩ : ∃ z : List Loc, z = [] := ⟨_, rfl⟩
  have hS : va_S A s.heap H locs := by rw [hH, hlo]; exact hS
  rw [← hH] at hP
  have hW : W p l e (headSpec wsX8_isTest rmX8_isTest).room s m ([.ref (bM 0), .int x1] : List Value).toArray below meth c H locs 0 0 (MQ below (qI g A (cM g bM vM1) r) ([.ref (bM 0), .int x1] : List Value).toArray s 0 0 A) (F0 m 0 ls []) := by
    refine lv_aload_n hx hb dX8_isTest_0 rfl (lv_at hl 0 rfl) ?_
    refine lv_iload_n hx hb dX8_isTest_1 rfl (lv_at hl 1 rfl) ?_
    refine lv_iconst (v := (0 : Int32)) hx hb dX8_isTest_2 (by decide) ?_
    refine lv_aload_n hx hb dX8_isTest_3 rfl (lv_at hl 0 rfl) ?_
    obtain ⟨r1, hg2, hf⟩ := o1_at hf
    refine k_viW ⟨hx, hb, hml, hown, htu⟩ hK hP hD hS hA hG (c_X8_tests l g bM vM r1 hg2) (cwV 0 htu (gU_V mw_6_48 hcX8_tests) rfl rfl rfl hdX8_tests ⟨Nat.le_of_ble_eq_true rfl, Nat.le_of_ble_eq_true rfl⟩) (q0 := 0) (ci := 8) (fs := fcM bM vM) (q := (RX8, TX8, 23)) rfl rfl rfl (As := []) (rest := [.int (0 : Int32), .int x1, .ref (bM 0)]) rfl rfl hl.1 (Nat.le_of_ble_eq_true rfl) dX8_isTest_4 (k1 := 0) (n1 := 0) rfl rfl ⟨Nat.le_refl _, Nat.le_refl _⟩ (fun H locs hP hD hS => ?_)
    refine lv_iconst (v := (1 : Int32)) hx hb dX8_isTest_7 (by decide) ?_
    refine lv_isub hx hb dX8_isTest_8 ?_
    obtain ⟨r3, hg4, hf⟩ := o1_at hf
    refine k_si0 ⟨hx, hb, hml, hown, htu⟩ hK hP hD hS hA hG (c_X8_isIn l g x1 (0 : Int32) (r1 - (1 : Int32)) r3 hg4) (va_cwS 3 htu (gU_S mw_5_163 hcX8_isIn) rfl rfl rfl hdX8_isIn ⟨Nat.le_of_ble_eq_true rfl, Nat.le_of_ble_eq_true rfl⟩) (As := [.int x1, .int (0 : Int32), .int (r1 - (1 : Int32))]) (rest := [.ref (bM 0)]) rfl rfl hl.1 (Nat.le_of_ble_eq_true rfl) dX8_isTest_9 (k1 := 0) (n1 := 0) rfl rfl ⟨Nat.le_refl _, Nat.le_refl _⟩ (fun H locs hP hD hS => ?_)
    refine lv_iconst (v := (1 : Int32)) hx hb dX8_isTest_12 (by decide) ?_
    obtain ⟨r5, vM_6, hg7, hf⟩ := o2_at hf
    refine k_viW ⟨hx, hb, hml, hown, htu⟩ hK hP hD hS hA hG (c_X8_right l g bM vM r3 (1 : Int32) r5 vM_6 hg7) (cwV 2 htu (gU_V mw_5_166 hcX8_right) rfl rfl rfl hdX8_right ⟨Nat.le_of_ble_eq_true rfl, Nat.le_of_ble_eq_true rfl⟩) (q0 := 0) (ci := 8) (fs := fcM bM vM) (q := (RX8, TX8, 23)) rfl rfl rfl (As := [.int r3, .int (1 : Int32)]) (rest := []) rfl rfl hl.1 (Nat.le_of_ble_eq_true rfl) dX8_isTest_13 (k1 := 0) (n1 := 0) rfl rfl ⟨Nat.le_refl _, Nat.le_refl _⟩ (fun H locs hP hD hS => ?_)
    obtain ⟨h8, hf⟩ := gd_isB hf
    obtain ⟨e9, e10⟩ := kp_2 hf
    rw [e10] at hP hD
    exact k_zret hx hb hr hlocks hK hP hD hS e9 h8 dX8_isTest_16
  rw [hH, hlo] at hW
  exact hW
def f_X8_told_L91 (self45 : Int32 → Int32 → Vs → Option (Int32 × Vs)) (x2_42 : Int32) (x3_43 : Int32) (vM_44 : Vs) : Option (Int32 × Vs) :=
  o1 (f_X8_wires vM_44) (fun (r48 : Int32) => if r48 ≤ x3_43 then some (x2_42, vM_44) else o2 (f_X8_levelOf vM_44 x3_43) (fun (r53 : Int32) (vM_54 : Vs) => jn (fun (t56 : Int32) (vM_57 : Vs) => self45 t56 (x3_43 + (1 : Int32)) vM_57) (fun k58 => if r53 ≤ x2_42 then k58 x2_42 vM_54 else o2 (f_X8_levelOf vM_54 x3_43) (fun (r62 : Int32) (vM_63 : Vs) => k58 r62 vM_63))))
def f_X8_told (vM : Vs) (x1 : Int32) : Option (Int32 × Vs) :=
  if x1 = (0 : Int32) then o1 (f_X8_inputs vM) (fun (r2 : Int32) => some (r2, vM)) else if x1 = (1 : Int32) then o1 (f_X8_wires vM) (fun (r7 : Int32) => some (r7, vM)) else if x1 = (2 : Int32) then o1 (f_X8_outputs vM) (fun (r12 : Int32) => some (r12, vM)) else if x1 = (3 : Int32) then o1 (f_X8_faults vM) (fun (r17 : Int32) => some (r17, vM)) else if x1 = (4 : Int32) then o1 (f_X8_get vM (3 : Int32)) (fun (r22 : Int32) => some (r22, vM)) else if x1 = (5 : Int32) then o1 (f_X8_tests vM) (fun (r27 : Int32) => some (r27, vM)) else if x1 = (6 : Int32) then o1 (f_X8_seenMany vM) (fun (r32 : Int32) => some (r32, vM)) else if x1 = (7 : Int32) then o2 (f_X8_foundMany vM) (fun (r37 : Int32) (vM_38 : Vs) => some (r37, vM_38)) else lp f_X8_told_L91 (fun _ _ _ => none) FU (0 : Int32) (0 : Int32) vM
abbrev wsX8_told : List Cond := .code yX8_told cX8_told 4 (some .int) :: UW
abbrev rmX8_told : Room := { frames := 7, cells := 0, slots := 0, locals := 164 }
set_option maxHeartbeats 4000000 in
set_option maxRecDepth 100000 in
theorem c_X8_told (l : Launch) (g : Gx) (bM : Nat → Nat) (vM : Vs) (x1 : Int32) (r : Int32) (vM1 : Vs) (hf : f_X8_told vM x1 = some (r, vM1)) : CtI l yX8_told wsX8_told rmX8_told g [.ref (bM 0), .int x1] (cM g bM vM) (cM g bM vM1) r 0 0 := by
  unfold CtI
  intro sz
  refine Met.ofW (cc := cX8_told) (maxL := 4) (ret := (some .int)) (by decide) rfl ?_
  intro p e s m args below meth c s₁ B hml hv
  obtain ⟨rfl, hsz, hP, hK, hD0, hG⟩ := hv
  have hx := B.exec
  have hb := B.bytes
  have hr := B.returns
  have hts := atoms_spec (ws := wsX8_told) B.pre
  have hown : s.vm.findClass RX8 = some m.cls := findClass_of_methodNamed B.named
  have hlocks := B.notSynchronized
  subst hsz
  have hD := hD0.self (sz := s.heap.size)
  generalize hAe : va_A (cM g bM vM) s.heap.size = A at hD hG ⊢
  have hA : ∀ q : Nat, s.heap.size ≤ q → A q := fun q h => by rw [← hAe]; exact Or.inr h
  clear hAe hD0
  have hS : va_S A s.heap s.heap [] := va_S.rf
  have hl := lv_entry ([.ref (bM 0), .int x1]) (n := 4) (Nat.le_of_ble_eq_true rfl)
  rw [lg_entry_eq]
  generalize (lg_sl ([.ref (bM 0), .int x1]) ++ List.replicate (4 - (lg_sl ([.ref (bM 0), .int x1])).length) Slot.unset).toArray = ls at hl ⊢
  have hl : lv_has ls 4 [(0, .ref (bM 0)), (1, .int x1)] := hl
  have htu : ∀ w ∈ UW, w.before _ s = true := fun w h => hts w (List.mem_cons_of_mem _ h)
  unfold f_X8_told at hf
  obtain ⟨H, hH⟩ : ∃ z, z = s.heap := ⟨_, rfl⟩
  obtain ⟨locs, hlo⟩ : ∃ z : List Loc, z = [] := ⟨_, rfl⟩
  have hS : va_S A s.heap H locs := by rw [hH, hlo]; exact hS
  rw [← hH] at hP
  have hW : W p l e (headSpec wsX8_told rmX8_told).room s m ([.ref (bM 0), .int x1] : List Value).toArray below meth c H locs 0 0 (MQ below (qI g A (cM g bM vM1) r) ([.ref (bM 0), .int x1] : List Value).toArray s 0 0 A) (F0 m 0 ls []) := by
    refine lv_iconst (v := (0 : Int32)) hx hb dX8_told_0 (by decide) ?_
    refine lv_istore_n (lv' := [(2, .int (0 : Int32)), (0, .ref (bM 0)), (1, .int x1)]) hx hb dX8_told_1 rfl hl (by decide) rfl (fun ls hl => ?_)
    refine lv_iload_n hx hb dX8_told_2 rfl (lv_at hl 2 rfl) ?_
    by_cases c1 : x1 = (0 : Int32)
    · have hf := it_t hf c1
      refine lv_tableIn (off := 45) (tgt := 48) hx hb dX8_told_3 (by rw [c1]; decide) (by rw [c1]; decide) (by rw [c1]; rfl) (by decide) ?_
      refine lv_aload_n hx hb dX8_told_48 rfl (lv_at hl 1 rfl) ?_
      obtain ⟨r2, hg3, hf⟩ := o1_at hf
      refine k_viW ⟨hx, hb, hml, hown, htu⟩ hK hP hD hS hA hG (c_X8_inputs l g bM vM r2 hg3) (cwV 0 htu (gU_V mw_6_36 hcX8_inputs) rfl rfl rfl hdX8_inputs ⟨Nat.le_of_ble_eq_true rfl, Nat.le_of_ble_eq_true rfl⟩) (q0 := 0) (ci := 8) (fs := fcM bM vM) (q := (RX8, TX8, 23)) rfl rfl rfl (As := []) (rest := []) rfl rfl hl.1 (Nat.le_of_ble_eq_true rfl) dX8_told_49 (k1 := 0) (n1 := 0) rfl rfl ⟨Nat.le_refl _, Nat.le_refl _⟩ (fun H locs hP hD hS => ?_)
      obtain ⟨e4, e5⟩ := kp_2 hf
      rw [e5] at hP hD
      exact k_iret hx hb hr hlocks hK hP hD hS e4 dX8_told_52
    · have hf := it_f hf c1
      by_cases c6 : x1 = (1 : Int32)
      · have hf := it_t hf c6
        refine lv_tableIn (off := 50) (tgt := 53) hx hb dX8_told_3 (by rw [c6]; decide) (by rw [c6]; decide) (by rw [c6]; rfl) (by decide) ?_
        refine lv_aload_n hx hb dX8_told_53 rfl (lv_at hl 1 rfl) ?_
        obtain ⟨r7, hg8, hf⟩ := o1_at hf
        refine k_viW ⟨hx, hb, hml, hown, htu⟩ hK hP hD hS hA hG (c_X8_wires l g bM vM r7 hg8) (cwV 0 htu (gU_V mw_6_24 hcX8_wires) rfl rfl rfl hdX8_wires ⟨Nat.le_of_ble_eq_true rfl, Nat.le_of_ble_eq_true rfl⟩) (q0 := 0) (ci := 8) (fs := fcM bM vM) (q := (RX8, TX8, 23)) rfl rfl rfl (As := []) (rest := []) rfl rfl hl.1 (Nat.le_of_ble_eq_true rfl) dX8_told_54 (k1 := 0) (n1 := 0) rfl rfl ⟨Nat.le_refl _, Nat.le_refl _⟩ (fun H locs hP hD hS => ?_)
        obtain ⟨e9, e10⟩ := kp_2 hf
        rw [e10] at hP hD
        exact k_iret hx hb hr hlocks hK hP hD hS e9 dX8_told_57
      · have hf := it_f hf c6
        by_cases c11 : x1 = (2 : Int32)
        · have hf := it_t hf c11
          refine lv_tableIn (off := 55) (tgt := 58) hx hb dX8_told_3 (by rw [c11]; decide) (by rw [c11]; decide) (by rw [c11]; rfl) (by decide) ?_
          refine lv_aload_n hx hb dX8_told_58 rfl (lv_at hl 1 rfl) ?_
          obtain ⟨r12, hg13, hf⟩ := o1_at hf
          refine k_viW ⟨hx, hb, hml, hown, htu⟩ hK hP hD hS hA hG (c_X8_outputs l g bM vM r12 hg13) (cwV 0 htu (gU_V mw_6_40 hcX8_outputs) rfl rfl rfl hdX8_outputs ⟨Nat.le_of_ble_eq_true rfl, Nat.le_of_ble_eq_true rfl⟩) (q0 := 0) (ci := 8) (fs := fcM bM vM) (q := (RX8, TX8, 23)) rfl rfl rfl (As := []) (rest := []) rfl rfl hl.1 (Nat.le_of_ble_eq_true rfl) dX8_told_59 (k1 := 0) (n1 := 0) rfl rfl ⟨Nat.le_refl _, Nat.le_refl _⟩ (fun H locs hP hD hS => ?_)
          obtain ⟨e14, e15⟩ := kp_2 hf
          rw [e15] at hP hD
          exact k_iret hx hb hr hlocks hK hP hD hS e14 dX8_told_62
        · have hf := it_f hf c11
          by_cases c16 : x1 = (3 : Int32)
          · have hf := it_t hf c16
            refine lv_tableIn (off := 60) (tgt := 63) hx hb dX8_told_3 (by rw [c16]; decide) (by rw [c16]; decide) (by rw [c16]; rfl) (by decide) ?_
            refine lv_aload_n hx hb dX8_told_63 rfl (lv_at hl 1 rfl) ?_
            obtain ⟨r17, hg18, hf⟩ := o1_at hf
            refine k_viW ⟨hx, hb, hml, hown, htu⟩ hK hP hD hS hA hG (c_X8_faults l g bM vM r17 hg18) (cwV 0 htu (gU_V mw_6_44 hcX8_faults) rfl rfl rfl hdX8_faults ⟨Nat.le_of_ble_eq_true rfl, Nat.le_of_ble_eq_true rfl⟩) (q0 := 0) (ci := 8) (fs := fcM bM vM) (q := (RX8, TX8, 23)) rfl rfl rfl (As := []) (rest := []) rfl rfl hl.1 (Nat.le_of_ble_eq_true rfl) dX8_told_64 (k1 := 0) (n1 := 0) rfl rfl ⟨Nat.le_refl _, Nat.le_refl _⟩ (fun H locs hP hD hS => ?_)
            obtain ⟨e19, e20⟩ := kp_2 hf
            rw [e20] at hP hD
            exact k_iret hx hb hr hlocks hK hP hD hS e19 dX8_told_67
          · have hf := it_f hf c16
            by_cases c21 : x1 = (4 : Int32)
            · have hf := it_t hf c21
              refine lv_tableIn (off := 65) (tgt := 68) hx hb dX8_told_3 (by rw [c21]; decide) (by rw [c21]; decide) (by rw [c21]; rfl) (by decide) ?_
              refine lv_aload_n hx hb dX8_told_68 rfl (lv_at hl 1 rfl) ?_
              refine lv_iconst (v := (3 : Int32)) hx hb dX8_told_69 (by decide) ?_
              obtain ⟨r22, hg23, hf⟩ := o1_at hf
              refine k_viW ⟨hx, hb, hml, hown, htu⟩ hK hP hD hS hA hG (c_X8_get l g bM vM (3 : Int32) r22 hg23) (cwV 1 htu (gU_V mw_6_20 hcX8_get) rfl rfl rfl hdX8_get ⟨Nat.le_of_ble_eq_true rfl, Nat.le_of_ble_eq_true rfl⟩) (q0 := 0) (ci := 8) (fs := fcM bM vM) (q := (RX8, TX8, 23)) rfl rfl rfl (As := [.int (3 : Int32)]) (rest := []) rfl rfl hl.1 (Nat.le_of_ble_eq_true rfl) dX8_told_70 (k1 := 0) (n1 := 0) rfl rfl ⟨Nat.le_refl _, Nat.le_refl _⟩ (fun H locs hP hD hS => ?_)
              obtain ⟨e24, e25⟩ := kp_2 hf
              rw [e25] at hP hD
              exact k_iret hx hb hr hlocks hK hP hD hS e24 dX8_told_73
            · have hf := it_f hf c21
              by_cases c26 : x1 = (5 : Int32)
              · have hf := it_t hf c26
                refine lv_tableIn (off := 71) (tgt := 74) hx hb dX8_told_3 (by rw [c26]; decide) (by rw [c26]; decide) (by rw [c26]; rfl) (by decide) ?_
                refine lv_aload_n hx hb dX8_told_74 rfl (lv_at hl 1 rfl) ?_
                obtain ⟨r27, hg28, hf⟩ := o1_at hf
                refine k_viW ⟨hx, hb, hml, hown, htu⟩ hK hP hD hS hA hG (c_X8_tests l g bM vM r27 hg28) (cwV 0 htu (gU_V mw_6_48 hcX8_tests) rfl rfl rfl hdX8_tests ⟨Nat.le_of_ble_eq_true rfl, Nat.le_of_ble_eq_true rfl⟩) (q0 := 0) (ci := 8) (fs := fcM bM vM) (q := (RX8, TX8, 23)) rfl rfl rfl (As := []) (rest := []) rfl rfl hl.1 (Nat.le_of_ble_eq_true rfl) dX8_told_75 (k1 := 0) (n1 := 0) rfl rfl ⟨Nat.le_refl _, Nat.le_refl _⟩ (fun H locs hP hD hS => ?_)
                obtain ⟨e29, e30⟩ := kp_2 hf
                rw [e30] at hP hD
                exact k_iret hx hb hr hlocks hK hP hD hS e29 dX8_told_78
              · have hf := it_f hf c26
                by_cases c31 : x1 = (6 : Int32)
                · have hf := it_t hf c31
                  refine lv_tableIn (off := 76) (tgt := 79) hx hb dX8_told_3 (by rw [c31]; decide) (by rw [c31]; decide) (by rw [c31]; rfl) (by decide) ?_
                  refine lv_aload_n hx hb dX8_told_79 rfl (lv_at hl 1 rfl) ?_
                  obtain ⟨r32, hg33, hf⟩ := o1_at hf
                  refine k_viW ⟨hx, hb, hml, hown, htu⟩ hK hP hD hS hA hG (c_X8_seenMany l g bM vM r32 hg33) (cwV 0 htu (gU_V mw_6_52 hcX8_seenMany) rfl rfl rfl hdX8_seenMany ⟨Nat.le_of_ble_eq_true rfl, Nat.le_of_ble_eq_true rfl⟩) (q0 := 0) (ci := 8) (fs := fcM bM vM) (q := (RX8, TX8, 23)) rfl rfl rfl (As := []) (rest := []) rfl rfl hl.1 (Nat.le_of_ble_eq_true rfl) dX8_told_80 (k1 := 0) (n1 := 0) rfl rfl ⟨Nat.le_refl _, Nat.le_refl _⟩ (fun H locs hP hD hS => ?_)
                  obtain ⟨e34, e35⟩ := kp_2 hf
                  rw [e35] at hP hD
                  exact k_iret hx hb hr hlocks hK hP hD hS e34 dX8_told_83
                · have hf := it_f hf c31
                  by_cases c36 : x1 = (7 : Int32)
                  · have hf := it_t hf c36
                    refine lv_tableIn (off := 81) (tgt := 84) hx hb dX8_told_3 (by rw [c36]; decide) (by rw [c36]; decide) (by rw [c36]; rfl) (by decide) ?_
                    refine lv_aload_n hx hb dX8_told_84 rfl (lv_at hl 1 rfl) ?_
                    obtain ⟨r37, vM_38, hg39, hf⟩ := o2_at hf
                    refine k_viW ⟨hx, hb, hml, hown, htu⟩ hK hP hD hS hA hG (c_X8_foundMany l g bM vM r37 vM_38 hg39) (cwV 0 htu (gU_V mw_6_60 hcX8_foundMany) rfl rfl rfl hdX8_foundMany ⟨Nat.le_of_ble_eq_true rfl, Nat.le_of_ble_eq_true rfl⟩) (q0 := 0) (ci := 8) (fs := fcM bM vM) (q := (RX8, TX8, 23)) rfl rfl rfl (As := []) (rest := []) rfl rfl hl.1 (Nat.le_of_ble_eq_true rfl) dX8_told_85 (k1 := 0) (n1 := 0) rfl rfl ⟨Nat.le_refl _, Nat.le_refl _⟩ (fun H locs hP hD hS => ?_)
                    obtain ⟨e40, e41⟩ := kp_2 hf
                    rw [e41] at hP hD
                    exact k_iret hx hb hr hlocks hK hP hD hS e40 dX8_told_88
                  · have hf := it_f hf c36
                    refine lv_tableOut (tgt := 89) hx hb dX8_told_3 (by
                      have zc1 : ¬ (x1).toInt = 0 := fun h9 => c1 (Int32.toInt_inj.mp (h9.trans (by decide)))
                      have zc6 : ¬ (x1).toInt = 1 := fun h9 => c6 (Int32.toInt_inj.mp (h9.trans (by decide)))
                      have zc11 : ¬ (x1).toInt = 2 := fun h9 => c11 (Int32.toInt_inj.mp (h9.trans (by decide)))
                      have zc16 : ¬ (x1).toInt = 3 := fun h9 => c16 (Int32.toInt_inj.mp (h9.trans (by decide)))
                      have zc21 : ¬ (x1).toInt = 4 := fun h9 => c21 (Int32.toInt_inj.mp (h9.trans (by decide)))
                      have zc26 : ¬ (x1).toInt = 5 := fun h9 => c26 (Int32.toInt_inj.mp (h9.trans (by decide)))
                      have zc31 : ¬ (x1).toInt = 6 := fun h9 => c31 (Int32.toInt_inj.mp (h9.trans (by decide)))
                      have zc36 : ¬ (x1).toInt = 7 := fun h9 => c36 (Int32.toInt_inj.mp (h9.trans (by decide)))
                      omega) (by decide) ?_
                    refine lv_iconst (v := (0 : Int32)) hx hb dX8_told_89 (by decide) ?_
                    refine lv_istore_n (lv' := [(3, .int (0 : Int32)), (2, .int (0 : Int32)), (0, .ref (bM 0)), (1, .int x1)]) hx hb dX8_told_90 rfl hl (by decide) rfl (fun ls hl => ?_)
                    have hL46 : ∀ (x2_42 : Int32) (x3_43 : Int32) (vM_44 : Vs), lp f_X8_told_L91 (fun _ _ _ => none) FU x2_42 x3_43 vM_44 = some (r, vM1) → ∀ (H : Heap) (locs : List Loc), va_P g.1 vwCl (cM g bM vM_44) H → va_D A (cM g bM vM_44) → va_S A s.heap H locs → ∀ ls : Array Slot, lv_has ls 4 [(0, .ref (bM 0)), (2, .int x2_42), (3, .int x3_43)] → W p l e (headSpec wsX8_told rmX8_told).room s m ([.ref (bM 0), .int x1] : List Value).toArray below meth c H locs 0 0 (MQ below (qI g A (cM g bM vM1) r) ([.ref (bM 0), .int x1] : List Value).toArray s 0 0 A) (F0 m 91 ls []) := by
                      refine lp_ind (T := Int32 → Int32 → Vs → Option (Int32 × Vs)) (fun self45 => ∀ (x2_42 : Int32) (x3_43 : Int32) (vM_44 : Vs), self45 x2_42 x3_43 vM_44 = some (r, vM1) → ∀ (H : Heap) (locs : List Loc), va_P g.1 vwCl (cM g bM vM_44) H → va_D A (cM g bM vM_44) → va_S A s.heap H locs → ∀ ls : Array Slot, lv_has ls 4 [(0, .ref (bM 0)), (2, .int x2_42), (3, .int x3_43)] → W p l e (headSpec wsX8_told rmX8_told).room s m ([.ref (bM 0), .int x1] : List Value).toArray below meth c H locs 0 0 (MQ below (qI g A (cM g bM vM1) r) ([.ref (bM 0), .int x1] : List Value).toArray s 0 0 A) (F0 m 91 ls [])) ?_ ?_ FU
                      · intro x2_42 x3_43 vM_44 hf; cases hf
                      · intro self45 ih47 x2_42 x3_43 vM_44 hf H locs hP hD hS ls hl
                        unfold f_X8_told_L91 at hf
                        refine lv_iload_n hx hb dX8_told_91 rfl (lv_at hl 2 rfl) ?_
                        refine lv_aload_n hx hb dX8_told_92 rfl (lv_at hl 0 rfl) ?_
                        obtain ⟨r48, hg49, hf⟩ := o1_at hf
                        refine k_viW ⟨hx, hb, hml, hown, htu⟩ hK hP hD hS hA hG (c_X8_wires l g bM vM_44 r48 hg49) (cwV 0 htu (gU_V mw_6_24 hcX8_wires) rfl rfl rfl hdX8_wires ⟨Nat.le_of_ble_eq_true rfl, Nat.le_of_ble_eq_true rfl⟩) (q0 := 0) (ci := 8) (fs := fcM bM vM_44) (q := (RX8, TX8, 23)) rfl rfl rfl (As := []) (rest := [.int x3_43]) rfl rfl hl.1 (Nat.le_of_ble_eq_true rfl) dX8_told_93 (k1 := 0) (n1 := 0) rfl rfl ⟨Nat.le_refl _, Nat.le_refl _⟩ (fun H locs hP hD hS => ?_)
                        refine lv_icmp_ge (tgt := 124) hx hb dX8_told_96 (by decide) (fun c50 => ?_) (fun c50 => ?_)
                        · have hf := it_t hf c50
                          refine lv_iload_n hx hb dX8_told_124 rfl (lv_at hl 1 rfl) ?_
                          obtain ⟨e51, e52⟩ := kp_2 hf
                          rw [e52] at hP hD
                          exact k_iret hx hb hr hlocks hK hP hD hS e51 dX8_told_125
                        · have hf := it_f hf c50
                          refine lv_aload_n hx hb dX8_told_99 rfl (lv_at hl 0 rfl) ?_
                          refine lv_iload_n hx hb dX8_told_100 rfl (lv_at hl 2 rfl) ?_
                          obtain ⟨r53, vM_54, hg55, hf⟩ := o2_at hf
                          refine k_viW ⟨hx, hb, hml, hown, htu⟩ hK hP hD hS hA hG (c_X8_levelOf l g bM vM_44 x3_43 r53 vM_54 hg55) (cwV 1 htu (gU_V mw_6_110 hcX8_levelOf) rfl rfl rfl hdX8_levelOf ⟨Nat.le_of_ble_eq_true rfl, Nat.le_of_ble_eq_true rfl⟩) (q0 := 0) (ci := 8) (fs := fcM bM vM_44) (q := (RX8, TX8, 23)) rfl rfl rfl (As := [.int x3_43]) (rest := []) rfl rfl hl.1 (Nat.le_of_ble_eq_true rfl) dX8_told_101 (k1 := 0) (n1 := 0) rfl rfl ⟨Nat.le_refl _, Nat.le_refl _⟩ (fun H locs hP hD hS => ?_)
                          refine lv_iload_n hx hb dX8_told_104 rfl (lv_at hl 1 rfl) ?_
                          obtain ⟨k58, hk60, hf⟩ := jn_at hf
                          have hJ59 : ∀ (t56 : Int32) (vM_57 : Vs), k58 t56 vM_57 = some (r, vM1) → ∀ (H : Heap) (locs : List Loc), va_P g.1 vwCl (cM g bM vM_57) H → va_D A (cM g bM vM_57) → va_S A s.heap H locs → ∀ ls : Array Slot, lv_has ls 4 [(0, .ref (bM 0)), (3, .int x3_43)] → W p l e (headSpec wsX8_told rmX8_told).room s m ([.ref (bM 0), .int x1] : List Value).toArray below meth c H locs 0 0 (MQ below (qI g A (cM g bM vM1) r) ([.ref (bM 0), .int x1] : List Value).toArray s 0 0 A) (F0 m 117 ls [.int t56]) := by
                            intro t56 vM_57 hf H locs hP hD hS ls hl
                            rw [hk60] at hf
                            dsimp only at hf
                            clear hk60
                            refine lv_istore_n (lv' := [(2, .int t56), (0, .ref (bM 0)), (3, .int x3_43)]) hx hb dX8_told_117 rfl hl (by decide) rfl (fun ls hl => ?_)
                            refine lv_iinc (v := (x3_43 + (1 : Int32))) (lv' := [(3, .int (x3_43 + (1 : Int32))), (2, .int t56), (0, .ref (bM 0))]) hx hb dX8_told_118 hl (k := 2) rfl rfl (by decide) rfl (fun ls hl => ?_)
                            refine lv_goto (tgt := 91) hx hb dX8_told_121 (by decide) ?_
                            exact ih47 t56 (x3_43 + (1 : Int32)) vM_57 hf H locs hP hD hS _ (lv_sub hl [2, 1, 0] rfl)
                          refine lv_icmp_le (tgt := 116) hx hb dX8_told_105 (by decide) (fun c61 => ?_) (fun c61 => ?_)
                          · have hf := it_t hf c61
                            refine lv_iload_n hx hb dX8_told_116 rfl (lv_at hl 1 rfl) ?_
                            exact hJ59 x2_42 vM_54 hf H locs hP hD hS _ (lv_sub hl [0, 2] rfl)
                          · have hf := it_f hf c61
                            refine lv_aload_n hx hb dX8_told_108 rfl (lv_at hl 0 rfl) ?_
                            refine lv_iload_n hx hb dX8_told_109 rfl (lv_at hl 2 rfl) ?_
                            obtain ⟨r62, vM_63, hg64, hf⟩ := o2_at hf
                            refine k_viW ⟨hx, hb, hml, hown, htu⟩ hK hP hD hS hA hG (c_X8_levelOf l g bM vM_54 x3_43 r62 vM_63 hg64) (cwV 1 htu (gU_V mw_6_110 hcX8_levelOf) rfl rfl rfl hdX8_levelOf ⟨Nat.le_of_ble_eq_true rfl, Nat.le_of_ble_eq_true rfl⟩) (q0 := 0) (ci := 8) (fs := fcM bM vM_54) (q := (RX8, TX8, 23)) rfl rfl rfl (As := [.int x3_43]) (rest := []) rfl rfl hl.1 (Nat.le_of_ble_eq_true rfl) dX8_told_110 (k1 := 0) (n1 := 0) rfl rfl ⟨Nat.le_refl _, Nat.le_refl _⟩ (fun H locs hP hD hS => ?_)
                            refine lv_goto (tgt := 117) hx hb dX8_told_113 (by decide) ?_
                            exact hJ59 r62 vM_63 hf H locs hP hD hS _ (lv_sub hl [0, 2] rfl)
                    exact hL46 (0 : Int32) (0 : Int32) vM hf H locs hP hD hS _ (lv_sub hl [2, 1, 0] rfl)
  rw [hH, hlo] at hW
  exact hW
def f_X8_state (vM : Vs) (x1 : Int32) : Option (Int32 × Vs) :=
  bn (sF vM 0 (0 : Int32)) (fun (vM_1 : Vs) => o1 (f_X8_isIn x1 (0 : Int32) (8 : Int32)) (fun (r2 : Int32) => o2 (f_X8_right vM_1 r2 (1 : Int32)) (fun (r4 : Int32) (vM_5 : Vs) => jn (fun (t7 : Int32) (vM_8 : Vs) => some (t7, vM_8)) (fun k9 => if r4 = 0 then k9 (0 : Int32) vM_5 else o2 (f_X8_told vM_5 x1) (fun (r15 : Int32) (vM_16 : Vs) => k9 r15 vM_16)))))
abbrev wsX8_state : List Cond := .code yX8_state cX8_state 2 (some .int) :: UW
abbrev rmX8_state : Room := { frames := 8, cells := 0, slots := 0, locals := 187 }
set_option maxHeartbeats 4000000 in
set_option maxRecDepth 100000 in
theorem c_X8_state (l : Launch) (g : Gx) (bM : Nat → Nat) (vM : Vs) (x1 : Int32) (r : Int32) (vM1 : Vs) (hf : f_X8_state vM x1 = some (r, vM1)) : CtI l yX8_state wsX8_state rmX8_state g [.ref (bM 0), .int x1] (cM g bM vM) (cM g bM vM1) r 0 0 := by
  unfold CtI
  intro sz
  refine Met.ofW (cc := cX8_state) (maxL := 2) (ret := (some .int)) (by decide) rfl ?_
  intro p e s m args below meth c s₁ B hml hv
  obtain ⟨rfl, hsz, hP, hK, hD0, hG⟩ := hv
  have hx := B.exec
  have hb := B.bytes
  have hr := B.returns
  have hts := atoms_spec (ws := wsX8_state) B.pre
  have hown : s.vm.findClass RX8 = some m.cls := findClass_of_methodNamed B.named
  have hlocks := B.notSynchronized
  subst hsz
  have hD := hD0.self (sz := s.heap.size)
  generalize hAe : va_A (cM g bM vM) s.heap.size = A at hD hG ⊢
  have hA : ∀ q : Nat, s.heap.size ≤ q → A q := fun q h => by rw [← hAe]; exact Or.inr h
  clear hAe hD0
  have hS : va_S A s.heap s.heap [] := va_S.rf
  have hl := lv_entry ([.ref (bM 0), .int x1]) (n := 2) (Nat.le_of_ble_eq_true rfl)
  rw [lg_entry_eq]
  generalize (lg_sl ([.ref (bM 0), .int x1]) ++ List.replicate (2 - (lg_sl ([.ref (bM 0), .int x1])).length) Slot.unset).toArray = ls at hl ⊢
  have hl : lv_has ls 2 [(0, .ref (bM 0)), (1, .int x1)] := hl
  have htu : ∀ w ∈ UW, w.before _ s = true := fun w h => hts w (List.mem_cons_of_mem _ h)
  have k_5_72 := htu _ mw_5_72
  unfold f_X8_state at hf
  obtain ⟨H, hH⟩ : ∃ z, z = s.heap := ⟨_, rfl⟩
  obtain ⟨locs, hlo⟩ : ∃ z : List Loc, z = [] := ⟨_, rfl⟩
  have hS : va_S A s.heap H locs := by rw [hH, hlo]; exact hS
  rw [← hH] at hP
  have hW : W p l e (headSpec wsX8_state rmX8_state).room s m ([.ref (bM 0), .int x1] : List Value).toArray below meth c H locs 0 0 (MQ below (qI g A (cM g bM vM1) r) ([.ref (bM 0), .int x1] : List Value).toArray s 0 0 A) (F0 m 0 ls []) := by
    refine lv_aload_n hx hb dX8_state_0 rfl (lv_at hl 0 rfl) ?_
    refine lv_iconst (v := (0 : Int32)) hx hb dX8_state_1 (by decide) ?_
    refine va_put (D := g.1) (ci := 8) (fs := fcM bM vM) (v := .int (0 : Int32)) (ty := .int) (C := RX8) (T := TX8) (N := 23) hx hb htu hinX8 tyX8 tyX8_ok nmX8 hown hK hP hD hS 0 rfl rfl 0 (by decide) k_5_72 (fun _ h9 => h9) rfl (by decide +kernel) rfl rfl (Nat.le_of_ble_eq_true rfl) dX8_state_2 (fun H locs hP hD hS => ?_)
    obtain ⟨vM_1, evM_1⟩ : ∃ z, z = sF vM 0 (0 : Int32) := ⟨_, rfl⟩
    have hf := bn_at hf evM_1
    have hP : va_P g.1 vwCl (cM g bM vM_1) H := by rw [evM_1]; exact hP
    have hD : va_D A (cM g bM vM_1) := by rw [evM_1]; exact hD
    refine lv_aload_n hx hb dX8_state_5 rfl (lv_at hl 0 rfl) ?_
    refine lv_iload_n hx hb dX8_state_6 rfl (lv_at hl 1 rfl) ?_
    refine lv_iconst (v := (0 : Int32)) hx hb dX8_state_7 (by decide) ?_
    refine lv_bipush (v := (8 : Int32)) hx hb dX8_state_8 (by decide) ?_
    obtain ⟨r2, hg3, hf⟩ := o1_at hf
    refine k_si0 ⟨hx, hb, hml, hown, htu⟩ hK hP hD hS hA hG (c_X8_isIn l g x1 (0 : Int32) (8 : Int32) r2 hg3) (va_cwS 3 htu (gU_S mw_5_163 hcX8_isIn) rfl rfl rfl hdX8_isIn ⟨Nat.le_of_ble_eq_true rfl, Nat.le_of_ble_eq_true rfl⟩) (As := [.int x1, .int (0 : Int32), .int (8 : Int32)]) (rest := [.ref (bM 0)]) rfl rfl hl.1 (Nat.le_of_ble_eq_true rfl) dX8_state_10 (k1 := 0) (n1 := 0) rfl rfl ⟨Nat.le_refl _, Nat.le_refl _⟩ (fun H locs hP hD hS => ?_)
    refine lv_iconst (v := (1 : Int32)) hx hb dX8_state_13 (by decide) ?_
    obtain ⟨r4, vM_5, hg6, hf⟩ := o2_at hf
    refine k_viW ⟨hx, hb, hml, hown, htu⟩ hK hP hD hS hA hG (c_X8_right l g bM vM_1 r2 (1 : Int32) r4 vM_5 hg6) (cwV 2 htu (gU_V mw_5_166 hcX8_right) rfl rfl rfl hdX8_right ⟨Nat.le_of_ble_eq_true rfl, Nat.le_of_ble_eq_true rfl⟩) (q0 := 0) (ci := 8) (fs := fcM bM vM_1) (q := (RX8, TX8, 23)) rfl rfl rfl (As := [.int r2, .int (1 : Int32)]) (rest := []) rfl rfl hl.1 (Nat.le_of_ble_eq_true rfl) dX8_state_14 (k1 := 0) (n1 := 0) rfl rfl ⟨Nat.le_refl _, Nat.le_refl _⟩ (fun H locs hP hD hS => ?_)
    obtain ⟨k9, hk13, hf⟩ := jn_at hf
    have hJ10 : ∀ (t7 : Int32) (vM_8 : Vs), k9 t7 vM_8 = some (r, vM1) → ∀ (H : Heap) (locs : List Loc), va_P g.1 vwCl (cM g bM vM_8) H → va_D A (cM g bM vM_8) → va_S A s.heap H locs → ∀ ls : Array Slot, lv_has ls 2 [] → W p l e (headSpec wsX8_state rmX8_state).room s m ([.ref (bM 0), .int x1] : List Value).toArray below meth c H locs 0 0 (MQ below (qI g A (cM g bM vM1) r) ([.ref (bM 0), .int x1] : List Value).toArray s 0 0 A) (F0 m 29 ls [.int t7]) := by
      intro t7 vM_8 hf H locs hP hD hS ls hl
      rw [hk13] at hf
      dsimp only at hf
      clear hk13
      obtain ⟨e11, e12⟩ := kp_2 hf
      rw [e12] at hP hD
      exact k_iret hx hb hr hlocks hK hP hD hS e11 dX8_state_29
    refine lv_if_eq (tgt := 28) hx hb dX8_state_17 (by decide) (fun c14 => ?_) (fun c14 => ?_)
    · have hf := it_t hf c14
      refine lv_iconst (v := (0 : Int32)) hx hb dX8_state_28 (by decide) ?_
      exact hJ10 (0 : Int32) vM_5 hf H locs hP hD hS _ (lv_sub hl [] rfl)
    · have hf := it_f hf c14
      refine lv_aload_n hx hb dX8_state_20 rfl (lv_at hl 0 rfl) ?_
      refine lv_iload_n hx hb dX8_state_21 rfl (lv_at hl 1 rfl) ?_
      obtain ⟨r15, vM_16, hg17, hf⟩ := o2_at hf
      refine k_viW ⟨hx, hb, hml, hown, htu⟩ hK hP hD hS hA hG (c_X8_told l g bM vM_5 x1 r15 vM_16 hg17) (cwV 1 htu (gU_V mw_6_32 hcX8_told) rfl rfl rfl hdX8_told ⟨Nat.le_of_ble_eq_true rfl, Nat.le_of_ble_eq_true rfl⟩) (q0 := 0) (ci := 8) (fs := fcM bM vM_5) (q := (RX8, TX8, 23)) rfl rfl rfl (As := [.int x1]) (rest := []) rfl rfl hl.1 (Nat.le_of_ble_eq_true rfl) dX8_state_22 (k1 := 0) (n1 := 0) rfl rfl ⟨Nat.le_refl _, Nat.le_refl _⟩ (fun H locs hP hD hS => ?_)
      refine lv_goto (tgt := 29) hx hb dX8_state_25 (by decide) ?_
      exact hJ10 r15 vM_16 hf H locs hP hD hS _ (lv_sub hl [] rfl)
  rw [hH, hlo] at hW
  exact hW
def f_X8_usesOf_L18 (vM : Vs) (x1 : Int32) (x3_4 : Int32) (self5 : Int32 → Int32 → Option (Int32)) (self14 : Int32 → Int32 → Option (Int32)) (x2_12 : Int32) (x4_13 : Int32) : Option (Int32) :=
  o1 (f_X8_have vM x3_4) (fun (r17 : Int32) => if r17 ≤ x4_13 then self5 x2_12 (x3_4 + (1 : Int32)) else o1 (f_X8_operandOf vM x3_4 x4_13) (fun (r20 : Int32) => jn (fun (t22 : Int32) => self14 (x2_12 + t22) (x4_13 + (1 : Int32))) (fun k23 => if r20 = x1 then k23 (1 : Int32) else k23 (0 : Int32))))
def f_X8_usesOf_L7 (vM : Vs) (x1 : Int32) (self5 : Int32 → Int32 → Option (Int32)) (x2_3 : Int32) (x3_4 : Int32) : Option (Int32) :=
  o1 (f_X8_wires vM) (fun (r8 : Int32) => if r8 ≤ x3_4 then some (x2_3) else lp (f_X8_usesOf_L18 vM x1 x3_4 self5) (fun _ _ => none) FU x2_3 (0 : Int32))
def f_X8_usesOf (vM : Vs) (x1 : Int32) : Option (Int32) :=
  o1 (f_X8_inputs vM) (fun (r1 : Int32) => lp (f_X8_usesOf_L7 vM x1) (fun _ _ => none) FU (0 : Int32) r1)
abbrev wsX8_usesOf : List Cond := .code yX8_usesOf cX8_usesOf 5 (some .int) :: UW
abbrev rmX8_usesOf : Room := { frames := 2, cells := 0, slots := 0, locals := 43 }
set_option maxHeartbeats 4000000 in
set_option maxRecDepth 100000 in
theorem c_X8_usesOf (l : Launch) (g : Gx) (bM : Nat → Nat) (vM : Vs) (x1 : Int32) (r : Int32) (hf : f_X8_usesOf vM x1 = some r) : CtI l yX8_usesOf wsX8_usesOf rmX8_usesOf g [.ref (bM 0), .int x1] (cM g bM vM) (cM g bM vM) r 0 0 := by
  unfold CtI
  intro sz
  refine Met.ofW (cc := cX8_usesOf) (maxL := 5) (ret := (some .int)) (by decide) rfl ?_
  intro p e s m args below meth c s₁ B hml hv
  obtain ⟨rfl, hsz, hP, hK, hD0, hG⟩ := hv
  have hx := B.exec
  have hb := B.bytes
  have hr := B.returns
  have hts := atoms_spec (ws := wsX8_usesOf) B.pre
  have hown : s.vm.findClass RX8 = some m.cls := findClass_of_methodNamed B.named
  have hlocks := B.notSynchronized
  subst hsz
  have hD := hD0.self (sz := s.heap.size)
  generalize hAe : va_A (cM g bM vM) s.heap.size = A at hD hG ⊢
  have hA : ∀ q : Nat, s.heap.size ≤ q → A q := fun q h => by rw [← hAe]; exact Or.inr h
  clear hAe hD0
  have hS : va_S A s.heap s.heap [] := va_S.rf
  have hl := lv_entry ([.ref (bM 0), .int x1]) (n := 5) (Nat.le_of_ble_eq_true rfl)
  rw [lg_entry_eq]
  generalize (lg_sl ([.ref (bM 0), .int x1]) ++ List.replicate (5 - (lg_sl ([.ref (bM 0), .int x1])).length) Slot.unset).toArray = ls at hl ⊢
  have hl : lv_has ls 5 [(0, .ref (bM 0)), (1, .int x1)] := hl
  have htu : ∀ w ∈ UW, w.before _ s = true := fun w h => hts w (List.mem_cons_of_mem _ h)
  unfold f_X8_usesOf at hf
  obtain ⟨H, hH⟩ : ∃ z, z = s.heap := ⟨_, rfl⟩
  obtain ⟨locs, hlo⟩ : ∃ z : List Loc, z = [] := ⟨_, rfl⟩
  have hS : va_S A s.heap H locs := by rw [hH, hlo]; exact hS
  rw [← hH] at hP
  have hW : W p l e (headSpec wsX8_usesOf rmX8_usesOf).room s m ([.ref (bM 0), .int x1] : List Value).toArray below meth c H locs 0 0 (MQ below (qI g A (cM g bM vM) r) ([.ref (bM 0), .int x1] : List Value).toArray s 0 0 A) (F0 m 0 ls []) := by
    refine lv_iconst (v := (0 : Int32)) hx hb dX8_usesOf_0 (by decide) ?_
    refine lv_istore_n (lv' := [(2, .int (0 : Int32)), (0, .ref (bM 0)), (1, .int x1)]) hx hb dX8_usesOf_1 rfl hl (by decide) rfl (fun ls hl => ?_)
    refine lv_aload_n hx hb dX8_usesOf_2 rfl (lv_at hl 1 rfl) ?_
    obtain ⟨r1, hg2, hf⟩ := o1_at hf
    refine k_viW ⟨hx, hb, hml, hown, htu⟩ hK hP hD hS hA hG (c_X8_inputs l g bM vM r1 hg2) (cwV 0 htu (gU_V mw_6_36 hcX8_inputs) rfl rfl rfl hdX8_inputs ⟨Nat.le_of_ble_eq_true rfl, Nat.le_of_ble_eq_true rfl⟩) (q0 := 0) (ci := 8) (fs := fcM bM vM) (q := (RX8, TX8, 23)) rfl rfl rfl (As := []) (rest := []) rfl rfl hl.1 (Nat.le_of_ble_eq_true rfl) dX8_usesOf_3 (k1 := 0) (n1 := 0) rfl rfl ⟨Nat.le_refl _, Nat.le_refl _⟩ (fun H locs hP hD hS => ?_)
    refine lv_istore_n (lv' := [(3, .int r1), (2, .int (0 : Int32)), (0, .ref (bM 0)), (1, .int x1)]) hx hb dX8_usesOf_6 rfl hl (by decide) rfl (fun ls hl => ?_)
    have hL6 : ∀ (x2_3 : Int32) (x3_4 : Int32), lp (f_X8_usesOf_L7 vM x1) (fun _ _ => none) FU x2_3 x3_4 = some r → ∀ (H : Heap) (locs : List Loc), va_P g.1 vwCl (cM g bM vM) H → va_D A (cM g bM vM) → va_S A s.heap H locs → ∀ ls : Array Slot, lv_has ls 5 [(0, .ref (bM 0)), (1, .int x1), (2, .int x2_3), (3, .int x3_4)] → W p l e (headSpec wsX8_usesOf rmX8_usesOf).room s m ([.ref (bM 0), .int x1] : List Value).toArray below meth c H locs 0 0 (MQ below (qI g A (cM g bM vM) r) ([.ref (bM 0), .int x1] : List Value).toArray s 0 0 A) (F0 m 7 ls []) := by
      refine lp_ind (T := Int32 → Int32 → Option (Int32)) (fun self5 => ∀ (x2_3 : Int32) (x3_4 : Int32), self5 x2_3 x3_4 = some r → ∀ (H : Heap) (locs : List Loc), va_P g.1 vwCl (cM g bM vM) H → va_D A (cM g bM vM) → va_S A s.heap H locs → ∀ ls : Array Slot, lv_has ls 5 [(0, .ref (bM 0)), (1, .int x1), (2, .int x2_3), (3, .int x3_4)] → W p l e (headSpec wsX8_usesOf rmX8_usesOf).room s m ([.ref (bM 0), .int x1] : List Value).toArray below meth c H locs 0 0 (MQ below (qI g A (cM g bM vM) r) ([.ref (bM 0), .int x1] : List Value).toArray s 0 0 A) (F0 m 7 ls [])) ?_ ?_ FU
      · intro x2_3 x3_4 hf; cases hf
      · intro self5 ih7 x2_3 x3_4 hf H locs hP hD hS ls hl
        unfold f_X8_usesOf_L7 at hf
        refine lv_iload_n hx hb dX8_usesOf_7 rfl (lv_at hl 3 rfl) ?_
        refine lv_aload_n hx hb dX8_usesOf_8 rfl (lv_at hl 0 rfl) ?_
        obtain ⟨r8, hg9, hf⟩ := o1_at hf
        refine k_viW ⟨hx, hb, hml, hown, htu⟩ hK hP hD hS hA hG (c_X8_wires l g bM vM r8 hg9) (cwV 0 htu (gU_V mw_6_24 hcX8_wires) rfl rfl rfl hdX8_wires ⟨Nat.le_of_ble_eq_true rfl, Nat.le_of_ble_eq_true rfl⟩) (q0 := 0) (ci := 8) (fs := fcM bM vM) (q := (RX8, TX8, 23)) rfl rfl rfl (As := []) (rest := [.int x3_4]) rfl rfl hl.1 (Nat.le_of_ble_eq_true rfl) dX8_usesOf_9 (k1 := 0) (n1 := 0) rfl rfl ⟨Nat.le_refl _, Nat.le_refl _⟩ (fun H locs hP hD hS => ?_)
        refine lv_icmp_ge (tgt := 59) hx hb dX8_usesOf_12 (by decide) (fun c10 => ?_) (fun c10 => ?_)
        · have hf := it_t hf c10
          refine lv_iload_n hx hb dX8_usesOf_59 rfl (lv_at hl 2 rfl) ?_
          have e11 := Option.some.inj hf
          exact k_iret hx hb hr hlocks hK hP hD hS e11 dX8_usesOf_60
        · have hf := it_f hf c10
          refine lv_iconst (v := (0 : Int32)) hx hb dX8_usesOf_15 (by decide) ?_
          refine lv_istore (lv' := [(4, .int (0 : Int32)), (0, .ref (bM 0)), (1, .int x1), (2, .int x2_3), (3, .int x3_4)]) hx hb dX8_usesOf_16 hl (by decide) rfl (fun ls hl => ?_)
          have hL15 : ∀ (x2_12 : Int32) (x4_13 : Int32), lp (f_X8_usesOf_L18 vM x1 x3_4 self5) (fun _ _ => none) FU x2_12 x4_13 = some r → ∀ (H : Heap) (locs : List Loc), va_P g.1 vwCl (cM g bM vM) H → va_D A (cM g bM vM) → va_S A s.heap H locs → ∀ ls : Array Slot, lv_has ls 5 [(0, .ref (bM 0)), (1, .int x1), (2, .int x2_12), (3, .int x3_4), (4, .int x4_13)] → W p l e (headSpec wsX8_usesOf rmX8_usesOf).room s m ([.ref (bM 0), .int x1] : List Value).toArray below meth c H locs 0 0 (MQ below (qI g A (cM g bM vM) r) ([.ref (bM 0), .int x1] : List Value).toArray s 0 0 A) (F0 m 18 ls []) := by
            refine lp_ind (T := Int32 → Int32 → Option (Int32)) (fun self14 => ∀ (x2_12 : Int32) (x4_13 : Int32), self14 x2_12 x4_13 = some r → ∀ (H : Heap) (locs : List Loc), va_P g.1 vwCl (cM g bM vM) H → va_D A (cM g bM vM) → va_S A s.heap H locs → ∀ ls : Array Slot, lv_has ls 5 [(0, .ref (bM 0)), (1, .int x1), (2, .int x2_12), (3, .int x3_4), (4, .int x4_13)] → W p l e (headSpec wsX8_usesOf rmX8_usesOf).room s m ([.ref (bM 0), .int x1] : List Value).toArray below meth c H locs 0 0 (MQ below (qI g A (cM g bM vM) r) ([.ref (bM 0), .int x1] : List Value).toArray s 0 0 A) (F0 m 18 ls [])) ?_ ?_ FU
            · intro x2_12 x4_13 hf; cases hf
            · intro self14 ih16 x2_12 x4_13 hf H locs hP hD hS ls hl
              unfold f_X8_usesOf_L18 at hf
              refine lv_iload hx hb dX8_usesOf_18 (lv_at hl 4 rfl) ?_
              refine lv_aload_n hx hb dX8_usesOf_20 rfl (lv_at hl 0 rfl) ?_
              refine lv_iload_n hx hb dX8_usesOf_21 rfl (lv_at hl 3 rfl) ?_
              obtain ⟨r17, hg18, hf⟩ := o1_at hf
              refine k_viW ⟨hx, hb, hml, hown, htu⟩ hK hP hD hS hA hG (c_X8_have l g bM vM x3_4 r17 hg18) (cwV 1 htu (gU_V mw_6_91 hcX8_have) rfl rfl rfl hdX8_have ⟨Nat.le_of_ble_eq_true rfl, Nat.le_of_ble_eq_true rfl⟩) (q0 := 0) (ci := 8) (fs := fcM bM vM) (q := (RX8, TX8, 23)) rfl rfl rfl (As := [.int x3_4]) (rest := [.int x4_13]) rfl rfl hl.1 (Nat.le_of_ble_eq_true rfl) dX8_usesOf_22 (k1 := 0) (n1 := 0) rfl rfl ⟨Nat.le_refl _, Nat.le_refl _⟩ (fun H locs hP hD hS => ?_)
              refine lv_icmp_ge (tgt := 53) hx hb dX8_usesOf_25 (by decide) (fun c19 => ?_) (fun c19 => ?_)
              · have hf := it_t hf c19
                refine lv_iinc (v := (x3_4 + (1 : Int32))) (lv' := [(3, .int (x3_4 + (1 : Int32))), (0, .ref (bM 0)), (1, .int x1), (2, .int x2_12), (4, .int x4_13)]) hx hb dX8_usesOf_53 hl (k := 3) rfl rfl (by decide) rfl (fun ls hl => ?_)
                refine lv_goto (tgt := 7) hx hb dX8_usesOf_56 (by decide) ?_
                exact ih7 x2_12 (x3_4 + (1 : Int32)) hf H locs hP hD hS _ (lv_sub hl [1, 2, 3, 0] rfl)
              · have hf := it_f hf c19
                refine lv_iload_n hx hb dX8_usesOf_28 rfl (lv_at hl 2 rfl) ?_
                refine lv_aload_n hx hb dX8_usesOf_29 rfl (lv_at hl 0 rfl) ?_
                refine lv_iload_n hx hb dX8_usesOf_30 rfl (lv_at hl 3 rfl) ?_
                refine lv_iload hx hb dX8_usesOf_31 (lv_at hl 4 rfl) ?_
                obtain ⟨r20, hg21, hf⟩ := o1_at hf
                refine k_viW ⟨hx, hb, hml, hown, htu⟩ hK hP hD hS hA hG (c_X8_operandOf l g bM vM x3_4 x4_13 r20 hg21) (cwV 2 htu (gU_V mw_6_84 hcX8_operandOf) rfl rfl rfl hdX8_operandOf ⟨Nat.le_of_ble_eq_true rfl, Nat.le_of_ble_eq_true rfl⟩) (q0 := 0) (ci := 8) (fs := fcM bM vM) (q := (RX8, TX8, 23)) rfl rfl rfl (As := [.int x3_4, .int x4_13]) (rest := [.int x2_12]) rfl rfl hl.1 (Nat.le_of_ble_eq_true rfl) dX8_usesOf_33 (k1 := 0) (n1 := 0) rfl rfl ⟨Nat.le_refl _, Nat.le_refl _⟩ (fun H locs hP hD hS => ?_)
                refine lv_iload_n hx hb dX8_usesOf_36 rfl (lv_at hl 1 rfl) ?_
                obtain ⟨k23, hk25, hf⟩ := jn_at hf
                have hJ24 : ∀ (t22 : Int32), k23 t22 = some r → ∀ (H : Heap) (locs : List Loc), va_P g.1 vwCl (cM g bM vM) H → va_D A (cM g bM vM) → va_S A s.heap H locs → ∀ ls : Array Slot, lv_has ls 5 [(0, .ref (bM 0)), (1, .int x1), (3, .int x3_4), (4, .int x4_13)] → W p l e (headSpec wsX8_usesOf rmX8_usesOf).room s m ([.ref (bM 0), .int x1] : List Value).toArray below meth c H locs 0 0 (MQ below (qI g A (cM g bM vM) r) ([.ref (bM 0), .int x1] : List Value).toArray s 0 0 A) (F0 m 45 ls [.int t22, .int x2_12]) := by
                  intro t22 hf H locs hP hD hS ls hl
                  rw [hk25] at hf
                  dsimp only at hf
                  clear hk25
                  refine lv_iadd hx hb dX8_usesOf_45 ?_
                  refine lv_istore_n (lv' := [(2, .int (x2_12 + t22)), (0, .ref (bM 0)), (1, .int x1), (3, .int x3_4), (4, .int x4_13)]) hx hb dX8_usesOf_46 rfl hl (by decide) rfl (fun ls hl => ?_)
                  refine lv_iinc (v := (x4_13 + (1 : Int32))) (lv' := [(4, .int (x4_13 + (1 : Int32))), (2, .int (x2_12 + t22)), (0, .ref (bM 0)), (1, .int x1), (3, .int x3_4)]) hx hb dX8_usesOf_47 hl (k := 4) rfl rfl (by decide) rfl (fun ls hl => ?_)
                  refine lv_goto (tgt := 18) hx hb dX8_usesOf_50 (by decide) ?_
                  exact ih16 (x2_12 + t22) (x4_13 + (1 : Int32)) hf H locs hP hD hS _ (lv_sub hl [2, 3, 1, 4, 0] rfl)
                refine lv_icmp_ne (tgt := 44) hx hb dX8_usesOf_37 (by decide) (fun c26 => ?_) (fun c26 => ?_)
                · have hf := it_f hf c26
                  refine lv_iconst (v := (0 : Int32)) hx hb dX8_usesOf_44 (by decide) ?_
                  exact hJ24 (0 : Int32) hf H locs hP hD hS _ (lv_sub hl [0, 1, 3, 4] rfl)
                · have hf := it_t hf c26
                  refine lv_iconst (v := (1 : Int32)) hx hb dX8_usesOf_40 (by decide) ?_
                  refine lv_goto (tgt := 45) hx hb dX8_usesOf_41 (by decide) ?_
                  exact hJ24 (1 : Int32) hf H locs hP hD hS _ (lv_sub hl [0, 1, 3, 4] rfl)
          exact hL15 x2_3 (0 : Int32) hf H locs hP hD hS _ (lv_sub hl [1, 2, 3, 4, 0] rfl)
    exact hL6 (0 : Int32) r1 hf H locs hP hD hS _ (lv_sub hl [2, 3, 1, 0] rfl)
  rw [hH, hlo] at hW
  exact hW
def f_X8_outputOf_L2 (vM : Vs) (x1 : Int32) (self2 : Int32 → Option (Int32)) (x2_1 : Int32) : Option (Int32) :=
  o1 (f_X8_outputs vM) (fun (r5 : Int32) => if r5 ≤ x2_1 then some ((-1 : Int32)) else o1 (f_X8_get vM ((152 : Int32) + x2_1)) (fun (r9 : Int32) => if r9 = x1 then some (x2_1) else self2 (x2_1 + (1 : Int32))))
def f_X8_outputOf (vM : Vs) (x1 : Int32) : Option (Int32) :=
  lp (f_X8_outputOf_L2 vM x1) (fun _ => none) FU (0 : Int32)
abbrev wsX8_outputOf : List Cond := .code yX8_outputOf cX8_outputOf 3 (some .int) :: UW
abbrev rmX8_outputOf : Room := { frames := 2, cells := 0, slots := 0, locals := 41 }
set_option maxHeartbeats 4000000 in
set_option maxRecDepth 100000 in
theorem c_X8_outputOf (l : Launch) (g : Gx) (bM : Nat → Nat) (vM : Vs) (x1 : Int32) (r : Int32) (hf : f_X8_outputOf vM x1 = some r) : CtI l yX8_outputOf wsX8_outputOf rmX8_outputOf g [.ref (bM 0), .int x1] (cM g bM vM) (cM g bM vM) r 0 0 := by
  unfold CtI
  intro sz
  refine Met.ofW (cc := cX8_outputOf) (maxL := 3) (ret := (some .int)) (by decide) rfl ?_
  intro p e s m args below meth c s₁ B hml hv
  obtain ⟨rfl, hsz, hP, hK, hD0, hG⟩ := hv
  have hx := B.exec
  have hb := B.bytes
  have hr := B.returns
  have hts := atoms_spec (ws := wsX8_outputOf) B.pre
  have hown : s.vm.findClass RX8 = some m.cls := findClass_of_methodNamed B.named
  have hlocks := B.notSynchronized
  subst hsz
  have hD := hD0.self (sz := s.heap.size)
  generalize hAe : va_A (cM g bM vM) s.heap.size = A at hD hG ⊢
  have hA : ∀ q : Nat, s.heap.size ≤ q → A q := fun q h => by rw [← hAe]; exact Or.inr h
  clear hAe hD0
  have hS : va_S A s.heap s.heap [] := va_S.rf
  have hl := lv_entry ([.ref (bM 0), .int x1]) (n := 3) (Nat.le_of_ble_eq_true rfl)
  rw [lg_entry_eq]
  generalize (lg_sl ([.ref (bM 0), .int x1]) ++ List.replicate (3 - (lg_sl ([.ref (bM 0), .int x1])).length) Slot.unset).toArray = ls at hl ⊢
  have hl : lv_has ls 3 [(0, .ref (bM 0)), (1, .int x1)] := hl
  have htu : ∀ w ∈ UW, w.before _ s = true := fun w h => hts w (List.mem_cons_of_mem _ h)
  unfold f_X8_outputOf at hf
  obtain ⟨H, hH⟩ : ∃ z, z = s.heap := ⟨_, rfl⟩
  obtain ⟨locs, hlo⟩ : ∃ z : List Loc, z = [] := ⟨_, rfl⟩
  have hS : va_S A s.heap H locs := by rw [hH, hlo]; exact hS
  rw [← hH] at hP
  have hW : W p l e (headSpec wsX8_outputOf rmX8_outputOf).room s m ([.ref (bM 0), .int x1] : List Value).toArray below meth c H locs 0 0 (MQ below (qI g A (cM g bM vM) r) ([.ref (bM 0), .int x1] : List Value).toArray s 0 0 A) (F0 m 0 ls []) := by
    refine lv_iconst (v := (0 : Int32)) hx hb dX8_outputOf_0 (by decide) ?_
    refine lv_istore_n (lv' := [(2, .int (0 : Int32)), (0, .ref (bM 0)), (1, .int x1)]) hx hb dX8_outputOf_1 rfl hl (by decide) rfl (fun ls hl => ?_)
    have hL3 : ∀ (x2_1 : Int32), lp (f_X8_outputOf_L2 vM x1) (fun _ => none) FU x2_1 = some r → ∀ (H : Heap) (locs : List Loc), va_P g.1 vwCl (cM g bM vM) H → va_D A (cM g bM vM) → va_S A s.heap H locs → ∀ ls : Array Slot, lv_has ls 3 [(0, .ref (bM 0)), (1, .int x1), (2, .int x2_1)] → W p l e (headSpec wsX8_outputOf rmX8_outputOf).room s m ([.ref (bM 0), .int x1] : List Value).toArray below meth c H locs 0 0 (MQ below (qI g A (cM g bM vM) r) ([.ref (bM 0), .int x1] : List Value).toArray s 0 0 A) (F0 m 2 ls []) := by
      refine lp_ind (T := Int32 → Option (Int32)) (fun self2 => ∀ (x2_1 : Int32), self2 x2_1 = some r → ∀ (H : Heap) (locs : List Loc), va_P g.1 vwCl (cM g bM vM) H → va_D A (cM g bM vM) → va_S A s.heap H locs → ∀ ls : Array Slot, lv_has ls 3 [(0, .ref (bM 0)), (1, .int x1), (2, .int x2_1)] → W p l e (headSpec wsX8_outputOf rmX8_outputOf).room s m ([.ref (bM 0), .int x1] : List Value).toArray below meth c H locs 0 0 (MQ below (qI g A (cM g bM vM) r) ([.ref (bM 0), .int x1] : List Value).toArray s 0 0 A) (F0 m 2 ls [])) ?_ ?_ FU
      · intro x2_1 hf; cases hf
      · intro self2 ih4 x2_1 hf H locs hP hD hS ls hl
        unfold f_X8_outputOf_L2 at hf
        refine lv_iload_n hx hb dX8_outputOf_2 rfl (lv_at hl 2 rfl) ?_
        refine lv_aload_n hx hb dX8_outputOf_3 rfl (lv_at hl 0 rfl) ?_
        obtain ⟨r5, hg6, hf⟩ := o1_at hf
        refine k_viW ⟨hx, hb, hml, hown, htu⟩ hK hP hD hS hA hG (c_X8_outputs l g bM vM r5 hg6) (cwV 0 htu (gU_V mw_6_40 hcX8_outputs) rfl rfl rfl hdX8_outputs ⟨Nat.le_of_ble_eq_true rfl, Nat.le_of_ble_eq_true rfl⟩) (q0 := 0) (ci := 8) (fs := fcM bM vM) (q := (RX8, TX8, 23)) rfl rfl rfl (As := []) (rest := [.int x2_1]) rfl rfl hl.1 (Nat.le_of_ble_eq_true rfl) dX8_outputOf_4 (k1 := 0) (n1 := 0) rfl rfl ⟨Nat.le_refl _, Nat.le_refl _⟩ (fun H locs hP hD hS => ?_)
        refine lv_icmp_ge (tgt := 31) hx hb dX8_outputOf_7 (by decide) (fun c7 => ?_) (fun c7 => ?_)
        · have hf := it_t hf c7
          refine lv_iconst (v := (-1 : Int32)) hx hb dX8_outputOf_31 (by decide) ?_
          have e8 := Option.some.inj hf
          exact k_iret hx hb hr hlocks hK hP hD hS e8 dX8_outputOf_32
        · have hf := it_f hf c7
          refine lv_aload_n hx hb dX8_outputOf_10 rfl (lv_at hl 0 rfl) ?_
          refine lv_sipush (v := (152 : Int32)) hx hb dX8_outputOf_11 (by decide) ?_
          refine lv_iload_n hx hb dX8_outputOf_14 rfl (lv_at hl 2 rfl) ?_
          refine lv_iadd hx hb dX8_outputOf_15 ?_
          obtain ⟨r9, hg10, hf⟩ := o1_at hf
          refine k_viW ⟨hx, hb, hml, hown, htu⟩ hK hP hD hS hA hG (c_X8_get l g bM vM ((152 : Int32) + x2_1) r9 hg10) (cwV 1 htu (gU_V mw_6_20 hcX8_get) rfl rfl rfl hdX8_get ⟨Nat.le_of_ble_eq_true rfl, Nat.le_of_ble_eq_true rfl⟩) (q0 := 0) (ci := 8) (fs := fcM bM vM) (q := (RX8, TX8, 23)) rfl rfl rfl (As := [.int ((152 : Int32) + x2_1)]) (rest := []) rfl rfl hl.1 (Nat.le_of_ble_eq_true rfl) dX8_outputOf_16 (k1 := 0) (n1 := 0) rfl rfl ⟨Nat.le_refl _, Nat.le_refl _⟩ (fun H locs hP hD hS => ?_)
          refine lv_iload_n hx hb dX8_outputOf_19 rfl (lv_at hl 1 rfl) ?_
          refine lv_icmp_ne (tgt := 25) hx hb dX8_outputOf_20 (by decide) (fun c11 => ?_) (fun c11 => ?_)
          · have hf := it_f hf c11
            refine lv_iinc (v := (x2_1 + (1 : Int32))) (lv' := [(2, .int (x2_1 + (1 : Int32))), (0, .ref (bM 0)), (1, .int x1)]) hx hb dX8_outputOf_25 hl (k := 2) rfl rfl (by decide) rfl (fun ls hl => ?_)
            refine lv_goto (tgt := 2) hx hb dX8_outputOf_28 (by decide) ?_
            exact ih4 (x2_1 + (1 : Int32)) hf H locs hP hD hS _ (lv_sub hl [1, 2, 0] rfl)
          · have hf := it_t hf c11
            refine lv_iload_n hx hb dX8_outputOf_23 rfl (lv_at hl 2 rfl) ?_
            have e12 := Option.some.inj hf
            exact k_iret hx hb hr hlocks hK hP hD hS e12 dX8_outputOf_24
    exact hL3 (0 : Int32) hf H locs hP hD hS _ (lv_sub hl [1, 2, 0] rfl)
  rw [hH, hlo] at hW
  exact hW
def f_X8_ofWire (vM : Vs) (x1 : Int32) (x2 : Int32) : Option (Int32 × Vs) :=
  if x2 = (0 : Int32) then o1 (f_X8_kindOf vM x1) (fun (r2 : Int32) => some (r2, vM)) else if x2 = (1 : Int32) then o1 (f_X8_have vM x1) (fun (r7 : Int32) => some (r7, vM)) else if x2 = (2 : Int32) then o2 (f_X8_levelOf vM x1) (fun (r12 : Int32) (vM_13 : Vs) => some (r12, vM_13)) else if x2 = (3 : Int32) then o1 (f_X8_usesOf vM x1) (fun (r18 : Int32) => some (r18, vM)) else o1 (f_X8_outputOf vM x1) (fun (r22 : Int32) => some (r22, vM))
abbrev wsX8_ofWire : List Cond := .code yX8_ofWire cX8_ofWire 3 (some .int) :: UW
abbrev rmX8_ofWire : Room := { frames := 3, cells := 0, slots := 0, locals := 68 }
set_option maxHeartbeats 4000000 in
set_option maxRecDepth 100000 in
theorem c_X8_ofWire (l : Launch) (g : Gx) (bM : Nat → Nat) (vM : Vs) (x1 : Int32) (x2 : Int32) (r : Int32) (vM1 : Vs) (hf : f_X8_ofWire vM x1 x2 = some (r, vM1)) : CtI l yX8_ofWire wsX8_ofWire rmX8_ofWire g [.ref (bM 0), .int x1, .int x2] (cM g bM vM) (cM g bM vM1) r 0 0 := by
  unfold CtI
  intro sz
  refine Met.ofW (cc := cX8_ofWire) (maxL := 3) (ret := (some .int)) (by decide) rfl ?_
  intro p e s m args below meth c s₁ B hml hv
  obtain ⟨rfl, hsz, hP, hK, hD0, hG⟩ := hv
  have hx := B.exec
  have hb := B.bytes
  have hr := B.returns
  have hts := atoms_spec (ws := wsX8_ofWire) B.pre
  have hown : s.vm.findClass RX8 = some m.cls := findClass_of_methodNamed B.named
  have hlocks := B.notSynchronized
  subst hsz
  have hD := hD0.self (sz := s.heap.size)
  generalize hAe : va_A (cM g bM vM) s.heap.size = A at hD hG ⊢
  have hA : ∀ q : Nat, s.heap.size ≤ q → A q := fun q h => by rw [← hAe]; exact Or.inr h
  clear hAe hD0
  have hS : va_S A s.heap s.heap [] := va_S.rf
  have hl := lv_entry ([.ref (bM 0), .int x1, .int x2]) (n := 3) (Nat.le_of_ble_eq_true rfl)
  rw [lg_entry_eq]
  generalize (lg_sl ([.ref (bM 0), .int x1, .int x2]) ++ List.replicate (3 - (lg_sl ([.ref (bM 0), .int x1, .int x2])).length) Slot.unset).toArray = ls at hl ⊢
  have hl : lv_has ls 3 [(0, .ref (bM 0)), (1, .int x1), (2, .int x2)] := hl
  have htu : ∀ w ∈ UW, w.before _ s = true := fun w h => hts w (List.mem_cons_of_mem _ h)
  unfold f_X8_ofWire at hf
  obtain ⟨H, hH⟩ : ∃ z, z = s.heap := ⟨_, rfl⟩
  obtain ⟨locs, hlo⟩ : ∃ z : List Loc, z = [] := ⟨_, rfl⟩
  have hS : va_S A s.heap H locs := by rw [hH, hlo]; exact hS
  rw [← hH] at hP
  have hW : W p l e (headSpec wsX8_ofWire rmX8_ofWire).room s m ([.ref (bM 0), .int x1, .int x2] : List Value).toArray below meth c H locs 0 0 (MQ below (qI g A (cM g bM vM1) r) ([.ref (bM 0), .int x1, .int x2] : List Value).toArray s 0 0 A) (F0 m 0 ls []) := by
    refine lv_iload_n hx hb dX8_ofWire_0 rfl (lv_at hl 2 rfl) ?_
    by_cases c1 : x2 = (0 : Int32)
    · have hf := it_t hf c1
      refine lv_tableIn (off := 31) (tgt := 32) hx hb dX8_ofWire_1 (by rw [c1]; decide) (by rw [c1]; decide) (by rw [c1]; rfl) (by decide) ?_
      refine lv_aload_n hx hb dX8_ofWire_32 rfl (lv_at hl 0 rfl) ?_
      refine lv_iload_n hx hb dX8_ofWire_33 rfl (lv_at hl 1 rfl) ?_
      obtain ⟨r2, hg3, hf⟩ := o1_at hf
      refine k_viW ⟨hx, hb, hml, hown, htu⟩ hK hP hD hS hA hG (c_X8_kindOf l g bM vM x1 r2 hg3) (cwV 1 htu (gU_V mw_6_80 hcX8_kindOf) rfl rfl rfl hdX8_kindOf ⟨Nat.le_of_ble_eq_true rfl, Nat.le_of_ble_eq_true rfl⟩) (q0 := 0) (ci := 8) (fs := fcM bM vM) (q := (RX8, TX8, 23)) rfl rfl rfl (As := [.int x1]) (rest := []) rfl rfl hl.1 (Nat.le_of_ble_eq_true rfl) dX8_ofWire_34 (k1 := 0) (n1 := 0) rfl rfl ⟨Nat.le_refl _, Nat.le_refl _⟩ (fun H locs hP hD hS => ?_)
      obtain ⟨e4, e5⟩ := kp_2 hf
      rw [e5] at hP hD
      exact k_iret hx hb hr hlocks hK hP hD hS e4 dX8_ofWire_37
    · have hf := it_f hf c1
      by_cases c6 : x2 = (1 : Int32)
      · have hf := it_t hf c6
        refine lv_tableIn (off := 37) (tgt := 38) hx hb dX8_ofWire_1 (by rw [c6]; decide) (by rw [c6]; decide) (by rw [c6]; rfl) (by decide) ?_
        refine lv_aload_n hx hb dX8_ofWire_38 rfl (lv_at hl 0 rfl) ?_
        refine lv_iload_n hx hb dX8_ofWire_39 rfl (lv_at hl 1 rfl) ?_
        obtain ⟨r7, hg8, hf⟩ := o1_at hf
        refine k_viW ⟨hx, hb, hml, hown, htu⟩ hK hP hD hS hA hG (c_X8_have l g bM vM x1 r7 hg8) (cwV 1 htu (gU_V mw_6_91 hcX8_have) rfl rfl rfl hdX8_have ⟨Nat.le_of_ble_eq_true rfl, Nat.le_of_ble_eq_true rfl⟩) (q0 := 0) (ci := 8) (fs := fcM bM vM) (q := (RX8, TX8, 23)) rfl rfl rfl (As := [.int x1]) (rest := []) rfl rfl hl.1 (Nat.le_of_ble_eq_true rfl) dX8_ofWire_40 (k1 := 0) (n1 := 0) rfl rfl ⟨Nat.le_refl _, Nat.le_refl _⟩ (fun H locs hP hD hS => ?_)
        obtain ⟨e9, e10⟩ := kp_2 hf
        rw [e10] at hP hD
        exact k_iret hx hb hr hlocks hK hP hD hS e9 dX8_ofWire_43
      · have hf := it_f hf c6
        by_cases c11 : x2 = (2 : Int32)
        · have hf := it_t hf c11
          refine lv_tableIn (off := 43) (tgt := 44) hx hb dX8_ofWire_1 (by rw [c11]; decide) (by rw [c11]; decide) (by rw [c11]; rfl) (by decide) ?_
          refine lv_aload_n hx hb dX8_ofWire_44 rfl (lv_at hl 0 rfl) ?_
          refine lv_iload_n hx hb dX8_ofWire_45 rfl (lv_at hl 1 rfl) ?_
          obtain ⟨r12, vM_13, hg14, hf⟩ := o2_at hf
          refine k_viW ⟨hx, hb, hml, hown, htu⟩ hK hP hD hS hA hG (c_X8_levelOf l g bM vM x1 r12 vM_13 hg14) (cwV 1 htu (gU_V mw_6_110 hcX8_levelOf) rfl rfl rfl hdX8_levelOf ⟨Nat.le_of_ble_eq_true rfl, Nat.le_of_ble_eq_true rfl⟩) (q0 := 0) (ci := 8) (fs := fcM bM vM) (q := (RX8, TX8, 23)) rfl rfl rfl (As := [.int x1]) (rest := []) rfl rfl hl.1 (Nat.le_of_ble_eq_true rfl) dX8_ofWire_46 (k1 := 0) (n1 := 0) rfl rfl ⟨Nat.le_refl _, Nat.le_refl _⟩ (fun H locs hP hD hS => ?_)
          obtain ⟨e15, e16⟩ := kp_2 hf
          rw [e16] at hP hD
          exact k_iret hx hb hr hlocks hK hP hD hS e15 dX8_ofWire_49
        · have hf := it_f hf c11
          by_cases c17 : x2 = (3 : Int32)
          · have hf := it_t hf c17
            refine lv_tableIn (off := 49) (tgt := 50) hx hb dX8_ofWire_1 (by rw [c17]; decide) (by rw [c17]; decide) (by rw [c17]; rfl) (by decide) ?_
            refine lv_aload_n hx hb dX8_ofWire_50 rfl (lv_at hl 0 rfl) ?_
            refine lv_iload_n hx hb dX8_ofWire_51 rfl (lv_at hl 1 rfl) ?_
            obtain ⟨r18, hg19, hf⟩ := o1_at hf
            refine k_viW ⟨hx, hb, hml, hown, htu⟩ hK hP hD hS hA hG (c_X8_usesOf l g bM vM x1 r18 hg19) (cwV 1 htu (gU_V mw_6_126 hcX8_usesOf) rfl rfl rfl hdX8_usesOf ⟨Nat.le_of_ble_eq_true rfl, Nat.le_of_ble_eq_true rfl⟩) (q0 := 0) (ci := 8) (fs := fcM bM vM) (q := (RX8, TX8, 23)) rfl rfl rfl (As := [.int x1]) (rest := []) rfl rfl hl.1 (Nat.le_of_ble_eq_true rfl) dX8_ofWire_52 (k1 := 0) (n1 := 0) rfl rfl ⟨Nat.le_refl _, Nat.le_refl _⟩ (fun H locs hP hD hS => ?_)
            obtain ⟨e20, e21⟩ := kp_2 hf
            rw [e21] at hP hD
            exact k_iret hx hb hr hlocks hK hP hD hS e20 dX8_ofWire_55
          · have hf := it_f hf c17
            refine lv_tableOut (tgt := 56) hx hb dX8_ofWire_1 (by
              have zc1 : ¬ (x2).toInt = 0 := fun h9 => c1 (Int32.toInt_inj.mp (h9.trans (by decide)))
              have zc6 : ¬ (x2).toInt = 1 := fun h9 => c6 (Int32.toInt_inj.mp (h9.trans (by decide)))
              have zc11 : ¬ (x2).toInt = 2 := fun h9 => c11 (Int32.toInt_inj.mp (h9.trans (by decide)))
              have zc17 : ¬ (x2).toInt = 3 := fun h9 => c17 (Int32.toInt_inj.mp (h9.trans (by decide)))
              omega) (by decide) ?_
            refine lv_aload_n hx hb dX8_ofWire_56 rfl (lv_at hl 0 rfl) ?_
            refine lv_iload_n hx hb dX8_ofWire_57 rfl (lv_at hl 1 rfl) ?_
            obtain ⟨r22, hg23, hf⟩ := o1_at hf
            refine k_viW ⟨hx, hb, hml, hown, htu⟩ hK hP hD hS hA hG (c_X8_outputOf l g bM vM x1 r22 hg23) (cwV 1 htu (gU_V mw_6_130 hcX8_outputOf) rfl rfl rfl hdX8_outputOf ⟨Nat.le_of_ble_eq_true rfl, Nat.le_of_ble_eq_true rfl⟩) (q0 := 0) (ci := 8) (fs := fcM bM vM) (q := (RX8, TX8, 23)) rfl rfl rfl (As := [.int x1]) (rest := []) rfl rfl hl.1 (Nat.le_of_ble_eq_true rfl) dX8_ofWire_58 (k1 := 0) (n1 := 0) rfl rfl ⟨Nat.le_refl _, Nat.le_refl _⟩ (fun H locs hP hD hS => ?_)
            obtain ⟨e24, e25⟩ := kp_2 hf
            rw [e25] at hP hD
            exact k_iret hx hb hr hlocks hK hP hD hS e24 dX8_ofWire_61
  rw [hH, hlo] at hW
  exact hW
def f_X8_wire (vM : Vs) (x1 : Int32) (x2 : Int32) : Option (Int32 × Vs) :=
  bn (sF vM 0 (0 : Int32)) (fun (vM_1 : Vs) => o2 (f_X8_isWire vM_1 x1) (fun (r2 : Int32) (vM_3 : Vs) => jn (fun (t5 : Int32) (vM_6 : Vs) => some (t5, vM_6)) (fun k7 => jn (fun (vM_12 : Vs) => k7 (0 : Int32) vM_12) (fun k13 => if r2 = 0 then k13 vM_3 else o1 (f_X8_isIn x2 (0 : Int32) (4 : Int32)) (fun (r17 : Int32) => o2 (f_X8_right vM_3 r17 (2 : Int32)) (fun (r19 : Int32) (vM_20 : Vs) => if r19 = 0 then k13 vM_20 else o2 (f_X8_ofWire vM_20 x1 x2) (fun (r23 : Int32) (vM_24 : Vs) => k7 r23 vM_24)))))))
abbrev wsX8_wire : List Cond := .code yX8_wire cX8_wire 3 (some .int) :: UW
abbrev rmX8_wire : Room := { frames := 4, cells := 0, slots := 0, locals := 90 }
set_option maxHeartbeats 4000000 in
set_option maxRecDepth 100000 in
theorem c_X8_wire (l : Launch) (g : Gx) (bM : Nat → Nat) (vM : Vs) (x1 : Int32) (x2 : Int32) (r : Int32) (vM1 : Vs) (hf : f_X8_wire vM x1 x2 = some (r, vM1)) : CtI l yX8_wire wsX8_wire rmX8_wire g [.ref (bM 0), .int x1, .int x2] (cM g bM vM) (cM g bM vM1) r 0 0 := by
  unfold CtI
  intro sz
  refine Met.ofW (cc := cX8_wire) (maxL := 3) (ret := (some .int)) (by decide) rfl ?_
  intro p e s m args below meth c s₁ B hml hv
  obtain ⟨rfl, hsz, hP, hK, hD0, hG⟩ := hv
  have hx := B.exec
  have hb := B.bytes
  have hr := B.returns
  have hts := atoms_spec (ws := wsX8_wire) B.pre
  have hown : s.vm.findClass RX8 = some m.cls := findClass_of_methodNamed B.named
  have hlocks := B.notSynchronized
  subst hsz
  have hD := hD0.self (sz := s.heap.size)
  generalize hAe : va_A (cM g bM vM) s.heap.size = A at hD hG ⊢
  have hA : ∀ q : Nat, s.heap.size ≤ q → A q := fun q h => by rw [← hAe]; exact Or.inr h
  clear hAe hD0
  have hS : va_S A s.heap s.heap [] := va_S.rf
  have hl := lv_entry ([.ref (bM 0), .int x1, .int x2]) (n := 3) (Nat.le_of_ble_eq_true rfl)
  rw [lg_entry_eq]
  generalize (lg_sl ([.ref (bM 0), .int x1, .int x2]) ++ List.replicate (3 - (lg_sl ([.ref (bM 0), .int x1, .int x2])).length) Slot.unset).toArray = ls at hl ⊢
  have hl : lv_has ls 3 [(0, .ref (bM 0)), (1, .int x1), (2, .int x2)] := hl
  have htu : ∀ w ∈ UW, w.before _ s = true := fun w h => hts w (List.mem_cons_of_mem _ h)
  have k_5_72 := htu _ mw_5_72
  unfold f_X8_wire at hf
  obtain ⟨H, hH⟩ : ∃ z, z = s.heap := ⟨_, rfl⟩
  obtain ⟨locs, hlo⟩ : ∃ z : List Loc, z = [] := ⟨_, rfl⟩
  have hS : va_S A s.heap H locs := by rw [hH, hlo]; exact hS
  rw [← hH] at hP
  have hW : W p l e (headSpec wsX8_wire rmX8_wire).room s m ([.ref (bM 0), .int x1, .int x2] : List Value).toArray below meth c H locs 0 0 (MQ below (qI g A (cM g bM vM1) r) ([.ref (bM 0), .int x1, .int x2] : List Value).toArray s 0 0 A) (F0 m 0 ls []) := by
    refine lv_aload_n hx hb dX8_wire_0 rfl (lv_at hl 0 rfl) ?_
    refine lv_iconst (v := (0 : Int32)) hx hb dX8_wire_1 (by decide) ?_
    refine va_put (D := g.1) (ci := 8) (fs := fcM bM vM) (v := .int (0 : Int32)) (ty := .int) (C := RX8) (T := TX8) (N := 23) hx hb htu hinX8 tyX8 tyX8_ok nmX8 hown hK hP hD hS 0 rfl rfl 0 (by decide) k_5_72 (fun _ h9 => h9) rfl (by decide +kernel) rfl rfl (Nat.le_of_ble_eq_true rfl) dX8_wire_2 (fun H locs hP hD hS => ?_)
    obtain ⟨vM_1, evM_1⟩ : ∃ z, z = sF vM 0 (0 : Int32) := ⟨_, rfl⟩
    have hf := bn_at hf evM_1
    have hP : va_P g.1 vwCl (cM g bM vM_1) H := by rw [evM_1]; exact hP
    have hD : va_D A (cM g bM vM_1) := by rw [evM_1]; exact hD
    refine lv_aload_n hx hb dX8_wire_5 rfl (lv_at hl 0 rfl) ?_
    refine lv_iload_n hx hb dX8_wire_6 rfl (lv_at hl 1 rfl) ?_
    obtain ⟨r2, vM_3, hg4, hf⟩ := o2_at hf
    refine k_viW ⟨hx, hb, hml, hown, htu⟩ hK hP hD hS hA hG (c_X8_isWire l g bM vM_1 x1 r2 vM_3 hg4) (cwV 1 htu (gU_V mw_6_118 hcX8_isWire) rfl rfl rfl hdX8_isWire ⟨Nat.le_of_ble_eq_true rfl, Nat.le_of_ble_eq_true rfl⟩) (q0 := 0) (ci := 8) (fs := fcM bM vM_1) (q := (RX8, TX8, 23)) rfl rfl rfl (As := [.int x1]) (rest := []) rfl rfl hl.1 (Nat.le_of_ble_eq_true rfl) dX8_wire_7 (k1 := 0) (n1 := 0) rfl rfl ⟨Nat.le_refl _, Nat.le_refl _⟩ (fun H locs hP hD hS => ?_)
    obtain ⟨k7, hk11, hf⟩ := jn_at hf
    have hJ8 : ∀ (t5 : Int32) (vM_6 : Vs), k7 t5 vM_6 = some (r, vM1) → ∀ (H : Heap) (locs : List Loc), va_P g.1 vwCl (cM g bM vM_6) H → va_D A (cM g bM vM_6) → va_S A s.heap H locs → ∀ ls : Array Slot, lv_has ls 3 [] → W p l e (headSpec wsX8_wire rmX8_wire).room s m ([.ref (bM 0), .int x1, .int x2] : List Value).toArray below meth c H locs 0 0 (MQ below (qI g A (cM g bM vM1) r) ([.ref (bM 0), .int x1, .int x2] : List Value).toArray s 0 0 A) (F0 m 37 ls [.int t5]) := by
      intro t5 vM_6 hf H locs hP hD hS ls hl
      rw [hk11] at hf
      dsimp only at hf
      clear hk11
      obtain ⟨e9, e10⟩ := kp_2 hf
      rw [e10] at hP hD
      exact k_iret hx hb hr hlocks hK hP hD hS e9 dX8_wire_37
    obtain ⟨k13, hk15, hf⟩ := jn_at hf
    have hJ14 : ∀ (vM_12 : Vs), k13 vM_12 = some (r, vM1) → ∀ (H : Heap) (locs : List Loc), va_P g.1 vwCl (cM g bM vM_12) H → va_D A (cM g bM vM_12) → va_S A s.heap H locs → ∀ ls : Array Slot, lv_has ls 3 [] → W p l e (headSpec wsX8_wire rmX8_wire).room s m ([.ref (bM 0), .int x1, .int x2] : List Value).toArray below meth c H locs 0 0 (MQ below (qI g A (cM g bM vM1) r) ([.ref (bM 0), .int x1, .int x2] : List Value).toArray s 0 0 A) (F0 m 36 ls []) := by
      intro vM_12 hf H locs hP hD hS ls hl
      rw [hk15] at hf
      dsimp only at hf
      clear hk15
      refine lv_iconst (v := (0 : Int32)) hx hb dX8_wire_36 (by decide) ?_
      exact hJ8 (0 : Int32) vM_12 hf H locs hP hD hS _ (lv_sub hl [] rfl)
    refine lv_if_eq (tgt := 36) hx hb dX8_wire_10 (by decide) (fun c16 => ?_) (fun c16 => ?_)
    · have hf := it_t hf c16
      exact hJ14 vM_3 hf H locs hP hD hS _ (lv_sub hl [] rfl)
    · have hf := it_f hf c16
      refine lv_aload_n hx hb dX8_wire_13 rfl (lv_at hl 0 rfl) ?_
      refine lv_iload_n hx hb dX8_wire_14 rfl (lv_at hl 2 rfl) ?_
      refine lv_iconst (v := (0 : Int32)) hx hb dX8_wire_15 (by decide) ?_
      refine lv_iconst (v := (4 : Int32)) hx hb dX8_wire_16 (by decide) ?_
      obtain ⟨r17, hg18, hf⟩ := o1_at hf
      refine k_si0 ⟨hx, hb, hml, hown, htu⟩ hK hP hD hS hA hG (c_X8_isIn l g x2 (0 : Int32) (4 : Int32) r17 hg18) (va_cwS 3 htu (gU_S mw_5_163 hcX8_isIn) rfl rfl rfl hdX8_isIn ⟨Nat.le_of_ble_eq_true rfl, Nat.le_of_ble_eq_true rfl⟩) (As := [.int x2, .int (0 : Int32), .int (4 : Int32)]) (rest := [.ref (bM 0)]) rfl rfl hl.1 (Nat.le_of_ble_eq_true rfl) dX8_wire_17 (k1 := 0) (n1 := 0) rfl rfl ⟨Nat.le_refl _, Nat.le_refl _⟩ (fun H locs hP hD hS => ?_)
      refine lv_iconst (v := (2 : Int32)) hx hb dX8_wire_20 (by decide) ?_
      obtain ⟨r19, vM_20, hg21, hf⟩ := o2_at hf
      refine k_viW ⟨hx, hb, hml, hown, htu⟩ hK hP hD hS hA hG (c_X8_right l g bM vM_3 r17 (2 : Int32) r19 vM_20 hg21) (cwV 2 htu (gU_V mw_5_166 hcX8_right) rfl rfl rfl hdX8_right ⟨Nat.le_of_ble_eq_true rfl, Nat.le_of_ble_eq_true rfl⟩) (q0 := 0) (ci := 8) (fs := fcM bM vM_3) (q := (RX8, TX8, 23)) rfl rfl rfl (As := [.int r17, .int (2 : Int32)]) (rest := []) rfl rfl hl.1 (Nat.le_of_ble_eq_true rfl) dX8_wire_21 (k1 := 0) (n1 := 0) rfl rfl ⟨Nat.le_refl _, Nat.le_refl _⟩ (fun H locs hP hD hS => ?_)
      refine lv_if_eq (tgt := 36) hx hb dX8_wire_24 (by decide) (fun c22 => ?_) (fun c22 => ?_)
      · have hf := it_t hf c22
        exact hJ14 vM_20 hf H locs hP hD hS _ (lv_sub hl [] rfl)
      · have hf := it_f hf c22
        refine lv_aload_n hx hb dX8_wire_27 rfl (lv_at hl 0 rfl) ?_
        refine lv_iload_n hx hb dX8_wire_28 rfl (lv_at hl 1 rfl) ?_
        refine lv_iload_n hx hb dX8_wire_29 rfl (lv_at hl 2 rfl) ?_
        obtain ⟨r23, vM_24, hg25, hf⟩ := o2_at hf
        refine k_viW ⟨hx, hb, hml, hown, htu⟩ hK hP hD hS hA hG (c_X8_ofWire l g bM vM_20 x1 x2 r23 vM_24 hg25) (cwV 2 htu (gU_V mw_6_122 hcX8_ofWire) rfl rfl rfl hdX8_ofWire ⟨Nat.le_of_ble_eq_true rfl, Nat.le_of_ble_eq_true rfl⟩) (q0 := 0) (ci := 8) (fs := fcM bM vM_20) (q := (RX8, TX8, 23)) rfl rfl rfl (As := [.int x1, .int x2]) (rest := []) rfl rfl hl.1 (Nat.le_of_ble_eq_true rfl) dX8_wire_30 (k1 := 0) (n1 := 0) rfl rfl ⟨Nat.le_refl _, Nat.le_refl _⟩ (fun H locs hP hD hS => ?_)
        refine lv_goto (tgt := 37) hx hb dX8_wire_33 (by decide) ?_
        exact hJ8 r23 vM_24 hf H locs hP hD hS _ (lv_sub hl [] rfl)
  rw [hH, hlo] at hW
  exact hW
def f_X8_operand (vM : Vs) (x1 : Int32) (x2 : Int32) : Option (Int32 × Vs) :=
  bn (sF vM 0 (0 : Int32)) (fun (vM_1 : Vs) => o2 (f_X8_isWire vM_1 x1) (fun (r2 : Int32) (vM_3 : Vs) => jn (fun (t5 : Int32) (vM_6 : Vs) => some (t5, vM_6)) (fun k7 => jn (fun (vM_12 : Vs) => k7 (0 : Int32) vM_12) (fun k13 => if r2 = 0 then k13 vM_3 else o1 (f_X8_have vM_3 x1) (fun (r17 : Int32) => o1 (f_X8_isIn x2 (0 : Int32) (r17 - (1 : Int32))) (fun (r19 : Int32) => o2 (f_X8_right vM_3 r19 (2 : Int32)) (fun (r21 : Int32) (vM_22 : Vs) => if r21 = 0 then k13 vM_22 else o1 (f_X8_operandOf vM_22 x1 x2) (fun (r25 : Int32) => k7 r25 vM_22))))))))
abbrev wsX8_operand : List Cond := .code yX8_operand cX8_operand 3 (some .int) :: UW
abbrev rmX8_operand : Room := { frames := 3, cells := 0, slots := 0, locals := 62 }
set_option maxHeartbeats 4000000 in
set_option maxRecDepth 100000 in
theorem c_X8_operand (l : Launch) (g : Gx) (bM : Nat → Nat) (vM : Vs) (x1 : Int32) (x2 : Int32) (r : Int32) (vM1 : Vs) (hf : f_X8_operand vM x1 x2 = some (r, vM1)) : CtI l yX8_operand wsX8_operand rmX8_operand g [.ref (bM 0), .int x1, .int x2] (cM g bM vM) (cM g bM vM1) r 0 0 := by
  unfold CtI
  intro sz
  refine Met.ofW (cc := cX8_operand) (maxL := 3) (ret := (some .int)) (by decide) rfl ?_
  intro p e s m args below meth c s₁ B hml hv
  obtain ⟨rfl, hsz, hP, hK, hD0, hG⟩ := hv
  have hx := B.exec
  have hb := B.bytes
  have hr := B.returns
  have hts := atoms_spec (ws := wsX8_operand) B.pre
  have hown : s.vm.findClass RX8 = some m.cls := findClass_of_methodNamed B.named
  have hlocks := B.notSynchronized
  subst hsz
  have hD := hD0.self (sz := s.heap.size)
  generalize hAe : va_A (cM g bM vM) s.heap.size = A at hD hG ⊢
  have hA : ∀ q : Nat, s.heap.size ≤ q → A q := fun q h => by rw [← hAe]; exact Or.inr h
  clear hAe hD0
  have hS : va_S A s.heap s.heap [] := va_S.rf
  have hl := lv_entry ([.ref (bM 0), .int x1, .int x2]) (n := 3) (Nat.le_of_ble_eq_true rfl)
  rw [lg_entry_eq]
  generalize (lg_sl ([.ref (bM 0), .int x1, .int x2]) ++ List.replicate (3 - (lg_sl ([.ref (bM 0), .int x1, .int x2])).length) Slot.unset).toArray = ls at hl ⊢
  have hl : lv_has ls 3 [(0, .ref (bM 0)), (1, .int x1), (2, .int x2)] := hl
  have htu : ∀ w ∈ UW, w.before _ s = true := fun w h => hts w (List.mem_cons_of_mem _ h)
  have k_5_72 := htu _ mw_5_72
  unfold f_X8_operand at hf
  obtain ⟨H, hH⟩ : ∃ z, z = s.heap := ⟨_, rfl⟩
  obtain ⟨locs, hlo⟩ : ∃ z : List Loc, z = [] := ⟨_, rfl⟩
  have hS : va_S A s.heap H locs := by rw [hH, hlo]; exact hS
  rw [← hH] at hP
  have hW : W p l e (headSpec wsX8_operand rmX8_operand).room s m ([.ref (bM 0), .int x1, .int x2] : List Value).toArray below meth c H locs 0 0 (MQ below (qI g A (cM g bM vM1) r) ([.ref (bM 0), .int x1, .int x2] : List Value).toArray s 0 0 A) (F0 m 0 ls []) := by
    refine lv_aload_n hx hb dX8_operand_0 rfl (lv_at hl 0 rfl) ?_
    refine lv_iconst (v := (0 : Int32)) hx hb dX8_operand_1 (by decide) ?_
    refine va_put (D := g.1) (ci := 8) (fs := fcM bM vM) (v := .int (0 : Int32)) (ty := .int) (C := RX8) (T := TX8) (N := 23) hx hb htu hinX8 tyX8 tyX8_ok nmX8 hown hK hP hD hS 0 rfl rfl 0 (by decide) k_5_72 (fun _ h9 => h9) rfl (by decide +kernel) rfl rfl (Nat.le_of_ble_eq_true rfl) dX8_operand_2 (fun H locs hP hD hS => ?_)
    obtain ⟨vM_1, evM_1⟩ : ∃ z, z = sF vM 0 (0 : Int32) := ⟨_, rfl⟩
    have hf := bn_at hf evM_1
    have hP : va_P g.1 vwCl (cM g bM vM_1) H := by rw [evM_1]; exact hP
    have hD : va_D A (cM g bM vM_1) := by rw [evM_1]; exact hD
    refine lv_aload_n hx hb dX8_operand_5 rfl (lv_at hl 0 rfl) ?_
    refine lv_iload_n hx hb dX8_operand_6 rfl (lv_at hl 1 rfl) ?_
    obtain ⟨r2, vM_3, hg4, hf⟩ := o2_at hf
    refine k_viW ⟨hx, hb, hml, hown, htu⟩ hK hP hD hS hA hG (c_X8_isWire l g bM vM_1 x1 r2 vM_3 hg4) (cwV 1 htu (gU_V mw_6_118 hcX8_isWire) rfl rfl rfl hdX8_isWire ⟨Nat.le_of_ble_eq_true rfl, Nat.le_of_ble_eq_true rfl⟩) (q0 := 0) (ci := 8) (fs := fcM bM vM_1) (q := (RX8, TX8, 23)) rfl rfl rfl (As := [.int x1]) (rest := []) rfl rfl hl.1 (Nat.le_of_ble_eq_true rfl) dX8_operand_7 (k1 := 0) (n1 := 0) rfl rfl ⟨Nat.le_refl _, Nat.le_refl _⟩ (fun H locs hP hD hS => ?_)
    obtain ⟨k7, hk11, hf⟩ := jn_at hf
    have hJ8 : ∀ (t5 : Int32) (vM_6 : Vs), k7 t5 vM_6 = some (r, vM1) → ∀ (H : Heap) (locs : List Loc), va_P g.1 vwCl (cM g bM vM_6) H → va_D A (cM g bM vM_6) → va_S A s.heap H locs → ∀ ls : Array Slot, lv_has ls 3 [] → W p l e (headSpec wsX8_operand rmX8_operand).room s m ([.ref (bM 0), .int x1, .int x2] : List Value).toArray below meth c H locs 0 0 (MQ below (qI g A (cM g bM vM1) r) ([.ref (bM 0), .int x1, .int x2] : List Value).toArray s 0 0 A) (F0 m 43 ls [.int t5]) := by
      intro t5 vM_6 hf H locs hP hD hS ls hl
      rw [hk11] at hf
      dsimp only at hf
      clear hk11
      obtain ⟨e9, e10⟩ := kp_2 hf
      rw [e10] at hP hD
      exact k_iret hx hb hr hlocks hK hP hD hS e9 dX8_operand_43
    obtain ⟨k13, hk15, hf⟩ := jn_at hf
    have hJ14 : ∀ (vM_12 : Vs), k13 vM_12 = some (r, vM1) → ∀ (H : Heap) (locs : List Loc), va_P g.1 vwCl (cM g bM vM_12) H → va_D A (cM g bM vM_12) → va_S A s.heap H locs → ∀ ls : Array Slot, lv_has ls 3 [] → W p l e (headSpec wsX8_operand rmX8_operand).room s m ([.ref (bM 0), .int x1, .int x2] : List Value).toArray below meth c H locs 0 0 (MQ below (qI g A (cM g bM vM1) r) ([.ref (bM 0), .int x1, .int x2] : List Value).toArray s 0 0 A) (F0 m 42 ls []) := by
      intro vM_12 hf H locs hP hD hS ls hl
      rw [hk15] at hf
      dsimp only at hf
      clear hk15
      refine lv_iconst (v := (0 : Int32)) hx hb dX8_operand_42 (by decide) ?_
      exact hJ8 (0 : Int32) vM_12 hf H locs hP hD hS _ (lv_sub hl [] rfl)
    refine lv_if_eq (tgt := 42) hx hb dX8_operand_10 (by decide) (fun c16 => ?_) (fun c16 => ?_)
    · have hf := it_t hf c16
      exact hJ14 vM_3 hf H locs hP hD hS _ (lv_sub hl [] rfl)
    · have hf := it_f hf c16
      refine lv_aload_n hx hb dX8_operand_13 rfl (lv_at hl 0 rfl) ?_
      refine lv_iload_n hx hb dX8_operand_14 rfl (lv_at hl 2 rfl) ?_
      refine lv_iconst (v := (0 : Int32)) hx hb dX8_operand_15 (by decide) ?_
      refine lv_aload_n hx hb dX8_operand_16 rfl (lv_at hl 0 rfl) ?_
      refine lv_iload_n hx hb dX8_operand_17 rfl (lv_at hl 1 rfl) ?_
      obtain ⟨r17, hg18, hf⟩ := o1_at hf
      refine k_viW ⟨hx, hb, hml, hown, htu⟩ hK hP hD hS hA hG (c_X8_have l g bM vM_3 x1 r17 hg18) (cwV 1 htu (gU_V mw_6_91 hcX8_have) rfl rfl rfl hdX8_have ⟨Nat.le_of_ble_eq_true rfl, Nat.le_of_ble_eq_true rfl⟩) (q0 := 0) (ci := 8) (fs := fcM bM vM_3) (q := (RX8, TX8, 23)) rfl rfl rfl (As := [.int x1]) (rest := [.int (0 : Int32), .int x2, .ref (bM 0)]) rfl rfl hl.1 (Nat.le_of_ble_eq_true rfl) dX8_operand_18 (k1 := 0) (n1 := 0) rfl rfl ⟨Nat.le_refl _, Nat.le_refl _⟩ (fun H locs hP hD hS => ?_)
      refine lv_iconst (v := (1 : Int32)) hx hb dX8_operand_21 (by decide) ?_
      refine lv_isub hx hb dX8_operand_22 ?_
      obtain ⟨r19, hg20, hf⟩ := o1_at hf
      refine k_si0 ⟨hx, hb, hml, hown, htu⟩ hK hP hD hS hA hG (c_X8_isIn l g x2 (0 : Int32) (r17 - (1 : Int32)) r19 hg20) (va_cwS 3 htu (gU_S mw_5_163 hcX8_isIn) rfl rfl rfl hdX8_isIn ⟨Nat.le_of_ble_eq_true rfl, Nat.le_of_ble_eq_true rfl⟩) (As := [.int x2, .int (0 : Int32), .int (r17 - (1 : Int32))]) (rest := [.ref (bM 0)]) rfl rfl hl.1 (Nat.le_of_ble_eq_true rfl) dX8_operand_23 (k1 := 0) (n1 := 0) rfl rfl ⟨Nat.le_refl _, Nat.le_refl _⟩ (fun H locs hP hD hS => ?_)
      refine lv_iconst (v := (2 : Int32)) hx hb dX8_operand_26 (by decide) ?_
      obtain ⟨r21, vM_22, hg23, hf⟩ := o2_at hf
      refine k_viW ⟨hx, hb, hml, hown, htu⟩ hK hP hD hS hA hG (c_X8_right l g bM vM_3 r19 (2 : Int32) r21 vM_22 hg23) (cwV 2 htu (gU_V mw_5_166 hcX8_right) rfl rfl rfl hdX8_right ⟨Nat.le_of_ble_eq_true rfl, Nat.le_of_ble_eq_true rfl⟩) (q0 := 0) (ci := 8) (fs := fcM bM vM_3) (q := (RX8, TX8, 23)) rfl rfl rfl (As := [.int r19, .int (2 : Int32)]) (rest := []) rfl rfl hl.1 (Nat.le_of_ble_eq_true rfl) dX8_operand_27 (k1 := 0) (n1 := 0) rfl rfl ⟨Nat.le_refl _, Nat.le_refl _⟩ (fun H locs hP hD hS => ?_)
      refine lv_if_eq (tgt := 42) hx hb dX8_operand_30 (by decide) (fun c24 => ?_) (fun c24 => ?_)
      · have hf := it_t hf c24
        exact hJ14 vM_22 hf H locs hP hD hS _ (lv_sub hl [] rfl)
      · have hf := it_f hf c24
        refine lv_aload_n hx hb dX8_operand_33 rfl (lv_at hl 0 rfl) ?_
        refine lv_iload_n hx hb dX8_operand_34 rfl (lv_at hl 1 rfl) ?_
        refine lv_iload_n hx hb dX8_operand_35 rfl (lv_at hl 2 rfl) ?_
        obtain ⟨r25, hg26, hf⟩ := o1_at hf
        refine k_viW ⟨hx, hb, hml, hown, htu⟩ hK hP hD hS hA hG (c_X8_operandOf l g bM vM_22 x1 x2 r25 hg26) (cwV 2 htu (gU_V mw_6_84 hcX8_operandOf) rfl rfl rfl hdX8_operandOf ⟨Nat.le_of_ble_eq_true rfl, Nat.le_of_ble_eq_true rfl⟩) (q0 := 0) (ci := 8) (fs := fcM bM vM_22) (q := (RX8, TX8, 23)) rfl rfl rfl (As := [.int x1, .int x2]) (rest := []) rfl rfl hl.1 (Nat.le_of_ble_eq_true rfl) dX8_operand_36 (k1 := 0) (n1 := 0) rfl rfl ⟨Nat.le_refl _, Nat.le_refl _⟩ (fun H locs hP hD hS => ?_)
        refine lv_goto (tgt := 43) hx hb dX8_operand_39 (by decide) ?_
        exact hJ8 r25 vM_22 hf H locs hP hD hS _ (lv_sub hl [] rfl)
  rw [hH, hlo] at hW
  exact hW
def f_X8_value (vM : Vs) (x1 : Int32) (x2 : Int32) : Option (Int32 × Vs) :=
  bn (sF vM 0 (0 : Int32)) (fun (vM_1 : Vs) => o2 (f_X8_isTest vM_1 x1) (fun (r2 : Int32) (vM_3 : Vs) => jn (fun (vM_5 : Vs) => some ((0 : Int32), vM_5)) (fun k6 => if r2 = 0 then k6 vM_3 else o2 (f_X8_isWire vM_3 x2) (fun (r12 : Int32) (vM_13 : Vs) => if r12 = 0 then k6 vM_13 else o1 (f_X8_asksTest vM_13 x1) (fun (vM_16 : Vs) => gd (inb x2 24) (some ((vM_16.2.1 7 (x2).toNatClampNeg), vM_16)))))))
abbrev wsX8_value : List Cond := .code yX8_value cX8_value 3 (some .int) :: UW
abbrev rmX8_value : Room := { frames := 5, cells := 0, slots := 0, locals := 113 }
set_option maxHeartbeats 4000000 in
set_option maxRecDepth 100000 in
theorem c_X8_value (l : Launch) (g : Gx) (bM : Nat → Nat) (vM : Vs) (x1 : Int32) (x2 : Int32) (r : Int32) (vM1 : Vs) (hf : f_X8_value vM x1 x2 = some (r, vM1)) : CtI l yX8_value wsX8_value rmX8_value g [.ref (bM 0), .int x1, .int x2] (cM g bM vM) (cM g bM vM1) r 0 0 := by
  unfold CtI
  intro sz
  refine Met.ofW (cc := cX8_value) (maxL := 3) (ret := (some .int)) (by decide) rfl ?_
  intro p e s m args below meth c s₁ B hml hv
  obtain ⟨rfl, hsz, hP, hK, hD0, hG⟩ := hv
  have hx := B.exec
  have hb := B.bytes
  have hr := B.returns
  have hts := atoms_spec (ws := wsX8_value) B.pre
  have hown : s.vm.findClass RX8 = some m.cls := findClass_of_methodNamed B.named
  have hlocks := B.notSynchronized
  subst hsz
  have hD := hD0.self (sz := s.heap.size)
  generalize hAe : va_A (cM g bM vM) s.heap.size = A at hD hG ⊢
  have hA : ∀ q : Nat, s.heap.size ≤ q → A q := fun q h => by rw [← hAe]; exact Or.inr h
  clear hAe hD0
  have hS : va_S A s.heap s.heap [] := va_S.rf
  have hl := lv_entry ([.ref (bM 0), .int x1, .int x2]) (n := 3) (Nat.le_of_ble_eq_true rfl)
  rw [lg_entry_eq]
  generalize (lg_sl ([.ref (bM 0), .int x1, .int x2]) ++ List.replicate (3 - (lg_sl ([.ref (bM 0), .int x1, .int x2])).length) Slot.unset).toArray = ls at hl ⊢
  have hl : lv_has ls 3 [(0, .ref (bM 0)), (1, .int x1), (2, .int x2)] := hl
  have htu : ∀ w ∈ UW, w.before _ s = true := fun w h => hts w (List.mem_cons_of_mem _ h)
  have k_5_72 := htu _ mw_5_72
  have k_5_79 := htu _ mw_5_79
  unfold f_X8_value at hf
  obtain ⟨H, hH⟩ : ∃ z, z = s.heap := ⟨_, rfl⟩
  obtain ⟨locs, hlo⟩ : ∃ z : List Loc, z = [] := ⟨_, rfl⟩
  have hS : va_S A s.heap H locs := by rw [hH, hlo]; exact hS
  rw [← hH] at hP
  have hW : W p l e (headSpec wsX8_value rmX8_value).room s m ([.ref (bM 0), .int x1, .int x2] : List Value).toArray below meth c H locs 0 0 (MQ below (qI g A (cM g bM vM1) r) ([.ref (bM 0), .int x1, .int x2] : List Value).toArray s 0 0 A) (F0 m 0 ls []) := by
    refine lv_aload_n hx hb dX8_value_0 rfl (lv_at hl 0 rfl) ?_
    refine lv_iconst (v := (0 : Int32)) hx hb dX8_value_1 (by decide) ?_
    refine va_put (D := g.1) (ci := 8) (fs := fcM bM vM) (v := .int (0 : Int32)) (ty := .int) (C := RX8) (T := TX8) (N := 23) hx hb htu hinX8 tyX8 tyX8_ok nmX8 hown hK hP hD hS 0 rfl rfl 0 (by decide) k_5_72 (fun _ h9 => h9) rfl (by decide +kernel) rfl rfl (Nat.le_of_ble_eq_true rfl) dX8_value_2 (fun H locs hP hD hS => ?_)
    obtain ⟨vM_1, evM_1⟩ : ∃ z, z = sF vM 0 (0 : Int32) := ⟨_, rfl⟩
    have hf := bn_at hf evM_1
    have hP : va_P g.1 vwCl (cM g bM vM_1) H := by rw [evM_1]; exact hP
    have hD : va_D A (cM g bM vM_1) := by rw [evM_1]; exact hD
    refine lv_aload_n hx hb dX8_value_5 rfl (lv_at hl 0 rfl) ?_
    refine lv_iload_n hx hb dX8_value_6 rfl (lv_at hl 1 rfl) ?_
    obtain ⟨r2, vM_3, hg4, hf⟩ := o2_at hf
    refine k_viW ⟨hx, hb, hml, hown, htu⟩ hK hP hD hS hA hG (c_X8_isTest l g bM vM_1 x1 r2 vM_3 hg4) (cwV 1 htu (gU_V mw_6_142 hcX8_isTest) rfl rfl rfl hdX8_isTest ⟨Nat.le_of_ble_eq_true rfl, Nat.le_of_ble_eq_true rfl⟩) (q0 := 0) (ci := 8) (fs := fcM bM vM_1) (q := (RX8, TX8, 23)) rfl rfl rfl (As := [.int x1]) (rest := []) rfl rfl hl.1 (Nat.le_of_ble_eq_true rfl) dX8_value_7 (k1 := 0) (n1 := 0) rfl rfl ⟨Nat.le_refl _, Nat.le_refl _⟩ (fun H locs hP hD hS => ?_)
    obtain ⟨k6, hk10, hf⟩ := jn_at hf
    have hJ7 : ∀ (vM_5 : Vs), k6 vM_5 = some (r, vM1) → ∀ (H : Heap) (locs : List Loc), va_P g.1 vwCl (cM g bM vM_5) H → va_D A (cM g bM vM_5) → va_S A s.heap H locs → ∀ ls : Array Slot, lv_has ls 3 [] → W p l e (headSpec wsX8_value rmX8_value).room s m ([.ref (bM 0), .int x1, .int x2] : List Value).toArray below meth c H locs 0 0 (MQ below (qI g A (cM g bM vM1) r) ([.ref (bM 0), .int x1, .int x2] : List Value).toArray s 0 0 A) (F0 m 21 ls []) := by
      intro vM_5 hf H locs hP hD hS ls hl
      rw [hk10] at hf
      dsimp only at hf
      clear hk10
      refine lv_iconst (v := (0 : Int32)) hx hb dX8_value_21 (by decide) ?_
      obtain ⟨e8, e9⟩ := kp_2 hf
      rw [e9] at hP hD
      exact k_iret hx hb hr hlocks hK hP hD hS e8 dX8_value_22
    refine lv_if_eq (tgt := 21) hx hb dX8_value_10 (by decide) (fun c11 => ?_) (fun c11 => ?_)
    · have hf := it_t hf c11
      exact hJ7 vM_3 hf H locs hP hD hS _ (lv_sub hl [] rfl)
    · have hf := it_f hf c11
      refine lv_aload_n hx hb dX8_value_13 rfl (lv_at hl 0 rfl) ?_
      refine lv_iload_n hx hb dX8_value_14 rfl (lv_at hl 2 rfl) ?_
      obtain ⟨r12, vM_13, hg14, hf⟩ := o2_at hf
      refine k_viW ⟨hx, hb, hml, hown, htu⟩ hK hP hD hS hA hG (c_X8_isWire l g bM vM_3 x2 r12 vM_13 hg14) (cwV 1 htu (gU_V mw_6_118 hcX8_isWire) rfl rfl rfl hdX8_isWire ⟨Nat.le_of_ble_eq_true rfl, Nat.le_of_ble_eq_true rfl⟩) (q0 := 0) (ci := 8) (fs := fcM bM vM_3) (q := (RX8, TX8, 23)) rfl rfl rfl (As := [.int x2]) (rest := []) rfl rfl hl.1 (Nat.le_of_ble_eq_true rfl) dX8_value_15 (k1 := 0) (n1 := 0) rfl rfl ⟨Nat.le_refl _, Nat.le_refl _⟩ (fun H locs hP hD hS => ?_)
      refine lv_if_ne (tgt := 23) hx hb dX8_value_18 (by decide) (fun c15 => ?_) (fun c15 => ?_)
      · have hf := it_f hf c15
        refine lv_aload_n hx hb dX8_value_23 rfl (lv_at hl 0 rfl) ?_
        refine lv_iload_n hx hb dX8_value_24 rfl (lv_at hl 1 rfl) ?_
        obtain ⟨vM_16, hg17, hf⟩ := o1_at hf
        refine k_vvW ⟨hx, hb, hml, hown, htu⟩ hK hP hD hS hA hG (c_X8_asksTest l g bM vM_13 x1 vM_16 hg17) (cwV 1 htu (gU_V mw_6_68 hcX8_asksTest) rfl rfl rfl hdX8_asksTest ⟨Nat.le_of_ble_eq_true rfl, Nat.le_of_ble_eq_true rfl⟩) (q0 := 0) (ci := 8) (fs := fcM bM vM_13) (q := (RX8, TX8, 23)) rfl rfl rfl (As := [.int x1]) (rest := []) rfl rfl hl.1 (Nat.le_of_ble_eq_true rfl) dX8_value_25 (k1 := 0) (n1 := 0) rfl rfl ⟨Nat.le_refl _, Nat.le_refl _⟩ (fun H locs hP hD hS => ?_)
        refine lv_aload_n hx hb dX8_value_28 rfl (lv_at hl 0 rfl) ?_
        refine va_get (D := g.1) (ci := 8) (fs := fcM bM vM_16) (v := .ref (bM 8)) (C := RX8) (T := TX8) (N := 23) hx hb htu hinX8 hown hK hP 0 rfl rfl 7 (by decide) k_5_79 (fun _ h9 => h9) rfl dX8_value_29 ?_
        refine lv_iload_n hx hb dX8_value_32 rfl (lv_at hl 2 rfl) ?_
        obtain ⟨h18, hf⟩ := gd_in hf
        refine va_iald (D := g.1) (f := (vM_16.2.1 7)) hx hb hK hP 5 0 rfl rfl h18 dX8_value_33 ?_
        obtain ⟨e19, e20⟩ := kp_2 hf
        rw [e20] at hP hD
        exact k_iret hx hb hr hlocks hK hP hD hS e19 dX8_value_34
      · have hf := it_t hf c15
        exact hJ7 vM_13 hf H locs hP hD hS _ (lv_sub hl [] rfl)
  rw [hH, hlo] at hW
  exact hW
def f_X8_faulty (vM : Vs) (x1 : Int32) (x2 : Int32) (x3 : Int32) : Option (Int32 × Vs) :=
  bn (sF vM 0 (0 : Int32)) (fun (vM_1 : Vs) => o2 (f_X8_isTest vM_1 x1) (fun (r2 : Int32) (vM_3 : Vs) => jn (fun (vM_5 : Vs) => some ((0 : Int32), vM_5)) (fun k6 => if r2 = 0 then k6 vM_3 else o2 (f_X8_isFault vM_3 x2) (fun (r12 : Int32) (vM_13 : Vs) => if r12 = 0 then k6 vM_13 else o2 (f_X8_isWire vM_13 x3) (fun (r16 : Int32) (vM_17 : Vs) => if r16 = 0 then k6 vM_17 else o1 (f_X8_asksTest vM_17 x1) (fun (vM_20 : Vs) => o1 (f_X8_bends vM_20 x2) (fun (vM_22 : Vs) => gd (inb x3 24) (some ((vM_22.2.1 8 (x3).toNatClampNeg), vM_22)))))))))
abbrev wsX8_faulty : List Cond := .code yX8_faulty cX8_faulty 4 (some .int) :: UW
abbrev rmX8_faulty : Room := { frames := 5, cells := 0, slots := 0, locals := 113 }
set_option maxHeartbeats 4000000 in
set_option maxRecDepth 100000 in
theorem c_X8_faulty (l : Launch) (g : Gx) (bM : Nat → Nat) (vM : Vs) (x1 : Int32) (x2 : Int32) (x3 : Int32) (r : Int32) (vM1 : Vs) (hf : f_X8_faulty vM x1 x2 x3 = some (r, vM1)) : CtI l yX8_faulty wsX8_faulty rmX8_faulty g [.ref (bM 0), .int x1, .int x2, .int x3] (cM g bM vM) (cM g bM vM1) r 0 0 := by
  unfold CtI
  intro sz
  refine Met.ofW (cc := cX8_faulty) (maxL := 4) (ret := (some .int)) (by decide) rfl ?_
  intro p e s m args below meth c s₁ B hml hv
  obtain ⟨rfl, hsz, hP, hK, hD0, hG⟩ := hv
  have hx := B.exec
  have hb := B.bytes
  have hr := B.returns
  have hts := atoms_spec (ws := wsX8_faulty) B.pre
  have hown : s.vm.findClass RX8 = some m.cls := findClass_of_methodNamed B.named
  have hlocks := B.notSynchronized
  subst hsz
  have hD := hD0.self (sz := s.heap.size)
  generalize hAe : va_A (cM g bM vM) s.heap.size = A at hD hG ⊢
  have hA : ∀ q : Nat, s.heap.size ≤ q → A q := fun q h => by rw [← hAe]; exact Or.inr h
  clear hAe hD0
  have hS : va_S A s.heap s.heap [] := va_S.rf
  have hl := lv_entry ([.ref (bM 0), .int x1, .int x2, .int x3]) (n := 4) (Nat.le_of_ble_eq_true rfl)
  rw [lg_entry_eq]
  generalize (lg_sl ([.ref (bM 0), .int x1, .int x2, .int x3]) ++ List.replicate (4 - (lg_sl ([.ref (bM 0), .int x1, .int x2, .int x3])).length) Slot.unset).toArray = ls at hl ⊢
  have hl : lv_has ls 4 [(0, .ref (bM 0)), (1, .int x1), (2, .int x2), (3, .int x3)] := hl
  have htu : ∀ w ∈ UW, w.before _ s = true := fun w h => hts w (List.mem_cons_of_mem _ h)
  have k_5_72 := htu _ mw_5_72
  have k_5_80 := htu _ mw_5_80
  unfold f_X8_faulty at hf
  obtain ⟨H, hH⟩ : ∃ z, z = s.heap := ⟨_, rfl⟩
  obtain ⟨locs, hlo⟩ : ∃ z : List Loc, z = [] := ⟨_, rfl⟩
  have hS : va_S A s.heap H locs := by rw [hH, hlo]; exact hS
  rw [← hH] at hP
  have hW : W p l e (headSpec wsX8_faulty rmX8_faulty).room s m ([.ref (bM 0), .int x1, .int x2, .int x3] : List Value).toArray below meth c H locs 0 0 (MQ below (qI g A (cM g bM vM1) r) ([.ref (bM 0), .int x1, .int x2, .int x3] : List Value).toArray s 0 0 A) (F0 m 0 ls []) := by
    refine lv_aload_n hx hb dX8_faulty_0 rfl (lv_at hl 0 rfl) ?_
    refine lv_iconst (v := (0 : Int32)) hx hb dX8_faulty_1 (by decide) ?_
    refine va_put (D := g.1) (ci := 8) (fs := fcM bM vM) (v := .int (0 : Int32)) (ty := .int) (C := RX8) (T := TX8) (N := 23) hx hb htu hinX8 tyX8 tyX8_ok nmX8 hown hK hP hD hS 0 rfl rfl 0 (by decide) k_5_72 (fun _ h9 => h9) rfl (by decide +kernel) rfl rfl (Nat.le_of_ble_eq_true rfl) dX8_faulty_2 (fun H locs hP hD hS => ?_)
    obtain ⟨vM_1, evM_1⟩ : ∃ z, z = sF vM 0 (0 : Int32) := ⟨_, rfl⟩
    have hf := bn_at hf evM_1
    have hP : va_P g.1 vwCl (cM g bM vM_1) H := by rw [evM_1]; exact hP
    have hD : va_D A (cM g bM vM_1) := by rw [evM_1]; exact hD
    refine lv_aload_n hx hb dX8_faulty_5 rfl (lv_at hl 0 rfl) ?_
    refine lv_iload_n hx hb dX8_faulty_6 rfl (lv_at hl 1 rfl) ?_
    obtain ⟨r2, vM_3, hg4, hf⟩ := o2_at hf
    refine k_viW ⟨hx, hb, hml, hown, htu⟩ hK hP hD hS hA hG (c_X8_isTest l g bM vM_1 x1 r2 vM_3 hg4) (cwV 1 htu (gU_V mw_6_142 hcX8_isTest) rfl rfl rfl hdX8_isTest ⟨Nat.le_of_ble_eq_true rfl, Nat.le_of_ble_eq_true rfl⟩) (q0 := 0) (ci := 8) (fs := fcM bM vM_1) (q := (RX8, TX8, 23)) rfl rfl rfl (As := [.int x1]) (rest := []) rfl rfl hl.1 (Nat.le_of_ble_eq_true rfl) dX8_faulty_7 (k1 := 0) (n1 := 0) rfl rfl ⟨Nat.le_refl _, Nat.le_refl _⟩ (fun H locs hP hD hS => ?_)
    obtain ⟨k6, hk10, hf⟩ := jn_at hf
    have hJ7 : ∀ (vM_5 : Vs), k6 vM_5 = some (r, vM1) → ∀ (H : Heap) (locs : List Loc), va_P g.1 vwCl (cM g bM vM_5) H → va_D A (cM g bM vM_5) → va_S A s.heap H locs → ∀ ls : Array Slot, lv_has ls 4 [] → W p l e (headSpec wsX8_faulty rmX8_faulty).room s m ([.ref (bM 0), .int x1, .int x2, .int x3] : List Value).toArray below meth c H locs 0 0 (MQ below (qI g A (cM g bM vM1) r) ([.ref (bM 0), .int x1, .int x2, .int x3] : List Value).toArray s 0 0 A) (F0 m 29 ls []) := by
      intro vM_5 hf H locs hP hD hS ls hl
      rw [hk10] at hf
      dsimp only at hf
      clear hk10
      refine lv_iconst (v := (0 : Int32)) hx hb dX8_faulty_29 (by decide) ?_
      obtain ⟨e8, e9⟩ := kp_2 hf
      rw [e9] at hP hD
      exact k_iret hx hb hr hlocks hK hP hD hS e8 dX8_faulty_30
    refine lv_if_eq (tgt := 29) hx hb dX8_faulty_10 (by decide) (fun c11 => ?_) (fun c11 => ?_)
    · have hf := it_t hf c11
      exact hJ7 vM_3 hf H locs hP hD hS _ (lv_sub hl [] rfl)
    · have hf := it_f hf c11
      refine lv_aload_n hx hb dX8_faulty_13 rfl (lv_at hl 0 rfl) ?_
      refine lv_iload_n hx hb dX8_faulty_14 rfl (lv_at hl 2 rfl) ?_
      obtain ⟨r12, vM_13, hg14, hf⟩ := o2_at hf
      refine k_viW ⟨hx, hb, hml, hown, htu⟩ hK hP hD hS hA hG (c_X8_isFault l g bM vM_3 x2 r12 vM_13 hg14) (cwV 1 htu (gU_V mw_6_150 hcX8_isFault) rfl rfl rfl hdX8_isFault ⟨Nat.le_of_ble_eq_true rfl, Nat.le_of_ble_eq_true rfl⟩) (q0 := 0) (ci := 8) (fs := fcM bM vM_3) (q := (RX8, TX8, 23)) rfl rfl rfl (As := [.int x2]) (rest := []) rfl rfl hl.1 (Nat.le_of_ble_eq_true rfl) dX8_faulty_15 (k1 := 0) (n1 := 0) rfl rfl ⟨Nat.le_refl _, Nat.le_refl _⟩ (fun H locs hP hD hS => ?_)
      refine lv_if_eq (tgt := 29) hx hb dX8_faulty_18 (by decide) (fun c15 => ?_) (fun c15 => ?_)
      · have hf := it_t hf c15
        exact hJ7 vM_13 hf H locs hP hD hS _ (lv_sub hl [] rfl)
      · have hf := it_f hf c15
        refine lv_aload_n hx hb dX8_faulty_21 rfl (lv_at hl 0 rfl) ?_
        refine lv_iload_n hx hb dX8_faulty_22 rfl (lv_at hl 3 rfl) ?_
        obtain ⟨r16, vM_17, hg18, hf⟩ := o2_at hf
        refine k_viW ⟨hx, hb, hml, hown, htu⟩ hK hP hD hS hA hG (c_X8_isWire l g bM vM_13 x3 r16 vM_17 hg18) (cwV 1 htu (gU_V mw_6_118 hcX8_isWire) rfl rfl rfl hdX8_isWire ⟨Nat.le_of_ble_eq_true rfl, Nat.le_of_ble_eq_true rfl⟩) (q0 := 0) (ci := 8) (fs := fcM bM vM_13) (q := (RX8, TX8, 23)) rfl rfl rfl (As := [.int x3]) (rest := []) rfl rfl hl.1 (Nat.le_of_ble_eq_true rfl) dX8_faulty_23 (k1 := 0) (n1 := 0) rfl rfl ⟨Nat.le_refl _, Nat.le_refl _⟩ (fun H locs hP hD hS => ?_)
        refine lv_if_ne (tgt := 31) hx hb dX8_faulty_26 (by decide) (fun c19 => ?_) (fun c19 => ?_)
        · have hf := it_f hf c19
          refine lv_aload_n hx hb dX8_faulty_31 rfl (lv_at hl 0 rfl) ?_
          refine lv_iload_n hx hb dX8_faulty_32 rfl (lv_at hl 1 rfl) ?_
          obtain ⟨vM_20, hg21, hf⟩ := o1_at hf
          refine k_vvW ⟨hx, hb, hml, hown, htu⟩ hK hP hD hS hA hG (c_X8_asksTest l g bM vM_17 x1 vM_20 hg21) (cwV 1 htu (gU_V mw_6_68 hcX8_asksTest) rfl rfl rfl hdX8_asksTest ⟨Nat.le_of_ble_eq_true rfl, Nat.le_of_ble_eq_true rfl⟩) (q0 := 0) (ci := 8) (fs := fcM bM vM_17) (q := (RX8, TX8, 23)) rfl rfl rfl (As := [.int x1]) (rest := []) rfl rfl hl.1 (Nat.le_of_ble_eq_true rfl) dX8_faulty_33 (k1 := 0) (n1 := 0) rfl rfl ⟨Nat.le_refl _, Nat.le_refl _⟩ (fun H locs hP hD hS => ?_)
          refine lv_aload_n hx hb dX8_faulty_36 rfl (lv_at hl 0 rfl) ?_
          refine lv_iload_n hx hb dX8_faulty_37 rfl (lv_at hl 2 rfl) ?_
          obtain ⟨vM_22, hg23, hf⟩ := o1_at hf
          refine k_vvW ⟨hx, hb, hml, hown, htu⟩ hK hP hD hS hA hG (c_X8_bends l g bM vM_20 x2 vM_22 hg23) (cwV 1 htu (gU_V mw_6_102 hcX8_bends) rfl rfl rfl hdX8_bends ⟨Nat.le_of_ble_eq_true rfl, Nat.le_of_ble_eq_true rfl⟩) (q0 := 0) (ci := 8) (fs := fcM bM vM_20) (q := (RX8, TX8, 23)) rfl rfl rfl (As := [.int x2]) (rest := []) rfl rfl hl.1 (Nat.le_of_ble_eq_true rfl) dX8_faulty_38 (k1 := 0) (n1 := 0) rfl rfl ⟨Nat.le_refl _, Nat.le_refl _⟩ (fun H locs hP hD hS => ?_)
          refine lv_aload_n hx hb dX8_faulty_41 rfl (lv_at hl 0 rfl) ?_
          refine va_get (D := g.1) (ci := 8) (fs := fcM bM vM_22) (v := .ref (bM 9)) (C := RX8) (T := TX8) (N := 23) hx hb htu hinX8 hown hK hP 0 rfl rfl 8 (by decide) k_5_80 (fun _ h9 => h9) rfl dX8_faulty_42 ?_
          refine lv_iload_n hx hb dX8_faulty_45 rfl (lv_at hl 3 rfl) ?_
          obtain ⟨h24, hf⟩ := gd_in hf
          refine va_iald (D := g.1) (f := (vM_22.2.1 8)) hx hb hK hP 6 0 rfl rfl h24 dX8_faulty_46 ?_
          obtain ⟨e25, e26⟩ := kp_2 hf
          rw [e26] at hP hD
          exact k_iret hx hb hr hlocks hK hP hD hS e25 dX8_faulty_47
        · have hf := it_t hf c19
          exact hJ7 vM_17 hf H locs hP hD hS _ (lv_sub hl [] rfl)
  rw [hH, hlo] at hW
  exact hW
def f_X8_finds (vM : Vs) (x1 : Int32) (x2 : Int32) : Option (Int32 × Vs) :=
  bn (sF vM 0 (0 : Int32)) (fun (vM_1 : Vs) => o2 (f_X8_isTest vM_1 x1) (fun (r2 : Int32) (vM_3 : Vs) => jn (fun (vM_5 : Vs) => some ((0 : Int32), vM_5)) (fun k6 => if r2 = 0 then k6 vM_3 else o2 (f_X8_isFault vM_3 x2) (fun (r12 : Int32) (vM_13 : Vs) => if r12 = 0 then k6 vM_13 else o1 (f_X8_asksTest vM_13 x1) (fun (vM_16 : Vs) => o2 (f_X8_found vM_16 x2) (fun (r18 : Int32) (vM_19 : Vs) => some (r18, vM_19)))))))
abbrev wsX8_finds : List Cond := .code yX8_finds cX8_finds 3 (some .int) :: UW
abbrev rmX8_finds : Room := { frames := 5, cells := 0, slots := 0, locals := 120 }
set_option maxHeartbeats 4000000 in
set_option maxRecDepth 100000 in
theorem c_X8_finds (l : Launch) (g : Gx) (bM : Nat → Nat) (vM : Vs) (x1 : Int32) (x2 : Int32) (r : Int32) (vM1 : Vs) (hf : f_X8_finds vM x1 x2 = some (r, vM1)) : CtI l yX8_finds wsX8_finds rmX8_finds g [.ref (bM 0), .int x1, .int x2] (cM g bM vM) (cM g bM vM1) r 0 0 := by
  unfold CtI
  intro sz
  refine Met.ofW (cc := cX8_finds) (maxL := 3) (ret := (some .int)) (by decide) rfl ?_
  intro p e s m args below meth c s₁ B hml hv
  obtain ⟨rfl, hsz, hP, hK, hD0, hG⟩ := hv
  have hx := B.exec
  have hb := B.bytes
  have hr := B.returns
  have hts := atoms_spec (ws := wsX8_finds) B.pre
  have hown : s.vm.findClass RX8 = some m.cls := findClass_of_methodNamed B.named
  have hlocks := B.notSynchronized
  subst hsz
  have hD := hD0.self (sz := s.heap.size)
  generalize hAe : va_A (cM g bM vM) s.heap.size = A at hD hG ⊢
  have hA : ∀ q : Nat, s.heap.size ≤ q → A q := fun q h => by rw [← hAe]; exact Or.inr h
  clear hAe hD0
  have hS : va_S A s.heap s.heap [] := va_S.rf
  have hl := lv_entry ([.ref (bM 0), .int x1, .int x2]) (n := 3) (Nat.le_of_ble_eq_true rfl)
  rw [lg_entry_eq]
  generalize (lg_sl ([.ref (bM 0), .int x1, .int x2]) ++ List.replicate (3 - (lg_sl ([.ref (bM 0), .int x1, .int x2])).length) Slot.unset).toArray = ls at hl ⊢
  have hl : lv_has ls 3 [(0, .ref (bM 0)), (1, .int x1), (2, .int x2)] := hl
  have htu : ∀ w ∈ UW, w.before _ s = true := fun w h => hts w (List.mem_cons_of_mem _ h)
  have k_5_72 := htu _ mw_5_72
  unfold f_X8_finds at hf
  obtain ⟨H, hH⟩ : ∃ z, z = s.heap := ⟨_, rfl⟩
  obtain ⟨locs, hlo⟩ : ∃ z : List Loc, z = [] := ⟨_, rfl⟩
  have hS : va_S A s.heap H locs := by rw [hH, hlo]; exact hS
  rw [← hH] at hP
  have hW : W p l e (headSpec wsX8_finds rmX8_finds).room s m ([.ref (bM 0), .int x1, .int x2] : List Value).toArray below meth c H locs 0 0 (MQ below (qI g A (cM g bM vM1) r) ([.ref (bM 0), .int x1, .int x2] : List Value).toArray s 0 0 A) (F0 m 0 ls []) := by
    refine lv_aload_n hx hb dX8_finds_0 rfl (lv_at hl 0 rfl) ?_
    refine lv_iconst (v := (0 : Int32)) hx hb dX8_finds_1 (by decide) ?_
    refine va_put (D := g.1) (ci := 8) (fs := fcM bM vM) (v := .int (0 : Int32)) (ty := .int) (C := RX8) (T := TX8) (N := 23) hx hb htu hinX8 tyX8 tyX8_ok nmX8 hown hK hP hD hS 0 rfl rfl 0 (by decide) k_5_72 (fun _ h9 => h9) rfl (by decide +kernel) rfl rfl (Nat.le_of_ble_eq_true rfl) dX8_finds_2 (fun H locs hP hD hS => ?_)
    obtain ⟨vM_1, evM_1⟩ : ∃ z, z = sF vM 0 (0 : Int32) := ⟨_, rfl⟩
    have hf := bn_at hf evM_1
    have hP : va_P g.1 vwCl (cM g bM vM_1) H := by rw [evM_1]; exact hP
    have hD : va_D A (cM g bM vM_1) := by rw [evM_1]; exact hD
    refine lv_aload_n hx hb dX8_finds_5 rfl (lv_at hl 0 rfl) ?_
    refine lv_iload_n hx hb dX8_finds_6 rfl (lv_at hl 1 rfl) ?_
    obtain ⟨r2, vM_3, hg4, hf⟩ := o2_at hf
    refine k_viW ⟨hx, hb, hml, hown, htu⟩ hK hP hD hS hA hG (c_X8_isTest l g bM vM_1 x1 r2 vM_3 hg4) (cwV 1 htu (gU_V mw_6_142 hcX8_isTest) rfl rfl rfl hdX8_isTest ⟨Nat.le_of_ble_eq_true rfl, Nat.le_of_ble_eq_true rfl⟩) (q0 := 0) (ci := 8) (fs := fcM bM vM_1) (q := (RX8, TX8, 23)) rfl rfl rfl (As := [.int x1]) (rest := []) rfl rfl hl.1 (Nat.le_of_ble_eq_true rfl) dX8_finds_7 (k1 := 0) (n1 := 0) rfl rfl ⟨Nat.le_refl _, Nat.le_refl _⟩ (fun H locs hP hD hS => ?_)
    obtain ⟨k6, hk10, hf⟩ := jn_at hf
    have hJ7 : ∀ (vM_5 : Vs), k6 vM_5 = some (r, vM1) → ∀ (H : Heap) (locs : List Loc), va_P g.1 vwCl (cM g bM vM_5) H → va_D A (cM g bM vM_5) → va_S A s.heap H locs → ∀ ls : Array Slot, lv_has ls 3 [] → W p l e (headSpec wsX8_finds rmX8_finds).room s m ([.ref (bM 0), .int x1, .int x2] : List Value).toArray below meth c H locs 0 0 (MQ below (qI g A (cM g bM vM1) r) ([.ref (bM 0), .int x1, .int x2] : List Value).toArray s 0 0 A) (F0 m 21 ls []) := by
      intro vM_5 hf H locs hP hD hS ls hl
      rw [hk10] at hf
      dsimp only at hf
      clear hk10
      refine lv_iconst (v := (0 : Int32)) hx hb dX8_finds_21 (by decide) ?_
      obtain ⟨e8, e9⟩ := kp_2 hf
      rw [e9] at hP hD
      exact k_iret hx hb hr hlocks hK hP hD hS e8 dX8_finds_22
    refine lv_if_eq (tgt := 21) hx hb dX8_finds_10 (by decide) (fun c11 => ?_) (fun c11 => ?_)
    · have hf := it_t hf c11
      exact hJ7 vM_3 hf H locs hP hD hS _ (lv_sub hl [] rfl)
    · have hf := it_f hf c11
      refine lv_aload_n hx hb dX8_finds_13 rfl (lv_at hl 0 rfl) ?_
      refine lv_iload_n hx hb dX8_finds_14 rfl (lv_at hl 2 rfl) ?_
      obtain ⟨r12, vM_13, hg14, hf⟩ := o2_at hf
      refine k_viW ⟨hx, hb, hml, hown, htu⟩ hK hP hD hS hA hG (c_X8_isFault l g bM vM_3 x2 r12 vM_13 hg14) (cwV 1 htu (gU_V mw_6_150 hcX8_isFault) rfl rfl rfl hdX8_isFault ⟨Nat.le_of_ble_eq_true rfl, Nat.le_of_ble_eq_true rfl⟩) (q0 := 0) (ci := 8) (fs := fcM bM vM_3) (q := (RX8, TX8, 23)) rfl rfl rfl (As := [.int x2]) (rest := []) rfl rfl hl.1 (Nat.le_of_ble_eq_true rfl) dX8_finds_15 (k1 := 0) (n1 := 0) rfl rfl ⟨Nat.le_refl _, Nat.le_refl _⟩ (fun H locs hP hD hS => ?_)
      refine lv_if_ne (tgt := 23) hx hb dX8_finds_18 (by decide) (fun c15 => ?_) (fun c15 => ?_)
      · have hf := it_f hf c15
        refine lv_aload_n hx hb dX8_finds_23 rfl (lv_at hl 0 rfl) ?_
        refine lv_iload_n hx hb dX8_finds_24 rfl (lv_at hl 1 rfl) ?_
        obtain ⟨vM_16, hg17, hf⟩ := o1_at hf
        refine k_vvW ⟨hx, hb, hml, hown, htu⟩ hK hP hD hS hA hG (c_X8_asksTest l g bM vM_13 x1 vM_16 hg17) (cwV 1 htu (gU_V mw_6_68 hcX8_asksTest) rfl rfl rfl hdX8_asksTest ⟨Nat.le_of_ble_eq_true rfl, Nat.le_of_ble_eq_true rfl⟩) (q0 := 0) (ci := 8) (fs := fcM bM vM_13) (q := (RX8, TX8, 23)) rfl rfl rfl (As := [.int x1]) (rest := []) rfl rfl hl.1 (Nat.le_of_ble_eq_true rfl) dX8_finds_25 (k1 := 0) (n1 := 0) rfl rfl ⟨Nat.le_refl _, Nat.le_refl _⟩ (fun H locs hP hD hS => ?_)
        refine lv_aload_n hx hb dX8_finds_28 rfl (lv_at hl 0 rfl) ?_
        refine lv_iload_n hx hb dX8_finds_29 rfl (lv_at hl 2 rfl) ?_
        obtain ⟨r18, vM_19, hg20, hf⟩ := o2_at hf
        refine k_viW ⟨hx, hb, hml, hown, htu⟩ hK hP hD hS hA hG (c_X8_found l g bM vM_16 x2 r18 vM_19 hg20) (cwV 1 htu (gU_V mw_6_98 hcX8_found) rfl rfl rfl hdX8_found ⟨Nat.le_of_ble_eq_true rfl, Nat.le_of_ble_eq_true rfl⟩) (q0 := 0) (ci := 8) (fs := fcM bM vM_16) (q := (RX8, TX8, 23)) rfl rfl rfl (As := [.int x2]) (rest := []) rfl rfl hl.1 (Nat.le_of_ble_eq_true rfl) dX8_finds_30 (k1 := 0) (n1 := 0) rfl rfl ⟨Nat.le_refl _, Nat.le_refl _⟩ (fun H locs hP hD hS => ?_)
        obtain ⟨e21, e22⟩ := kp_2 hf
        rw [e22] at hP hD
        exact k_iret hx hb hr hlocks hK hP hD hS e21 dX8_finds_33
      · have hf := it_t hf c15
        exact hJ7 vM_13 hf H locs hP hD hS _ (lv_sub hl [] rfl)
  rw [hH, hlo] at hW
  exact hW
def f_X8_tellsApart_L84 (vM_33 : Vs) (self36 : Int32 → Option (Int32 × Vs)) (x4_35 : Int32) : Option (Int32 × Vs) :=
  o1 (f_X8_outputs vM_33) (fun (r39 : Int32) => if r39 ≤ x4_35 then gd (isB (0 : Int32)) (some ((0 : Int32), vM_33)) else gd (inb x4_35 6) (jn (self36 (x4_35 + (1 : Int32))) (fun k46 => if (vM_33.2.1 20 (x4_35).toNatClampNeg) = (2 : Int32) then k46 else o1 (f_X8_atOutput_bent vM_33 x4_35) (fun (r50 : Int32) => if r50 = (2 : Int32) then k46 else gd (inb x4_35 6) (o1 (f_X8_atOutput_bent vM_33 x4_35) (fun (r54 : Int32) => if (vM_33.2.1 20 (x4_35).toNatClampNeg) = r54 then k46 else gd (isB (1 : Int32)) (some ((1 : Int32), vM_33))))))))
def f_X8_tellsApart_L44 (x3 : Int32) (self27 : Int32 → Vs → Option (Int32 × Vs)) (x4_25 : Int32) (vM_26 : Vs) : Option (Int32 × Vs) :=
  o1 (f_X8_outputs vM_26) (fun (r30 : Int32) => if r30 ≤ x4_25 then o1 (f_X8_bends vM_26 x3) (fun (vM_33 : Vs) => lp (f_X8_tellsApart_L84 vM_33) (fun _ => none) FU (0 : Int32)) else o1 (f_X8_atOutput_bent vM_26 x4_25) (fun (r60 : Int32) => gd (inb x4_25 6) (bn (sI vM_26 20 (x4_25).toNatClampNeg r60) (fun (vM_63 : Vs) => self27 (x4_25 + (1 : Int32)) vM_63))))
def f_X8_tellsApart (vM : Vs) (x1 : Int32) (x2 : Int32) (x3 : Int32) : Option (Int32 × Vs) :=
  bn (sF vM 0 (0 : Int32)) (fun (vM_1 : Vs) => o2 (f_X8_isTest vM_1 x1) (fun (r2 : Int32) (vM_3 : Vs) => jn (fun (vM_5 : Vs) => gd (isB (0 : Int32)) (some ((0 : Int32), vM_5))) (fun k6 => if r2 = 0 then k6 vM_3 else o2 (f_X8_isFault vM_3 x2) (fun (r13 : Int32) (vM_14 : Vs) => if r13 = 0 then k6 vM_14 else o2 (f_X8_isFault vM_14 x3) (fun (r17 : Int32) (vM_18 : Vs) => if r17 = 0 then k6 vM_18 else o1 (f_X8_asksTest vM_18 x1) (fun (vM_21 : Vs) => o1 (f_X8_bends vM_21 x2) (fun (vM_23 : Vs) => lp (f_X8_tellsApart_L44 x3) (fun _ _ => none) FU (0 : Int32) vM_23)))))))
abbrev wsX8_tellsApart : List Cond := .code yX8_tellsApart cX8_tellsApart 5 (some .boolean) :: UW
abbrev rmX8_tellsApart : Room := { frames := 5, cells := 0, slots := 0, locals := 113 }
set_option maxHeartbeats 4000000 in
set_option maxRecDepth 100000 in
theorem c_X8_tellsApart (l : Launch) (g : Gx) (bM : Nat → Nat) (vM : Vs) (x1 : Int32) (x2 : Int32) (x3 : Int32) (r : Int32) (vM1 : Vs) (hf : f_X8_tellsApart vM x1 x2 x3 = some (r, vM1)) : CtI l yX8_tellsApart wsX8_tellsApart rmX8_tellsApart g [.ref (bM 0), .int x1, .int x2, .int x3] (cM g bM vM) (cM g bM vM1) r 0 0 := by
  unfold CtI
  intro sz
  refine Met.ofW (cc := cX8_tellsApart) (maxL := 5) (ret := (some .boolean)) (by decide) rfl ?_
  intro p e s m args below meth c s₁ B hml hv
  obtain ⟨rfl, hsz, hP, hK, hD0, hG⟩ := hv
  have hx := B.exec
  have hb := B.bytes
  have hr := B.returns
  have hts := atoms_spec (ws := wsX8_tellsApart) B.pre
  have hown : s.vm.findClass RX8 = some m.cls := findClass_of_methodNamed B.named
  have hlocks := B.notSynchronized
  subst hsz
  have hD := hD0.self (sz := s.heap.size)
  generalize hAe : va_A (cM g bM vM) s.heap.size = A at hD hG ⊢
  have hA : ∀ q : Nat, s.heap.size ≤ q → A q := fun q h => by rw [← hAe]; exact Or.inr h
  clear hAe hD0
  have hS : va_S A s.heap s.heap [] := va_S.rf
  have hl := lv_entry ([.ref (bM 0), .int x1, .int x2, .int x3]) (n := 5) (Nat.le_of_ble_eq_true rfl)
  rw [lg_entry_eq]
  generalize (lg_sl ([.ref (bM 0), .int x1, .int x2, .int x3]) ++ List.replicate (5 - (lg_sl ([.ref (bM 0), .int x1, .int x2, .int x3])).length) Slot.unset).toArray = ls at hl ⊢
  have hl : lv_has ls 5 [(0, .ref (bM 0)), (1, .int x1), (2, .int x2), (3, .int x3)] := hl
  have htu : ∀ w ∈ UW, w.before _ s = true := fun w h => hts w (List.mem_cons_of_mem _ h)
  have k_5_72 := htu _ mw_5_72
  have k_5_92 := htu _ mw_5_92
  have k_5_80 := htu _ mw_5_80
  unfold f_X8_tellsApart at hf
  obtain ⟨H, hH⟩ : ∃ z, z = s.heap := ⟨_, rfl⟩
  obtain ⟨locs, hlo⟩ : ∃ z : List Loc, z = [] := ⟨_, rfl⟩
  have hS : va_S A s.heap H locs := by rw [hH, hlo]; exact hS
  rw [← hH] at hP
  have hW : W p l e (headSpec wsX8_tellsApart rmX8_tellsApart).room s m ([.ref (bM 0), .int x1, .int x2, .int x3] : List Value).toArray below meth c H locs 0 0 (MQ below (qI g A (cM g bM vM1) r) ([.ref (bM 0), .int x1, .int x2, .int x3] : List Value).toArray s 0 0 A) (F0 m 0 ls []) := by
    refine lv_aload_n hx hb dX8_tellsApart_0 rfl (lv_at hl 0 rfl) ?_
    refine lv_iconst (v := (0 : Int32)) hx hb dX8_tellsApart_1 (by decide) ?_
    refine va_put (D := g.1) (ci := 8) (fs := fcM bM vM) (v := .int (0 : Int32)) (ty := .int) (C := RX8) (T := TX8) (N := 23) hx hb htu hinX8 tyX8 tyX8_ok nmX8 hown hK hP hD hS 0 rfl rfl 0 (by decide) k_5_72 (fun _ h9 => h9) rfl (by decide +kernel) rfl rfl (Nat.le_of_ble_eq_true rfl) dX8_tellsApart_2 (fun H locs hP hD hS => ?_)
    obtain ⟨vM_1, evM_1⟩ : ∃ z, z = sF vM 0 (0 : Int32) := ⟨_, rfl⟩
    have hf := bn_at hf evM_1
    have hP : va_P g.1 vwCl (cM g bM vM_1) H := by rw [evM_1]; exact hP
    have hD : va_D A (cM g bM vM_1) := by rw [evM_1]; exact hD
    refine lv_aload_n hx hb dX8_tellsApart_5 rfl (lv_at hl 0 rfl) ?_
    refine lv_iload_n hx hb dX8_tellsApart_6 rfl (lv_at hl 1 rfl) ?_
    obtain ⟨r2, vM_3, hg4, hf⟩ := o2_at hf
    refine k_viW ⟨hx, hb, hml, hown, htu⟩ hK hP hD hS hA hG (c_X8_isTest l g bM vM_1 x1 r2 vM_3 hg4) (cwV 1 htu (gU_V mw_6_142 hcX8_isTest) rfl rfl rfl hdX8_isTest ⟨Nat.le_of_ble_eq_true rfl, Nat.le_of_ble_eq_true rfl⟩) (q0 := 0) (ci := 8) (fs := fcM bM vM_1) (q := (RX8, TX8, 23)) rfl rfl rfl (As := [.int x1]) (rest := []) rfl rfl hl.1 (Nat.le_of_ble_eq_true rfl) dX8_tellsApart_7 (k1 := 0) (n1 := 0) rfl rfl ⟨Nat.le_refl _, Nat.le_refl _⟩ (fun H locs hP hD hS => ?_)
    obtain ⟨k6, hk11, hf⟩ := jn_at hf
    have hJ7 : ∀ (vM_5 : Vs), k6 vM_5 = some (r, vM1) → ∀ (H : Heap) (locs : List Loc), va_P g.1 vwCl (cM g bM vM_5) H → va_D A (cM g bM vM_5) → va_S A s.heap H locs → ∀ ls : Array Slot, lv_has ls 5 [] → W p l e (headSpec wsX8_tellsApart rmX8_tellsApart).room s m ([.ref (bM 0), .int x1, .int x2, .int x3] : List Value).toArray below meth c H locs 0 0 (MQ below (qI g A (cM g bM vM1) r) ([.ref (bM 0), .int x1, .int x2, .int x3] : List Value).toArray s 0 0 A) (F0 m 29 ls []) := by
      intro vM_5 hf H locs hP hD hS ls hl
      rw [hk11] at hf
      dsimp only at hf
      clear hk11
      refine lv_iconst (v := (0 : Int32)) hx hb dX8_tellsApart_29 (by decide) ?_
      obtain ⟨h8, hf⟩ := gd_isB hf
      obtain ⟨e9, e10⟩ := kp_2 hf
      rw [e10] at hP hD
      exact k_zret hx hb hr hlocks hK hP hD hS e9 h8 dX8_tellsApart_30
    refine lv_if_eq (tgt := 29) hx hb dX8_tellsApart_10 (by decide) (fun c12 => ?_) (fun c12 => ?_)
    · have hf := it_t hf c12
      exact hJ7 vM_3 hf H locs hP hD hS _ (lv_sub hl [] rfl)
    · have hf := it_f hf c12
      refine lv_aload_n hx hb dX8_tellsApart_13 rfl (lv_at hl 0 rfl) ?_
      refine lv_iload_n hx hb dX8_tellsApart_14 rfl (lv_at hl 2 rfl) ?_
      obtain ⟨r13, vM_14, hg15, hf⟩ := o2_at hf
      refine k_viW ⟨hx, hb, hml, hown, htu⟩ hK hP hD hS hA hG (c_X8_isFault l g bM vM_3 x2 r13 vM_14 hg15) (cwV 1 htu (gU_V mw_6_150 hcX8_isFault) rfl rfl rfl hdX8_isFault ⟨Nat.le_of_ble_eq_true rfl, Nat.le_of_ble_eq_true rfl⟩) (q0 := 0) (ci := 8) (fs := fcM bM vM_3) (q := (RX8, TX8, 23)) rfl rfl rfl (As := [.int x2]) (rest := []) rfl rfl hl.1 (Nat.le_of_ble_eq_true rfl) dX8_tellsApart_15 (k1 := 0) (n1 := 0) rfl rfl ⟨Nat.le_refl _, Nat.le_refl _⟩ (fun H locs hP hD hS => ?_)
      refine lv_if_eq (tgt := 29) hx hb dX8_tellsApart_18 (by decide) (fun c16 => ?_) (fun c16 => ?_)
      · have hf := it_t hf c16
        exact hJ7 vM_14 hf H locs hP hD hS _ (lv_sub hl [] rfl)
      · have hf := it_f hf c16
        refine lv_aload_n hx hb dX8_tellsApart_21 rfl (lv_at hl 0 rfl) ?_
        refine lv_iload_n hx hb dX8_tellsApart_22 rfl (lv_at hl 3 rfl) ?_
        obtain ⟨r17, vM_18, hg19, hf⟩ := o2_at hf
        refine k_viW ⟨hx, hb, hml, hown, htu⟩ hK hP hD hS hA hG (c_X8_isFault l g bM vM_14 x3 r17 vM_18 hg19) (cwV 1 htu (gU_V mw_6_150 hcX8_isFault) rfl rfl rfl hdX8_isFault ⟨Nat.le_of_ble_eq_true rfl, Nat.le_of_ble_eq_true rfl⟩) (q0 := 0) (ci := 8) (fs := fcM bM vM_14) (q := (RX8, TX8, 23)) rfl rfl rfl (As := [.int x3]) (rest := []) rfl rfl hl.1 (Nat.le_of_ble_eq_true rfl) dX8_tellsApart_23 (k1 := 0) (n1 := 0) rfl rfl ⟨Nat.le_refl _, Nat.le_refl _⟩ (fun H locs hP hD hS => ?_)
        refine lv_if_ne (tgt := 31) hx hb dX8_tellsApart_26 (by decide) (fun c20 => ?_) (fun c20 => ?_)
        · have hf := it_f hf c20
          refine lv_aload_n hx hb dX8_tellsApart_31 rfl (lv_at hl 0 rfl) ?_
          refine lv_iload_n hx hb dX8_tellsApart_32 rfl (lv_at hl 1 rfl) ?_
          obtain ⟨vM_21, hg22, hf⟩ := o1_at hf
          refine k_vvW ⟨hx, hb, hml, hown, htu⟩ hK hP hD hS hA hG (c_X8_asksTest l g bM vM_18 x1 vM_21 hg22) (cwV 1 htu (gU_V mw_6_68 hcX8_asksTest) rfl rfl rfl hdX8_asksTest ⟨Nat.le_of_ble_eq_true rfl, Nat.le_of_ble_eq_true rfl⟩) (q0 := 0) (ci := 8) (fs := fcM bM vM_18) (q := (RX8, TX8, 23)) rfl rfl rfl (As := [.int x1]) (rest := []) rfl rfl hl.1 (Nat.le_of_ble_eq_true rfl) dX8_tellsApart_33 (k1 := 0) (n1 := 0) rfl rfl ⟨Nat.le_refl _, Nat.le_refl _⟩ (fun H locs hP hD hS => ?_)
          refine lv_aload_n hx hb dX8_tellsApart_36 rfl (lv_at hl 0 rfl) ?_
          refine lv_iload_n hx hb dX8_tellsApart_37 rfl (lv_at hl 2 rfl) ?_
          obtain ⟨vM_23, hg24, hf⟩ := o1_at hf
          refine k_vvW ⟨hx, hb, hml, hown, htu⟩ hK hP hD hS hA hG (c_X8_bends l g bM vM_21 x2 vM_23 hg24) (cwV 1 htu (gU_V mw_6_102 hcX8_bends) rfl rfl rfl hdX8_bends ⟨Nat.le_of_ble_eq_true rfl, Nat.le_of_ble_eq_true rfl⟩) (q0 := 0) (ci := 8) (fs := fcM bM vM_21) (q := (RX8, TX8, 23)) rfl rfl rfl (As := [.int x2]) (rest := []) rfl rfl hl.1 (Nat.le_of_ble_eq_true rfl) dX8_tellsApart_38 (k1 := 0) (n1 := 0) rfl rfl ⟨Nat.le_refl _, Nat.le_refl _⟩ (fun H locs hP hD hS => ?_)
          refine lv_iconst (v := (0 : Int32)) hx hb dX8_tellsApart_41 (by decide) ?_
          refine lv_istore (lv' := [(4, .int (0 : Int32)), (0, .ref (bM 0)), (1, .int x1), (2, .int x2), (3, .int x3)]) hx hb dX8_tellsApart_42 hl (by decide) rfl (fun ls hl => ?_)
          have hL28 : ∀ (x4_25 : Int32) (vM_26 : Vs), lp (f_X8_tellsApart_L44 x3) (fun _ _ => none) FU x4_25 vM_26 = some (r, vM1) → ∀ (H : Heap) (locs : List Loc), va_P g.1 vwCl (cM g bM vM_26) H → va_D A (cM g bM vM_26) → va_S A s.heap H locs → ∀ ls : Array Slot, lv_has ls 5 [(0, .ref (bM 0)), (3, .int x3), (4, .int x4_25)] → W p l e (headSpec wsX8_tellsApart rmX8_tellsApart).room s m ([.ref (bM 0), .int x1, .int x2, .int x3] : List Value).toArray below meth c H locs 0 0 (MQ below (qI g A (cM g bM vM1) r) ([.ref (bM 0), .int x1, .int x2, .int x3] : List Value).toArray s 0 0 A) (F0 m 44 ls []) := by
            refine lp_ind (T := Int32 → Vs → Option (Int32 × Vs)) (fun self27 => ∀ (x4_25 : Int32) (vM_26 : Vs), self27 x4_25 vM_26 = some (r, vM1) → ∀ (H : Heap) (locs : List Loc), va_P g.1 vwCl (cM g bM vM_26) H → va_D A (cM g bM vM_26) → va_S A s.heap H locs → ∀ ls : Array Slot, lv_has ls 5 [(0, .ref (bM 0)), (3, .int x3), (4, .int x4_25)] → W p l e (headSpec wsX8_tellsApart rmX8_tellsApart).room s m ([.ref (bM 0), .int x1, .int x2, .int x3] : List Value).toArray below meth c H locs 0 0 (MQ below (qI g A (cM g bM vM1) r) ([.ref (bM 0), .int x1, .int x2, .int x3] : List Value).toArray s 0 0 A) (F0 m 44 ls [])) ?_ ?_ FU
            · intro x4_25 vM_26 hf; cases hf
            · intro self27 ih29 x4_25 vM_26 hf H locs hP hD hS ls hl
              unfold f_X8_tellsApart_L44 at hf
              refine lv_iload hx hb dX8_tellsApart_44 (lv_at hl 2 rfl) ?_
              refine lv_aload_n hx hb dX8_tellsApart_46 rfl (lv_at hl 0 rfl) ?_
              obtain ⟨r30, hg31, hf⟩ := o1_at hf
              refine k_viW ⟨hx, hb, hml, hown, htu⟩ hK hP hD hS hA hG (c_X8_outputs l g bM vM_26 r30 hg31) (cwV 0 htu (gU_V mw_6_40 hcX8_outputs) rfl rfl rfl hdX8_outputs ⟨Nat.le_of_ble_eq_true rfl, Nat.le_of_ble_eq_true rfl⟩) (q0 := 0) (ci := 8) (fs := fcM bM vM_26) (q := (RX8, TX8, 23)) rfl rfl rfl (As := []) (rest := [.int x4_25]) rfl rfl hl.1 (Nat.le_of_ble_eq_true rfl) dX8_tellsApart_47 (k1 := 0) (n1 := 0) rfl rfl ⟨Nat.le_refl _, Nat.le_refl _⟩ (fun H locs hP hD hS => ?_)
              refine lv_icmp_ge (tgt := 76) hx hb dX8_tellsApart_50 (by decide) (fun c32 => ?_) (fun c32 => ?_)
              · have hf := it_t hf c32
                refine lv_aload_n hx hb dX8_tellsApart_76 rfl (lv_at hl 0 rfl) ?_
                refine lv_iload_n hx hb dX8_tellsApart_77 rfl (lv_at hl 1 rfl) ?_
                obtain ⟨vM_33, hg34, hf⟩ := o1_at hf
                refine k_vvW ⟨hx, hb, hml, hown, htu⟩ hK hP hD hS hA hG (c_X8_bends l g bM vM_26 x3 vM_33 hg34) (cwV 1 htu (gU_V mw_6_102 hcX8_bends) rfl rfl rfl hdX8_bends ⟨Nat.le_of_ble_eq_true rfl, Nat.le_of_ble_eq_true rfl⟩) (q0 := 0) (ci := 8) (fs := fcM bM vM_26) (q := (RX8, TX8, 23)) rfl rfl rfl (As := [.int x3]) (rest := []) rfl rfl hl.1 (Nat.le_of_ble_eq_true rfl) dX8_tellsApart_78 (k1 := 0) (n1 := 0) rfl rfl ⟨Nat.le_refl _, Nat.le_refl _⟩ (fun H locs hP hD hS => ?_)
                refine lv_iconst (v := (0 : Int32)) hx hb dX8_tellsApart_81 (by decide) ?_
                refine lv_istore (lv' := [(4, .int (0 : Int32)), (0, .ref (bM 0)), (3, .int x3)]) hx hb dX8_tellsApart_82 hl (by decide) rfl (fun ls hl => ?_)
                have hL37 : ∀ (x4_35 : Int32), lp (f_X8_tellsApart_L84 vM_33) (fun _ => none) FU x4_35 = some (r, vM1) → ∀ (H : Heap) (locs : List Loc), va_P g.1 vwCl (cM g bM vM_33) H → va_D A (cM g bM vM_33) → va_S A s.heap H locs → ∀ ls : Array Slot, lv_has ls 5 [(0, .ref (bM 0)), (4, .int x4_35)] → W p l e (headSpec wsX8_tellsApart rmX8_tellsApart).room s m ([.ref (bM 0), .int x1, .int x2, .int x3] : List Value).toArray below meth c H locs 0 0 (MQ below (qI g A (cM g bM vM1) r) ([.ref (bM 0), .int x1, .int x2, .int x3] : List Value).toArray s 0 0 A) (F0 m 84 ls []) := by
                  refine lp_ind (T := Int32 → Option (Int32 × Vs)) (fun self36 => ∀ (x4_35 : Int32), self36 x4_35 = some (r, vM1) → ∀ (H : Heap) (locs : List Loc), va_P g.1 vwCl (cM g bM vM_33) H → va_D A (cM g bM vM_33) → va_S A s.heap H locs → ∀ ls : Array Slot, lv_has ls 5 [(0, .ref (bM 0)), (4, .int x4_35)] → W p l e (headSpec wsX8_tellsApart rmX8_tellsApart).room s m ([.ref (bM 0), .int x1, .int x2, .int x3] : List Value).toArray below meth c H locs 0 0 (MQ below (qI g A (cM g bM vM1) r) ([.ref (bM 0), .int x1, .int x2, .int x3] : List Value).toArray s 0 0 A) (F0 m 84 ls [])) ?_ ?_ FU
                  · intro x4_35 hf; cases hf
                  · intro self36 ih38 x4_35 hf H locs hP hD hS ls hl
                    unfold f_X8_tellsApart_L84 at hf
                    refine lv_iload hx hb dX8_tellsApart_84 (lv_at hl 1 rfl) ?_
                    refine lv_aload_n hx hb dX8_tellsApart_86 rfl (lv_at hl 0 rfl) ?_
                    obtain ⟨r39, hg40, hf⟩ := o1_at hf
                    refine k_viW ⟨hx, hb, hml, hown, htu⟩ hK hP hD hS hA hG (c_X8_outputs l g bM vM_33 r39 hg40) (cwV 0 htu (gU_V mw_6_40 hcX8_outputs) rfl rfl rfl hdX8_outputs ⟨Nat.le_of_ble_eq_true rfl, Nat.le_of_ble_eq_true rfl⟩) (q0 := 0) (ci := 8) (fs := fcM bM vM_33) (q := (RX8, TX8, 23)) rfl rfl rfl (As := []) (rest := [.int x4_35]) rfl rfl hl.1 (Nat.le_of_ble_eq_true rfl) dX8_tellsApart_87 (k1 := 0) (n1 := 0) rfl rfl ⟨Nat.le_refl _, Nat.le_refl _⟩ (fun H locs hP hD hS => ?_)
                    refine lv_icmp_ge (tgt := 146) hx hb dX8_tellsApart_90 (by decide) (fun c41 => ?_) (fun c41 => ?_)
                    · have hf := it_t hf c41
                      refine lv_iconst (v := (0 : Int32)) hx hb dX8_tellsApart_146 (by decide) ?_
                      obtain ⟨h42, hf⟩ := gd_isB hf
                      obtain ⟨e43, e44⟩ := kp_2 hf
                      rw [e44] at hP hD
                      exact k_zret hx hb hr hlocks hK hP hD hS e43 h42 dX8_tellsApart_147
                    · have hf := it_f hf c41
                      refine lv_aload_n hx hb dX8_tellsApart_93 rfl (lv_at hl 0 rfl) ?_
                      refine va_get (D := g.1) (ci := 8) (fs := fcM bM vM_33) (v := .ref (bM 21)) (C := RX8) (T := TX8) (N := 23) hx hb htu hinX8 hown hK hP 0 rfl rfl 20 (by decide) k_5_92 (fun _ h9 => h9) rfl dX8_tellsApart_94 ?_
                      refine lv_iload hx hb dX8_tellsApart_97 (lv_at hl 1 rfl) ?_
                      obtain ⟨h45, hf⟩ := gd_in hf
                      refine va_iald (D := g.1) (f := (vM_33.2.1 20)) hx hb hK hP 11 0 rfl rfl h45 dX8_tellsApart_99 ?_
                      refine lv_iconst (v := (2 : Int32)) hx hb dX8_tellsApart_100 (by decide) ?_
                      obtain ⟨k46, hk48, hf⟩ := jn_at hf
                      have hJ47 : k46 = some (r, vM1) → ∀ (H : Heap) (locs : List Loc), va_P g.1 vwCl (cM g bM vM_33) H → va_D A (cM g bM vM_33) → va_S A s.heap H locs → ∀ ls : Array Slot, lv_has ls 5 [(0, .ref (bM 0)), (4, .int x4_35)] → W p l e (headSpec wsX8_tellsApart rmX8_tellsApart).room s m ([.ref (bM 0), .int x1, .int x2, .int x3] : List Value).toArray below meth c H locs 0 0 (MQ below (qI g A (cM g bM vM1) r) ([.ref (bM 0), .int x1, .int x2, .int x3] : List Value).toArray s 0 0 A) (F0 m 140 ls []) := by
                        intro hf H locs hP hD hS ls hl
                        rw [hk48] at hf
                        clear hk48
                        refine lv_iinc (v := (x4_35 + (1 : Int32))) (lv' := [(4, .int (x4_35 + (1 : Int32))), (0, .ref (bM 0))]) hx hb dX8_tellsApart_140 hl (k := 1) rfl rfl (by decide) rfl (fun ls hl => ?_)
                        refine lv_goto (tgt := 84) hx hb dX8_tellsApart_143 (by decide) ?_
                        exact ih38 (x4_35 + (1 : Int32)) hf H locs hP hD hS _ (lv_sub hl [1, 0] rfl)
                      refine lv_icmp_eq (tgt := 140) hx hb dX8_tellsApart_101 (by decide) (fun c49 => ?_) (fun c49 => ?_)
                      · have hf := it_t hf c49
                        exact hJ47 hf H locs hP hD hS _ (lv_sub hl [0, 1] rfl)
                      · have hf := it_f hf c49
                        refine lv_aload_n hx hb dX8_tellsApart_104 rfl (lv_at hl 0 rfl) ?_
                        refine lv_iload hx hb dX8_tellsApart_105 (lv_at hl 1 rfl) ?_
                        refine lv_aload_n hx hb dX8_tellsApart_107 rfl (lv_at hl 0 rfl) ?_
                        refine va_get (D := g.1) (ci := 8) (fs := fcM bM vM_33) (v := .ref (bM 9)) (C := RX8) (T := TX8) (N := 23) hx hb htu hinX8 hown hK hP 0 rfl rfl 8 (by decide) k_5_80 (fun _ h9 => h9) rfl dX8_tellsApart_108 ?_
                        obtain ⟨r50, hg51, hf⟩ := o1_at hf
                        refine k_viW ⟨hx, hb, hml, hown, htu⟩ hK hP hD hS hA hG (c_X8_atOutput_bent l g bM vM_33 x4_35 r50 hg51) (cwV 2 htu (gU_V mw_6_106 hcX8_atOutput) rfl rfl rfl hdX8_atOutput ⟨Nat.le_of_ble_eq_true rfl, Nat.le_of_ble_eq_true rfl⟩) (q0 := 0) (ci := 8) (fs := fcM bM vM_33) (q := (RX8, TX8, 23)) rfl rfl rfl (As := [.int x4_35, .ref (bM 9)]) (rest := []) rfl rfl hl.1 (Nat.le_of_ble_eq_true rfl) dX8_tellsApart_111 (k1 := 0) (n1 := 0) rfl rfl ⟨Nat.le_refl _, Nat.le_refl _⟩ (fun H locs hP hD hS => ?_)
                        refine lv_iconst (v := (2 : Int32)) hx hb dX8_tellsApart_114 (by decide) ?_
                        refine lv_icmp_eq (tgt := 140) hx hb dX8_tellsApart_115 (by decide) (fun c52 => ?_) (fun c52 => ?_)
                        · have hf := it_t hf c52
                          exact hJ47 hf H locs hP hD hS _ (lv_sub hl [0, 1] rfl)
                        · have hf := it_f hf c52
                          refine lv_aload_n hx hb dX8_tellsApart_118 rfl (lv_at hl 0 rfl) ?_
                          refine va_get (D := g.1) (ci := 8) (fs := fcM bM vM_33) (v := .ref (bM 21)) (C := RX8) (T := TX8) (N := 23) hx hb htu hinX8 hown hK hP 0 rfl rfl 20 (by decide) k_5_92 (fun _ h9 => h9) rfl dX8_tellsApart_119 ?_
                          refine lv_iload hx hb dX8_tellsApart_122 (lv_at hl 1 rfl) ?_
                          obtain ⟨h53, hf⟩ := gd_in hf
                          refine va_iald (D := g.1) (f := (vM_33.2.1 20)) hx hb hK hP 11 0 rfl rfl h53 dX8_tellsApart_124 ?_
                          refine lv_aload_n hx hb dX8_tellsApart_125 rfl (lv_at hl 0 rfl) ?_
                          refine lv_iload hx hb dX8_tellsApart_126 (lv_at hl 1 rfl) ?_
                          refine lv_aload_n hx hb dX8_tellsApart_128 rfl (lv_at hl 0 rfl) ?_
                          refine va_get (D := g.1) (ci := 8) (fs := fcM bM vM_33) (v := .ref (bM 9)) (C := RX8) (T := TX8) (N := 23) hx hb htu hinX8 hown hK hP 0 rfl rfl 8 (by decide) k_5_80 (fun _ h9 => h9) rfl dX8_tellsApart_129 ?_
                          obtain ⟨r54, hg55, hf⟩ := o1_at hf
                          refine k_viW ⟨hx, hb, hml, hown, htu⟩ hK hP hD hS hA hG (c_X8_atOutput_bent l g bM vM_33 x4_35 r54 hg55) (cwV 2 htu (gU_V mw_6_106 hcX8_atOutput) rfl rfl rfl hdX8_atOutput ⟨Nat.le_of_ble_eq_true rfl, Nat.le_of_ble_eq_true rfl⟩) (q0 := 0) (ci := 8) (fs := fcM bM vM_33) (q := (RX8, TX8, 23)) rfl rfl rfl (As := [.int x4_35, .ref (bM 9)]) (rest := [.int (vM_33.2.1 20 (x4_35).toNatClampNeg)]) rfl rfl hl.1 (Nat.le_of_ble_eq_true rfl) dX8_tellsApart_132 (k1 := 0) (n1 := 0) rfl rfl ⟨Nat.le_refl _, Nat.le_refl _⟩ (fun H locs hP hD hS => ?_)
                          refine lv_icmp_eq (tgt := 140) hx hb dX8_tellsApart_135 (by decide) (fun c56 => ?_) (fun c56 => ?_)
                          · have hf := it_t hf c56
                            exact hJ47 hf H locs hP hD hS _ (lv_sub hl [0, 1] rfl)
                          · have hf := it_f hf c56
                            refine lv_iconst (v := (1 : Int32)) hx hb dX8_tellsApart_138 (by decide) ?_
                            obtain ⟨h57, hf⟩ := gd_isB hf
                            obtain ⟨e58, e59⟩ := kp_2 hf
                            rw [e59] at hP hD
                            exact k_zret hx hb hr hlocks hK hP hD hS e58 h57 dX8_tellsApart_139
                exact hL37 (0 : Int32) hf H locs hP hD hS _ (lv_sub hl [1, 0] rfl)
              · have hf := it_f hf c32
                refine lv_aload_n hx hb dX8_tellsApart_53 rfl (lv_at hl 0 rfl) ?_
                refine va_get (D := g.1) (ci := 8) (fs := fcM bM vM_26) (v := .ref (bM 21)) (C := RX8) (T := TX8) (N := 23) hx hb htu hinX8 hown hK hP 0 rfl rfl 20 (by decide) k_5_92 (fun _ h9 => h9) rfl dX8_tellsApart_54 ?_
                refine lv_iload hx hb dX8_tellsApart_57 (lv_at hl 2 rfl) ?_
                refine lv_aload_n hx hb dX8_tellsApart_59 rfl (lv_at hl 0 rfl) ?_
                refine lv_iload hx hb dX8_tellsApart_60 (lv_at hl 2 rfl) ?_
                refine lv_aload_n hx hb dX8_tellsApart_62 rfl (lv_at hl 0 rfl) ?_
                refine va_get (D := g.1) (ci := 8) (fs := fcM bM vM_26) (v := .ref (bM 9)) (C := RX8) (T := TX8) (N := 23) hx hb htu hinX8 hown hK hP 0 rfl rfl 8 (by decide) k_5_80 (fun _ h9 => h9) rfl dX8_tellsApart_63 ?_
                obtain ⟨r60, hg61, hf⟩ := o1_at hf
                refine k_viW ⟨hx, hb, hml, hown, htu⟩ hK hP hD hS hA hG (c_X8_atOutput_bent l g bM vM_26 x4_25 r60 hg61) (cwV 2 htu (gU_V mw_6_106 hcX8_atOutput) rfl rfl rfl hdX8_atOutput ⟨Nat.le_of_ble_eq_true rfl, Nat.le_of_ble_eq_true rfl⟩) (q0 := 0) (ci := 8) (fs := fcM bM vM_26) (q := (RX8, TX8, 23)) rfl rfl rfl (As := [.int x4_25, .ref (bM 9)]) (rest := [.int x4_25, .ref (bM 21)]) rfl rfl hl.1 (Nat.le_of_ble_eq_true rfl) dX8_tellsApart_66 (k1 := 0) (n1 := 0) rfl rfl ⟨Nat.le_refl _, Nat.le_refl _⟩ (fun H locs hP hD hS => ?_)
                obtain ⟨h62, hf⟩ := gd_in hf
                refine va_iast (D := g.1) (f := (vM_26.2.1 20)) hx hb hK hP hD hS 11 0 rfl rfl h62 dX8_tellsApart_69 (fun H locs hP hD hS => ?_)
                obtain ⟨vM_63, evM_63⟩ : ∃ z, z = sI vM_26 20 (x4_25).toNatClampNeg r60 := ⟨_, rfl⟩
                have hf := bn_at hf evM_63
                have hP : va_P g.1 vwCl (cM g bM vM_63) H := by rw [evM_63]; exact hP
                have hD : va_D A (cM g bM vM_63) := by rw [evM_63]; exact hD
                refine lv_iinc (v := (x4_25 + (1 : Int32))) (lv' := [(4, .int (x4_25 + (1 : Int32))), (0, .ref (bM 0)), (3, .int x3)]) hx hb dX8_tellsApart_70 hl (k := 2) rfl rfl (by decide) rfl (fun ls hl => ?_)
                refine lv_goto (tgt := 44) hx hb dX8_tellsApart_73 (by decide) ?_
                exact ih29 (x4_25 + (1 : Int32)) vM_63 hf H locs hP hD hS _ (lv_sub hl [1, 2, 0] rfl)
          exact hL28 (0 : Int32) vM_23 hf H locs hP hD hS _ (lv_sub hl [1, 4, 0] rfl)
        · have hf := it_t hf c20
          exact hJ7 vM_18 hf H locs hP hD hS _ (lv_sub hl [] rfl)
  rw [hH, hlo] at hW
  exact hW
def f_X8_worth (vM : Vs) (x1 : Int32) : Option (Int32 × Vs) :=
  bn (sF vM 0 (0 : Int32)) (fun (vM_1 : Vs) => o2 (f_X8_isTest vM_1 x1) (fun (r2 : Int32) (vM_3 : Vs) => jn (fun (t5 : Int32) (vM_6 : Vs) => some (t5, vM_6)) (fun k7 => if r2 = 0 then k7 (0 : Int32) vM_3 else o2 (f_X8_worthOf vM_3 x1) (fun (r13 : Int32) (vM_14 : Vs) => k7 r13 vM_14))))
abbrev wsX8_worth : List Cond := .code yX8_worth cX8_worth 2 (some .int) :: UW
abbrev rmX8_worth : Room := { frames := 6, cells := 0, slots := 0, locals := 143 }
set_option maxHeartbeats 4000000 in
set_option maxRecDepth 100000 in
theorem c_X8_worth (l : Launch) (g : Gx) (bM : Nat → Nat) (vM : Vs) (x1 : Int32) (r : Int32) (vM1 : Vs) (hf : f_X8_worth vM x1 = some (r, vM1)) : CtI l yX8_worth wsX8_worth rmX8_worth g [.ref (bM 0), .int x1] (cM g bM vM) (cM g bM vM1) r 0 0 := by
  unfold CtI
  intro sz
  refine Met.ofW (cc := cX8_worth) (maxL := 2) (ret := (some .int)) (by decide) rfl ?_
  intro p e s m args below meth c s₁ B hml hv
  obtain ⟨rfl, hsz, hP, hK, hD0, hG⟩ := hv
  have hx := B.exec
  have hb := B.bytes
  have hr := B.returns
  have hts := atoms_spec (ws := wsX8_worth) B.pre
  have hown : s.vm.findClass RX8 = some m.cls := findClass_of_methodNamed B.named
  have hlocks := B.notSynchronized
  subst hsz
  have hD := hD0.self (sz := s.heap.size)
  generalize hAe : va_A (cM g bM vM) s.heap.size = A at hD hG ⊢
  have hA : ∀ q : Nat, s.heap.size ≤ q → A q := fun q h => by rw [← hAe]; exact Or.inr h
  clear hAe hD0
  have hS : va_S A s.heap s.heap [] := va_S.rf
  have hl := lv_entry ([.ref (bM 0), .int x1]) (n := 2) (Nat.le_of_ble_eq_true rfl)
  rw [lg_entry_eq]
  generalize (lg_sl ([.ref (bM 0), .int x1]) ++ List.replicate (2 - (lg_sl ([.ref (bM 0), .int x1])).length) Slot.unset).toArray = ls at hl ⊢
  have hl : lv_has ls 2 [(0, .ref (bM 0)), (1, .int x1)] := hl
  have htu : ∀ w ∈ UW, w.before _ s = true := fun w h => hts w (List.mem_cons_of_mem _ h)
  have k_5_72 := htu _ mw_5_72
  unfold f_X8_worth at hf
  obtain ⟨H, hH⟩ : ∃ z, z = s.heap := ⟨_, rfl⟩
  obtain ⟨locs, hlo⟩ : ∃ z : List Loc, z = [] := ⟨_, rfl⟩
  have hS : va_S A s.heap H locs := by rw [hH, hlo]; exact hS
  rw [← hH] at hP
  have hW : W p l e (headSpec wsX8_worth rmX8_worth).room s m ([.ref (bM 0), .int x1] : List Value).toArray below meth c H locs 0 0 (MQ below (qI g A (cM g bM vM1) r) ([.ref (bM 0), .int x1] : List Value).toArray s 0 0 A) (F0 m 0 ls []) := by
    refine lv_aload_n hx hb dX8_worth_0 rfl (lv_at hl 0 rfl) ?_
    refine lv_iconst (v := (0 : Int32)) hx hb dX8_worth_1 (by decide) ?_
    refine va_put (D := g.1) (ci := 8) (fs := fcM bM vM) (v := .int (0 : Int32)) (ty := .int) (C := RX8) (T := TX8) (N := 23) hx hb htu hinX8 tyX8 tyX8_ok nmX8 hown hK hP hD hS 0 rfl rfl 0 (by decide) k_5_72 (fun _ h9 => h9) rfl (by decide +kernel) rfl rfl (Nat.le_of_ble_eq_true rfl) dX8_worth_2 (fun H locs hP hD hS => ?_)
    obtain ⟨vM_1, evM_1⟩ : ∃ z, z = sF vM 0 (0 : Int32) := ⟨_, rfl⟩
    have hf := bn_at hf evM_1
    have hP : va_P g.1 vwCl (cM g bM vM_1) H := by rw [evM_1]; exact hP
    have hD : va_D A (cM g bM vM_1) := by rw [evM_1]; exact hD
    refine lv_aload_n hx hb dX8_worth_5 rfl (lv_at hl 0 rfl) ?_
    refine lv_iload_n hx hb dX8_worth_6 rfl (lv_at hl 1 rfl) ?_
    obtain ⟨r2, vM_3, hg4, hf⟩ := o2_at hf
    refine k_viW ⟨hx, hb, hml, hown, htu⟩ hK hP hD hS hA hG (c_X8_isTest l g bM vM_1 x1 r2 vM_3 hg4) (cwV 1 htu (gU_V mw_6_142 hcX8_isTest) rfl rfl rfl hdX8_isTest ⟨Nat.le_of_ble_eq_true rfl, Nat.le_of_ble_eq_true rfl⟩) (q0 := 0) (ci := 8) (fs := fcM bM vM_1) (q := (RX8, TX8, 23)) rfl rfl rfl (As := [.int x1]) (rest := []) rfl rfl hl.1 (Nat.le_of_ble_eq_true rfl) dX8_worth_7 (k1 := 0) (n1 := 0) rfl rfl ⟨Nat.le_refl _, Nat.le_refl _⟩ (fun H locs hP hD hS => ?_)
    obtain ⟨k7, hk11, hf⟩ := jn_at hf
    have hJ8 : ∀ (t5 : Int32) (vM_6 : Vs), k7 t5 vM_6 = some (r, vM1) → ∀ (H : Heap) (locs : List Loc), va_P g.1 vwCl (cM g bM vM_6) H → va_D A (cM g bM vM_6) → va_S A s.heap H locs → ∀ ls : Array Slot, lv_has ls 2 [] → W p l e (headSpec wsX8_worth rmX8_worth).room s m ([.ref (bM 0), .int x1] : List Value).toArray below meth c H locs 0 0 (MQ below (qI g A (cM g bM vM1) r) ([.ref (bM 0), .int x1] : List Value).toArray s 0 0 A) (F0 m 22 ls [.int t5]) := by
      intro t5 vM_6 hf H locs hP hD hS ls hl
      rw [hk11] at hf
      dsimp only at hf
      clear hk11
      obtain ⟨e9, e10⟩ := kp_2 hf
      rw [e10] at hP hD
      exact k_iret hx hb hr hlocks hK hP hD hS e9 dX8_worth_22
    refine lv_if_eq (tgt := 21) hx hb dX8_worth_10 (by decide) (fun c12 => ?_) (fun c12 => ?_)
    · have hf := it_t hf c12
      refine lv_iconst (v := (0 : Int32)) hx hb dX8_worth_21 (by decide) ?_
      exact hJ8 (0 : Int32) vM_3 hf H locs hP hD hS _ (lv_sub hl [] rfl)
    · have hf := it_f hf c12
      refine lv_aload_n hx hb dX8_worth_13 rfl (lv_at hl 0 rfl) ?_
      refine lv_iload_n hx hb dX8_worth_14 rfl (lv_at hl 1 rfl) ?_
      obtain ⟨r13, vM_14, hg15, hf⟩ := o2_at hf
      refine k_viW ⟨hx, hb, hml, hown, htu⟩ hK hP hD hS hA hG (c_X8_worthOf l g bM vM_3 x1 r13 vM_14 hg15) (cwV 1 htu (gU_V mw_6_166 hcX8_worthOf) rfl rfl rfl hdX8_worthOf ⟨Nat.le_of_ble_eq_true rfl, Nat.le_of_ble_eq_true rfl⟩) (q0 := 0) (ci := 8) (fs := fcM bM vM_3) (q := (RX8, TX8, 23)) rfl rfl rfl (As := [.int x1]) (rest := []) rfl rfl hl.1 (Nat.le_of_ble_eq_true rfl) dX8_worth_15 (k1 := 0) (n1 := 0) rfl rfl ⟨Nat.le_refl _, Nat.le_refl _⟩ (fun H locs hP hD hS => ?_)
      refine lv_goto (tgt := 22) hx hb dX8_worth_18 (by decide) ?_
      exact hJ8 r13 vM_14 hf H locs hP hD hS _ (lv_sub hl [] rfl)
  rw [hH, hlo] at hW
  exact hW
def f_X8_testFor (vM : Vs) (x1 : Int32) : Option (Int32 × Vs) :=
  bn (sF vM 0 (0 : Int32)) (fun (vM_1 : Vs) => o2 (f_X8_isFault vM_1 x1) (fun (r2 : Int32) (vM_3 : Vs) => if r2 = 0 then some ((0 : Int32), vM_3) else o1 (f_X8_lays vM_3) (fun (vM_6 : Vs) => o1 (f_X8_between vM_6 x1 (56 : Int32)) (fun (r8 : Int32) => some (r8, vM_6)))))
abbrev wsX8_testFor : List Cond := .code yX8_testFor cX8_testFor 2 (some .int) :: UW
abbrev rmX8_testFor : Room := { frames := 6, cells := 0, slots := 0, locals := 135 }
set_option maxHeartbeats 4000000 in
set_option maxRecDepth 100000 in
theorem c_X8_testFor (l : Launch) (g : Gx) (bM : Nat → Nat) (vM : Vs) (x1 : Int32) (r : Int32) (vM1 : Vs) (hf : f_X8_testFor vM x1 = some (r, vM1)) : CtI l yX8_testFor wsX8_testFor rmX8_testFor g [.ref (bM 0), .int x1] (cM g bM vM) (cM g bM vM1) r 0 0 := by
  unfold CtI
  intro sz
  refine Met.ofW (cc := cX8_testFor) (maxL := 2) (ret := (some .int)) (by decide) rfl ?_
  intro p e s m args below meth c s₁ B hml hv
  obtain ⟨rfl, hsz, hP, hK, hD0, hG⟩ := hv
  have hx := B.exec
  have hb := B.bytes
  have hr := B.returns
  have hts := atoms_spec (ws := wsX8_testFor) B.pre
  have hown : s.vm.findClass RX8 = some m.cls := findClass_of_methodNamed B.named
  have hlocks := B.notSynchronized
  subst hsz
  have hD := hD0.self (sz := s.heap.size)
  generalize hAe : va_A (cM g bM vM) s.heap.size = A at hD hG ⊢
  have hA : ∀ q : Nat, s.heap.size ≤ q → A q := fun q h => by rw [← hAe]; exact Or.inr h
  clear hAe hD0
  have hS : va_S A s.heap s.heap [] := va_S.rf
  have hl := lv_entry ([.ref (bM 0), .int x1]) (n := 2) (Nat.le_of_ble_eq_true rfl)
  rw [lg_entry_eq]
  generalize (lg_sl ([.ref (bM 0), .int x1]) ++ List.replicate (2 - (lg_sl ([.ref (bM 0), .int x1])).length) Slot.unset).toArray = ls at hl ⊢
  have hl : lv_has ls 2 [(0, .ref (bM 0)), (1, .int x1)] := hl
  have htu : ∀ w ∈ UW, w.before _ s = true := fun w h => hts w (List.mem_cons_of_mem _ h)
  have k_5_72 := htu _ mw_5_72
  unfold f_X8_testFor at hf
  obtain ⟨H, hH⟩ : ∃ z, z = s.heap := ⟨_, rfl⟩
  obtain ⟨locs, hlo⟩ : ∃ z : List Loc, z = [] := ⟨_, rfl⟩
  have hS : va_S A s.heap H locs := by rw [hH, hlo]; exact hS
  rw [← hH] at hP
  have hW : W p l e (headSpec wsX8_testFor rmX8_testFor).room s m ([.ref (bM 0), .int x1] : List Value).toArray below meth c H locs 0 0 (MQ below (qI g A (cM g bM vM1) r) ([.ref (bM 0), .int x1] : List Value).toArray s 0 0 A) (F0 m 0 ls []) := by
    refine lv_aload_n hx hb dX8_testFor_0 rfl (lv_at hl 0 rfl) ?_
    refine lv_iconst (v := (0 : Int32)) hx hb dX8_testFor_1 (by decide) ?_
    refine va_put (D := g.1) (ci := 8) (fs := fcM bM vM) (v := .int (0 : Int32)) (ty := .int) (C := RX8) (T := TX8) (N := 23) hx hb htu hinX8 tyX8 tyX8_ok nmX8 hown hK hP hD hS 0 rfl rfl 0 (by decide) k_5_72 (fun _ h9 => h9) rfl (by decide +kernel) rfl rfl (Nat.le_of_ble_eq_true rfl) dX8_testFor_2 (fun H locs hP hD hS => ?_)
    obtain ⟨vM_1, evM_1⟩ : ∃ z, z = sF vM 0 (0 : Int32) := ⟨_, rfl⟩
    have hf := bn_at hf evM_1
    have hP : va_P g.1 vwCl (cM g bM vM_1) H := by rw [evM_1]; exact hP
    have hD : va_D A (cM g bM vM_1) := by rw [evM_1]; exact hD
    refine lv_aload_n hx hb dX8_testFor_5 rfl (lv_at hl 0 rfl) ?_
    refine lv_iload_n hx hb dX8_testFor_6 rfl (lv_at hl 1 rfl) ?_
    obtain ⟨r2, vM_3, hg4, hf⟩ := o2_at hf
    refine k_viW ⟨hx, hb, hml, hown, htu⟩ hK hP hD hS hA hG (c_X8_isFault l g bM vM_1 x1 r2 vM_3 hg4) (cwV 1 htu (gU_V mw_6_150 hcX8_isFault) rfl rfl rfl hdX8_isFault ⟨Nat.le_of_ble_eq_true rfl, Nat.le_of_ble_eq_true rfl⟩) (q0 := 0) (ci := 8) (fs := fcM bM vM_1) (q := (RX8, TX8, 23)) rfl rfl rfl (As := [.int x1]) (rest := []) rfl rfl hl.1 (Nat.le_of_ble_eq_true rfl) dX8_testFor_7 (k1 := 0) (n1 := 0) rfl rfl ⟨Nat.le_refl _, Nat.le_refl _⟩ (fun H locs hP hD hS => ?_)
    refine lv_if_ne (tgt := 15) hx hb dX8_testFor_10 (by decide) (fun c5 => ?_) (fun c5 => ?_)
    · have hf := it_f hf c5
      refine lv_aload_n hx hb dX8_testFor_15 rfl (lv_at hl 0 rfl) ?_
      obtain ⟨vM_6, hg7, hf⟩ := o1_at hf
      refine k_vvW ⟨hx, hb, hml, hown, htu⟩ hK hP hD hS hA hG (c_X8_lays l g bM vM_3 vM_6 hg7) (cwV 0 htu (gU_V mw_6_174 hcX8_lays) rfl rfl rfl hdX8_lays ⟨Nat.le_of_ble_eq_true rfl, Nat.le_of_ble_eq_true rfl⟩) (q0 := 0) (ci := 8) (fs := fcM bM vM_3) (q := (RX8, TX8, 23)) rfl rfl rfl (As := []) (rest := []) rfl rfl hl.1 (Nat.le_of_ble_eq_true rfl) dX8_testFor_16 (k1 := 0) (n1 := 0) rfl rfl ⟨Nat.le_refl _, Nat.le_refl _⟩ (fun H locs hP hD hS => ?_)
      refine lv_aload_n hx hb dX8_testFor_19 rfl (lv_at hl 0 rfl) ?_
      refine lv_iload_n hx hb dX8_testFor_20 rfl (lv_at hl 1 rfl) ?_
      refine lv_bipush (v := (56 : Int32)) hx hb dX8_testFor_21 (by decide) ?_
      obtain ⟨r8, hg9, hf⟩ := o1_at hf
      refine k_viW ⟨hx, hb, hml, hown, htu⟩ hK hP hD hS hA hG (c_X8_between l g bM vM_6 x1 (56 : Int32) r8 hg9) (cwV 2 htu (gU_V mw_6_190 hcX8_between) rfl rfl rfl hdX8_between ⟨Nat.le_of_ble_eq_true rfl, Nat.le_of_ble_eq_true rfl⟩) (q0 := 0) (ci := 8) (fs := fcM bM vM_6) (q := (RX8, TX8, 23)) rfl rfl rfl (As := [.int x1, .int (56 : Int32)]) (rest := []) rfl rfl hl.1 (Nat.le_of_ble_eq_true rfl) dX8_testFor_23 (k1 := 0) (n1 := 0) rfl rfl ⟨Nat.le_refl _, Nat.le_refl _⟩ (fun H locs hP hD hS => ?_)
      obtain ⟨e10, e11⟩ := kp_2 hf
      rw [e11] at hP hD
      exact k_iret hx hb hr hlocks hK hP hD hS e10 dX8_testFor_26
    · have hf := it_t hf c5
      refine lv_iconst (v := (0 : Int32)) hx hb dX8_testFor_13 (by decide) ?_
      obtain ⟨e12, e13⟩ := kp_2 hf
      rw [e13] at hP hD
      exact k_iret hx hb hr hlocks hK hP hD hS e12 dX8_testFor_14
  rw [hH, hlo] at hW
  exact hW
def f_X8_testBetween (vM : Vs) (x1 : Int32) (x2 : Int32) : Option (Int32 × Vs) :=
  bn (sF vM 0 (0 : Int32)) (fun (vM_1 : Vs) => o2 (f_X8_isFault vM_1 x1) (fun (r2 : Int32) (vM_3 : Vs) => jn (fun (vM_5 : Vs) => some ((0 : Int32), vM_5)) (fun k6 => if r2 = 0 then k6 vM_3 else o2 (f_X8_isFault vM_3 x2) (fun (r12 : Int32) (vM_13 : Vs) => if r12 = 0 then k6 vM_13 else o1 (f_X8_lays vM_13) (fun (vM_16 : Vs) => o1 (f_X8_between vM_16 x1 x2) (fun (r18 : Int32) => some (r18, vM_16)))))))
abbrev wsX8_testBetween : List Cond := .code yX8_testBetween cX8_testBetween 3 (some .int) :: UW
abbrev rmX8_testBetween : Room := { frames := 6, cells := 0, slots := 0, locals := 135 }
set_option maxHeartbeats 4000000 in
set_option maxRecDepth 100000 in
theorem c_X8_testBetween (l : Launch) (g : Gx) (bM : Nat → Nat) (vM : Vs) (x1 : Int32) (x2 : Int32) (r : Int32) (vM1 : Vs) (hf : f_X8_testBetween vM x1 x2 = some (r, vM1)) : CtI l yX8_testBetween wsX8_testBetween rmX8_testBetween g [.ref (bM 0), .int x1, .int x2] (cM g bM vM) (cM g bM vM1) r 0 0 := by
  unfold CtI
  intro sz
  refine Met.ofW (cc := cX8_testBetween) (maxL := 3) (ret := (some .int)) (by decide) rfl ?_
  intro p e s m args below meth c s₁ B hml hv
  obtain ⟨rfl, hsz, hP, hK, hD0, hG⟩ := hv
  have hx := B.exec
  have hb := B.bytes
  have hr := B.returns
  have hts := atoms_spec (ws := wsX8_testBetween) B.pre
  have hown : s.vm.findClass RX8 = some m.cls := findClass_of_methodNamed B.named
  have hlocks := B.notSynchronized
  subst hsz
  have hD := hD0.self (sz := s.heap.size)
  generalize hAe : va_A (cM g bM vM) s.heap.size = A at hD hG ⊢
  have hA : ∀ q : Nat, s.heap.size ≤ q → A q := fun q h => by rw [← hAe]; exact Or.inr h
  clear hAe hD0
  have hS : va_S A s.heap s.heap [] := va_S.rf
  have hl := lv_entry ([.ref (bM 0), .int x1, .int x2]) (n := 3) (Nat.le_of_ble_eq_true rfl)
  rw [lg_entry_eq]
  generalize (lg_sl ([.ref (bM 0), .int x1, .int x2]) ++ List.replicate (3 - (lg_sl ([.ref (bM 0), .int x1, .int x2])).length) Slot.unset).toArray = ls at hl ⊢
  have hl : lv_has ls 3 [(0, .ref (bM 0)), (1, .int x1), (2, .int x2)] := hl
  have htu : ∀ w ∈ UW, w.before _ s = true := fun w h => hts w (List.mem_cons_of_mem _ h)
  have k_5_72 := htu _ mw_5_72
  unfold f_X8_testBetween at hf
  obtain ⟨H, hH⟩ : ∃ z, z = s.heap := ⟨_, rfl⟩
  obtain ⟨locs, hlo⟩ : ∃ z : List Loc, z = [] := ⟨_, rfl⟩
  have hS : va_S A s.heap H locs := by rw [hH, hlo]; exact hS
  rw [← hH] at hP
  have hW : W p l e (headSpec wsX8_testBetween rmX8_testBetween).room s m ([.ref (bM 0), .int x1, .int x2] : List Value).toArray below meth c H locs 0 0 (MQ below (qI g A (cM g bM vM1) r) ([.ref (bM 0), .int x1, .int x2] : List Value).toArray s 0 0 A) (F0 m 0 ls []) := by
    refine lv_aload_n hx hb dX8_testBetween_0 rfl (lv_at hl 0 rfl) ?_
    refine lv_iconst (v := (0 : Int32)) hx hb dX8_testBetween_1 (by decide) ?_
    refine va_put (D := g.1) (ci := 8) (fs := fcM bM vM) (v := .int (0 : Int32)) (ty := .int) (C := RX8) (T := TX8) (N := 23) hx hb htu hinX8 tyX8 tyX8_ok nmX8 hown hK hP hD hS 0 rfl rfl 0 (by decide) k_5_72 (fun _ h9 => h9) rfl (by decide +kernel) rfl rfl (Nat.le_of_ble_eq_true rfl) dX8_testBetween_2 (fun H locs hP hD hS => ?_)
    obtain ⟨vM_1, evM_1⟩ : ∃ z, z = sF vM 0 (0 : Int32) := ⟨_, rfl⟩
    have hf := bn_at hf evM_1
    have hP : va_P g.1 vwCl (cM g bM vM_1) H := by rw [evM_1]; exact hP
    have hD : va_D A (cM g bM vM_1) := by rw [evM_1]; exact hD
    refine lv_aload_n hx hb dX8_testBetween_5 rfl (lv_at hl 0 rfl) ?_
    refine lv_iload_n hx hb dX8_testBetween_6 rfl (lv_at hl 1 rfl) ?_
    obtain ⟨r2, vM_3, hg4, hf⟩ := o2_at hf
    refine k_viW ⟨hx, hb, hml, hown, htu⟩ hK hP hD hS hA hG (c_X8_isFault l g bM vM_1 x1 r2 vM_3 hg4) (cwV 1 htu (gU_V mw_6_150 hcX8_isFault) rfl rfl rfl hdX8_isFault ⟨Nat.le_of_ble_eq_true rfl, Nat.le_of_ble_eq_true rfl⟩) (q0 := 0) (ci := 8) (fs := fcM bM vM_1) (q := (RX8, TX8, 23)) rfl rfl rfl (As := [.int x1]) (rest := []) rfl rfl hl.1 (Nat.le_of_ble_eq_true rfl) dX8_testBetween_7 (k1 := 0) (n1 := 0) rfl rfl ⟨Nat.le_refl _, Nat.le_refl _⟩ (fun H locs hP hD hS => ?_)
    obtain ⟨k6, hk10, hf⟩ := jn_at hf
    have hJ7 : ∀ (vM_5 : Vs), k6 vM_5 = some (r, vM1) → ∀ (H : Heap) (locs : List Loc), va_P g.1 vwCl (cM g bM vM_5) H → va_D A (cM g bM vM_5) → va_S A s.heap H locs → ∀ ls : Array Slot, lv_has ls 3 [] → W p l e (headSpec wsX8_testBetween rmX8_testBetween).room s m ([.ref (bM 0), .int x1, .int x2] : List Value).toArray below meth c H locs 0 0 (MQ below (qI g A (cM g bM vM1) r) ([.ref (bM 0), .int x1, .int x2] : List Value).toArray s 0 0 A) (F0 m 21 ls []) := by
      intro vM_5 hf H locs hP hD hS ls hl
      rw [hk10] at hf
      dsimp only at hf
      clear hk10
      refine lv_iconst (v := (0 : Int32)) hx hb dX8_testBetween_21 (by decide) ?_
      obtain ⟨e8, e9⟩ := kp_2 hf
      rw [e9] at hP hD
      exact k_iret hx hb hr hlocks hK hP hD hS e8 dX8_testBetween_22
    refine lv_if_eq (tgt := 21) hx hb dX8_testBetween_10 (by decide) (fun c11 => ?_) (fun c11 => ?_)
    · have hf := it_t hf c11
      exact hJ7 vM_3 hf H locs hP hD hS _ (lv_sub hl [] rfl)
    · have hf := it_f hf c11
      refine lv_aload_n hx hb dX8_testBetween_13 rfl (lv_at hl 0 rfl) ?_
      refine lv_iload_n hx hb dX8_testBetween_14 rfl (lv_at hl 2 rfl) ?_
      obtain ⟨r12, vM_13, hg14, hf⟩ := o2_at hf
      refine k_viW ⟨hx, hb, hml, hown, htu⟩ hK hP hD hS hA hG (c_X8_isFault l g bM vM_3 x2 r12 vM_13 hg14) (cwV 1 htu (gU_V mw_6_150 hcX8_isFault) rfl rfl rfl hdX8_isFault ⟨Nat.le_of_ble_eq_true rfl, Nat.le_of_ble_eq_true rfl⟩) (q0 := 0) (ci := 8) (fs := fcM bM vM_3) (q := (RX8, TX8, 23)) rfl rfl rfl (As := [.int x2]) (rest := []) rfl rfl hl.1 (Nat.le_of_ble_eq_true rfl) dX8_testBetween_15 (k1 := 0) (n1 := 0) rfl rfl ⟨Nat.le_refl _, Nat.le_refl _⟩ (fun H locs hP hD hS => ?_)
      refine lv_if_ne (tgt := 23) hx hb dX8_testBetween_18 (by decide) (fun c15 => ?_) (fun c15 => ?_)
      · have hf := it_f hf c15
        refine lv_aload_n hx hb dX8_testBetween_23 rfl (lv_at hl 0 rfl) ?_
        obtain ⟨vM_16, hg17, hf⟩ := o1_at hf
        refine k_vvW ⟨hx, hb, hml, hown, htu⟩ hK hP hD hS hA hG (c_X8_lays l g bM vM_13 vM_16 hg17) (cwV 0 htu (gU_V mw_6_174 hcX8_lays) rfl rfl rfl hdX8_lays ⟨Nat.le_of_ble_eq_true rfl, Nat.le_of_ble_eq_true rfl⟩) (q0 := 0) (ci := 8) (fs := fcM bM vM_13) (q := (RX8, TX8, 23)) rfl rfl rfl (As := []) (rest := []) rfl rfl hl.1 (Nat.le_of_ble_eq_true rfl) dX8_testBetween_24 (k1 := 0) (n1 := 0) rfl rfl ⟨Nat.le_refl _, Nat.le_refl _⟩ (fun H locs hP hD hS => ?_)
        refine lv_aload_n hx hb dX8_testBetween_27 rfl (lv_at hl 0 rfl) ?_
        refine lv_iload_n hx hb dX8_testBetween_28 rfl (lv_at hl 1 rfl) ?_
        refine lv_iload_n hx hb dX8_testBetween_29 rfl (lv_at hl 2 rfl) ?_
        obtain ⟨r18, hg19, hf⟩ := o1_at hf
        refine k_viW ⟨hx, hb, hml, hown, htu⟩ hK hP hD hS hA hG (c_X8_between l g bM vM_16 x1 x2 r18 hg19) (cwV 2 htu (gU_V mw_6_190 hcX8_between) rfl rfl rfl hdX8_between ⟨Nat.le_of_ble_eq_true rfl, Nat.le_of_ble_eq_true rfl⟩) (q0 := 0) (ci := 8) (fs := fcM bM vM_16) (q := (RX8, TX8, 23)) rfl rfl rfl (As := [.int x1, .int x2]) (rest := []) rfl rfl hl.1 (Nat.le_of_ble_eq_true rfl) dX8_testBetween_30 (k1 := 0) (n1 := 0) rfl rfl ⟨Nat.le_refl _, Nat.le_refl _⟩ (fun H locs hP hD hS => ?_)
        obtain ⟨e20, e21⟩ := kp_2 hf
        rw [e21] at hP hD
        exact k_iret hx hb hr hlocks hK hP hD hS e20 dX8_testBetween_33
      · have hf := it_t hf c15
        exact hJ7 vM_13 hf H locs hP hD hS _ (lv_sub hl [] rfl)
  rw [hH, hlo] at hW
  exact hW
