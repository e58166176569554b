def f_X8_thrown (vM : Vs) : Option (Int32) :=
  some ((vM.1 0))
abbrev wsX8_thrown : List Cond := .code yX8_thrown cX8_thrown 1 (some .int) :: UW
abbrev rmX8_thrown : Room := { frames := 0, cells := 0, slots := 0, locals := 0 }
set_option maxHeartbeats 4000000 in
set_option maxRecDepth 100000 in
theorem c_X8_thrown (l : Launch) (g : Gx) (bM : Nat → Nat) (vM : Vs) (r : Int32) (hf : f_X8_thrown vM = some r) : CtI l yX8_thrown wsX8_thrown rmX8_thrown g [.ref (bM 0)] (cM g bM vM) (cM g bM vM) r 0 0 := by
  unfold CtI
  intro sz
  refine Met.ofW (cc := cX8_thrown) (maxL := 1) (ret := (some .int)) (by decide) rfl ?_
  intro p e s m args below meth c s₁ B hml hv
  obtain ⟨rfl, hsz, hP, hK, hD0, hG⟩ := hv
  have hx := B.exec
  have hb := B.bytes
  have hr := B.returns
  have hts := atoms_spec (ws := wsX8_thrown) B.pre
  have hown : s.vm.findClass RX8 = some m.cls := findClass_of_methodNamed B.named
  have hlocks := B.notSynchronized
  subst hsz
  have hD := hD0.self (sz := s.heap.size)
  generalize hAe : va_A (cM g bM vM) s.heap.size = A at hD hG ⊢
  have hA : ∀ q : Nat, s.heap.size ≤ q → A q := fun q h => by rw [← hAe]; exact Or.inr h
  clear hAe hD0
  have hS : va_S A s.heap s.heap [] := va_S.rf
  have hl := lv_entry ([.ref (bM 0)]) (n := 1) (Nat.le_of_ble_eq_true rfl)
  rw [lg_entry_eq]
  generalize (lg_sl ([.ref (bM 0)]) ++ List.replicate (1 - (lg_sl ([.ref (bM 0)])).length) Slot.unset).toArray = ls at hl ⊢
  have hl : lv_has ls 1 [(0, .ref (bM 0))] := hl
  have htu : ∀ w ∈ UW, w.before _ s = true := fun w h => hts w (List.mem_cons_of_mem _ h)
  have k_5_72 := htu _ mw_5_72
  unfold f_X8_thrown at hf
  obtain ⟨H, hH⟩ : ∃ z, z = s.heap := ⟨_, rfl⟩
  obtain ⟨locs, hlo⟩ : ∃ z : List Loc, z = [] := ⟨_, rfl⟩
  have hS : va_S A s.heap H locs := by rw [hH, hlo]; exact hS
  rw [← hH] at hP
  have hW : W p l e (headSpec wsX8_thrown rmX8_thrown).room s m ([.ref (bM 0)] : List Value).toArray below meth c H locs 0 0 (MQ below (qI g A (cM g bM vM) r) ([.ref (bM 0)] : List Value).toArray s 0 0 A) (F0 m 0 ls []) := by
    refine lv_aload_n hx hb dX8_thrown_0 rfl (lv_at hl 0 rfl) ?_
    refine va_get (D := g.1) (ci := 8) (fs := fcM bM vM) (v := .int (vM.1 0)) (C := RX8) (T := TX8) (N := 23) hx hb htu hinX8 hown hK hP 0 rfl rfl 0 (by decide) k_5_72 (fun _ h9 => h9) rfl dX8_thrown_1 ?_
    have e1 := Option.some.inj hf
    exact k_iret hx hb hr hlocks hK hP hD hS e1 dX8_thrown_4
  rw [hH, hlo] at hW
  exact hW
def f_X8_isIn (x0 : Int32) (x1 : Int32) (x2 : Int32) : Option (Int32) :=
  jn (fun (t1 : Int32) => gd (isB t1) (some (t1))) (fun k2 => jn (k2 (0 : Int32)) (fun k7 => if x0 < x1 then k7 else if x2 < x0 then k7 else k2 (1 : Int32)))
abbrev wsX8_isIn : List Cond := .code yX8_isIn cX8_isIn 3 (some .boolean) :: UW
abbrev rmX8_isIn : Room := { frames := 0, cells := 0, slots := 0, locals := 0 }
set_option maxHeartbeats 4000000 in
set_option maxRecDepth 100000 in
theorem c_X8_isIn (l : Launch) (g : Gx) (x0 : Int32) (x1 : Int32) (x2 : Int32) (r : Int32) (hf : f_X8_isIn x0 x1 x2 = some r) : CtI l yX8_isIn wsX8_isIn rmX8_isIn g [.int x0, .int x1, .int x2] ([]) ([]) r 0 0 := by
  unfold CtI
  intro sz
  refine Met.ofW (cc := cX8_isIn) (maxL := 3) (ret := (some .boolean)) (by decide) rfl ?_
  intro p e s m args below meth c s₁ B hml hv
  obtain ⟨rfl, hsz, hP, hK, hD0, hG⟩ := hv
  have hx := B.exec
  have hb := B.bytes
  have hr := B.returns
  have hts := atoms_spec (ws := wsX8_isIn) B.pre
  have hown : s.vm.findClass RX8 = some m.cls := findClass_of_methodNamed B.named
  have hlocks := B.notSynchronized
  subst hsz
  have hD := hD0.self (sz := s.heap.size)
  generalize hAe : va_A ([]) s.heap.size = A at hD hG ⊢
  have hA : ∀ q : Nat, s.heap.size ≤ q → A q := fun q h => by rw [← hAe]; exact Or.inr h
  clear hAe hD0
  have hS : va_S A s.heap s.heap [] := va_S.rf
  have hl := lv_entry ([.int x0, .int x1, .int x2]) (n := 3) (Nat.le_of_ble_eq_true rfl)
  rw [lg_entry_eq]
  generalize (lg_sl ([.int x0, .int x1, .int x2]) ++ List.replicate (3 - (lg_sl ([.int x0, .int x1, .int x2])).length) Slot.unset).toArray = ls at hl ⊢
  have hl : lv_has ls 3 [(0, .int x0), (1, .int x1), (2, .int x2)] := hl
  have htu : ∀ w ∈ UW, w.before _ s = true := fun w h => hts w (List.mem_cons_of_mem _ h)
  unfold f_X8_isIn at hf
  obtain ⟨H, hH⟩ : ∃ z, z = s.heap := ⟨_, rfl⟩
  obtain ⟨locs, hlo⟩ : ∃ z : List Loc, z = [] := ⟨_, rfl⟩
  have hS : va_S A s.heap H locs := by rw [hH, hlo]; exact hS
  rw [← hH] at hP
  have hW : W p l e (headSpec wsX8_isIn rmX8_isIn).room s m ([.int x0, .int x1, .int x2] : List Value).toArray below meth c H locs 0 0 (MQ below (qI g A ([]) r) ([.int x0, .int x1, .int x2] : List Value).toArray s 0 0 A) (F0 m 0 ls []) := by
    refine lv_iload_n hx hb dX8_isIn_0 rfl (lv_at hl 0 rfl) ?_
    refine lv_iload_n hx hb dX8_isIn_1 rfl (lv_at hl 1 rfl) ?_
    obtain ⟨k2, hk6, hf⟩ := jn_at hf
    have hJ3 : ∀ (t1 : Int32), k2 t1 = some r → ∀ (H : Heap) (locs : List Loc), va_P g.1 vwCl ([]) H → va_D A ([]) → va_S A s.heap H locs → ∀ ls : Array Slot, lv_has ls 3 [] → W p l e (headSpec wsX8_isIn rmX8_isIn).room s m ([.int x0, .int x1, .int x2] : List Value).toArray below meth c H locs 0 0 (MQ below (qI g A ([]) r) ([.int x0, .int x1, .int x2] : List Value).toArray s 0 0 A) (F0 m 15 ls [.int t1]) := by
      intro t1 hf H locs hP hD hS ls hl
      rw [hk6] at hf
      dsimp only at hf
      clear hk6
      obtain ⟨h4, hf⟩ := gd_isB hf
      have e5 := Option.some.inj hf
      exact k_zret hx hb hr hlocks hK hP hD hS e5 h4 dX8_isIn_15
    obtain ⟨k7, hk9, hf⟩ := jn_at hf
    have hJ8 : k7 = some r → ∀ (H : Heap) (locs : List Loc), va_P g.1 vwCl ([]) H → va_D A ([]) → va_S A s.heap H locs → ∀ ls : Array Slot, lv_has ls 3 [] → W p l e (headSpec wsX8_isIn rmX8_isIn).room s m ([.int x0, .int x1, .int x2] : List Value).toArray below meth c H locs 0 0 (MQ below (qI g A ([]) r) ([.int x0, .int x1, .int x2] : List Value).toArray s 0 0 A) (F0 m 14 ls []) := by
      intro hf H locs hP hD hS ls hl
      rw [hk9] at hf
      clear hk9
      refine lv_iconst (v := (0 : Int32)) hx hb dX8_isIn_14 (by decide) ?_
      exact hJ3 (0 : Int32) hf H locs hP hD hS _ (lv_sub hl [] rfl)
    refine lv_icmp_lt (tgt := 14) hx hb dX8_isIn_2 (by decide) (fun c10 => ?_) (fun c10 => ?_)
    · have hf := it_t hf c10
      exact hJ8 hf H locs hP hD hS _ (lv_sub hl [] rfl)
    · have hf := it_f hf c10
      refine lv_iload_n hx hb dX8_isIn_5 rfl (lv_at hl 0 rfl) ?_
      refine lv_iload_n hx hb dX8_isIn_6 rfl (lv_at hl 2 rfl) ?_
      refine lv_icmp_gt (tgt := 14) hx hb dX8_isIn_7 (by decide) (fun c11 => ?_) (fun c11 => ?_)
      · have hf := it_t hf c11
        exact hJ8 hf H locs hP hD hS _ (lv_sub hl [] rfl)
      · have hf := it_f hf c11
        refine lv_iconst (v := (1 : Int32)) hx hb dX8_isIn_10 (by decide) ?_
        refine lv_goto (tgt := 15) hx hb dX8_isIn_11 (by decide) ?_
        exact hJ3 (1 : Int32) hf H locs hP hD hS _ (lv_sub hl [] rfl)
  rw [hH, hlo] at hW
  exact hW
def f_X8_get (vM : Vs) (x1 : Int32) : Option (Int32) :=
  gd (inb (((440 : Int32) * (vM.1 3)) + x1) 3960) (some ((vM.2.1 1 ((((440 : Int32) * (vM.1 3)) + x1)).toNatClampNeg)))
abbrev wsX8_get : List Cond := .code yX8_get cX8_get 2 (some .int) :: UW
abbrev rmX8_get : Room := { frames := 0, cells := 0, slots := 0, locals := 0 }
set_option maxHeartbeats 4000000 in
set_option maxRecDepth 100000 in
theorem c_X8_get (l : Launch) (g : Gx) (bM : Nat → Nat) (vM : Vs) (x1 : Int32) (r : Int32) (hf : f_X8_get vM x1 = some r) : CtI l yX8_get wsX8_get rmX8_get g [.ref (bM 0), .int x1] (cM g bM vM) (cM g bM vM) r 0 0 := by
  unfold CtI
  intro sz
  refine Met.ofW (cc := cX8_get) (maxL := 2) (ret := (some .int)) (by decide) rfl ?_
  intro p e s m args below meth c s₁ B hml hv
  obtain ⟨rfl, hsz, hP, hK, hD0, hG⟩ := hv
  have hx := B.exec
  have hb := B.bytes
  have hr := B.returns
  have hts := atoms_spec (ws := wsX8_get) B.pre
  have hown : s.vm.findClass RX8 = some m.cls := findClass_of_methodNamed B.named
  have hlocks := B.notSynchronized
  subst hsz
  have hD := hD0.self (sz := s.heap.size)
  generalize hAe : va_A (cM g bM vM) s.heap.size = A at hD hG ⊢
  have hA : ∀ q : Nat, s.heap.size ≤ q → A q := fun q h => by rw [← hAe]; exact Or.inr h
  clear hAe hD0
  have hS : va_S A s.heap s.heap [] := va_S.rf
  have hl := lv_entry ([.ref (bM 0), .int x1]) (n := 2) (Nat.le_of_ble_eq_true rfl)
  rw [lg_entry_eq]
  generalize (lg_sl ([.ref (bM 0), .int x1]) ++ List.replicate (2 - (lg_sl ([.ref (bM 0), .int x1])).length) Slot.unset).toArray = ls at hl ⊢
  have hl : lv_has ls 2 [(0, .ref (bM 0)), (1, .int x1)] := hl
  have htu : ∀ w ∈ UW, w.before _ s = true := fun w h => hts w (List.mem_cons_of_mem _ h)
  have k_5_73 := htu _ mw_5_73
  have k_5_75 := htu _ mw_5_75
  unfold f_X8_get at hf
  obtain ⟨H, hH⟩ : ∃ z, z = s.heap := ⟨_, rfl⟩
  obtain ⟨locs, hlo⟩ : ∃ z : List Loc, z = [] := ⟨_, rfl⟩
  have hS : va_S A s.heap H locs := by rw [hH, hlo]; exact hS
  rw [← hH] at hP
  have hW : W p l e (headSpec wsX8_get rmX8_get).room s m ([.ref (bM 0), .int x1] : List Value).toArray below meth c H locs 0 0 (MQ below (qI g A (cM g bM vM) r) ([.ref (bM 0), .int x1] : List Value).toArray s 0 0 A) (F0 m 0 ls []) := by
    refine lv_aload_n hx hb dX8_get_0 rfl (lv_at hl 0 rfl) ?_
    refine va_get (D := g.1) (ci := 8) (fs := fcM bM vM) (v := .ref (bM 2)) (C := RX8) (T := TX8) (N := 23) hx hb htu hinX8 hown hK hP 0 rfl rfl 1 (by decide) k_5_73 (fun _ h9 => h9) rfl dX8_get_1 ?_
    refine lv_sipush (v := (440 : Int32)) hx hb dX8_get_4 (by decide) ?_
    refine lv_aload_n hx hb dX8_get_7 rfl (lv_at hl 0 rfl) ?_
    refine va_get (D := g.1) (ci := 8) (fs := fcM bM vM) (v := .int (vM.1 3)) (C := RX8) (T := TX8) (N := 23) hx hb htu hinX8 hown hK hP 0 rfl rfl 3 (by decide) k_5_75 (fun _ h9 => h9) rfl dX8_get_8 ?_
    refine lv_imul hx hb dX8_get_11 ?_
    refine lv_iload_n hx hb dX8_get_12 rfl (lv_at hl 1 rfl) ?_
    refine lv_iadd hx hb dX8_get_13 ?_
    obtain ⟨h1, hf⟩ := gd_in hf
    refine va_iald (D := g.1) (f := (vM.2.1 1)) hx hb hK hP 1 0 rfl rfl h1 dX8_get_14 ?_
    have e2 := Option.some.inj hf
    exact k_iret hx hb hr hlocks hK hP hD hS e2 dX8_get_15
  rw [hH, hlo] at hW
  exact hW
def f_X8_put (vM : Vs) (x1 : Int32) (x2 : Int32) : Option (Vs) :=
  gd (inb (((440 : Int32) * (vM.1 3)) + x1) 3960) (bn (sI vM 1 ((((440 : Int32) * (vM.1 3)) + x1)).toNatClampNeg x2) (fun (vM_2 : Vs) => some (vM_2)))
abbrev wsX8_put : List Cond := .code yX8_put cX8_put 3 none :: UW
abbrev rmX8_put : Room := { frames := 0, cells := 0, slots := 0, locals := 0 }
set_option maxHeartbeats 4000000 in
set_option maxRecDepth 100000 in
theorem c_X8_put (l : Launch) (g : Gx) (bM : Nat → Nat) (vM : Vs) (x1 : Int32) (x2 : Int32) (vM1 : Vs) (hf : f_X8_put vM x1 x2 = some vM1) : CtV l yX8_put wsX8_put rmX8_put g [.ref (bM 0), .int x1, .int x2] (cM g bM vM) (cM g bM vM1) 0 0 := by
  unfold CtV
  intro sz
  refine Met.ofW (cc := cX8_put) (maxL := 3) (ret := none) (by decide) rfl ?_
  intro p e s m args below meth c s₁ B hml hv
  obtain ⟨rfl, hsz, hP, hK, hD0, hG⟩ := hv
  have hx := B.exec
  have hb := B.bytes
  have hr := B.returns
  have hts := atoms_spec (ws := wsX8_put) B.pre
  have hown : s.vm.findClass RX8 = some m.cls := findClass_of_methodNamed B.named
  have hlocks := B.notSynchronized
  subst hsz
  have hD := hD0.self (sz := s.heap.size)
  generalize hAe : va_A (cM g bM vM) s.heap.size = A at hD hG ⊢
  have hA : ∀ q : Nat, s.heap.size ≤ q → A q := fun q h => by rw [← hAe]; exact Or.inr h
  clear hAe hD0
  have hS : va_S A s.heap s.heap [] := va_S.rf
  have hl := lv_entry ([.ref (bM 0), .int x1, .int x2]) (n := 3) (Nat.le_of_ble_eq_true rfl)
  rw [lg_entry_eq]
  generalize (lg_sl ([.ref (bM 0), .int x1, .int x2]) ++ List.replicate (3 - (lg_sl ([.ref (bM 0), .int x1, .int x2])).length) Slot.unset).toArray = ls at hl ⊢
  have hl : lv_has ls 3 [(0, .ref (bM 0)), (1, .int x1), (2, .int x2)] := hl
  have htu : ∀ w ∈ UW, w.before _ s = true := fun w h => hts w (List.mem_cons_of_mem _ h)
  have k_5_73 := htu _ mw_5_73
  have k_5_75 := htu _ mw_5_75
  unfold f_X8_put at hf
  obtain ⟨H, hH⟩ : ∃ z, z = s.heap := ⟨_, rfl⟩
  obtain ⟨locs, hlo⟩ : ∃ z : List Loc, z = [] := ⟨_, rfl⟩
  have hS : va_S A s.heap H locs := by rw [hH, hlo]; exact hS
  rw [← hH] at hP
  have hW : W p l e (headSpec wsX8_put rmX8_put).room s m ([.ref (bM 0), .int x1, .int x2] : List Value).toArray below meth c H locs 0 0 (MQ below (qV g A (cM g bM vM1)) ([.ref (bM 0), .int x1, .int x2] : List Value).toArray s 0 0 A) (F0 m 0 ls []) := by
    refine lv_aload_n hx hb dX8_put_0 rfl (lv_at hl 0 rfl) ?_
    refine va_get (D := g.1) (ci := 8) (fs := fcM bM vM) (v := .ref (bM 2)) (C := RX8) (T := TX8) (N := 23) hx hb htu hinX8 hown hK hP 0 rfl rfl 1 (by decide) k_5_73 (fun _ h9 => h9) rfl dX8_put_1 ?_
    refine lv_sipush (v := (440 : Int32)) hx hb dX8_put_4 (by decide) ?_
    refine lv_aload_n hx hb dX8_put_7 rfl (lv_at hl 0 rfl) ?_
    refine va_get (D := g.1) (ci := 8) (fs := fcM bM vM) (v := .int (vM.1 3)) (C := RX8) (T := TX8) (N := 23) hx hb htu hinX8 hown hK hP 0 rfl rfl 3 (by decide) k_5_75 (fun _ h9 => h9) rfl dX8_put_8 ?_
    refine lv_imul hx hb dX8_put_11 ?_
    refine lv_iload_n hx hb dX8_put_12 rfl (lv_at hl 1 rfl) ?_
    refine lv_iadd hx hb dX8_put_13 ?_
    refine lv_iload_n hx hb dX8_put_14 rfl (lv_at hl 2 rfl) ?_
    obtain ⟨h1, hf⟩ := gd_in hf
    refine va_iast (D := g.1) (f := (vM.2.1 1)) hx hb hK hP hD hS 1 0 rfl rfl h1 dX8_put_15 (fun H locs hP hD hS => ?_)
    obtain ⟨vM_2, evM_2⟩ : ∃ z, z = sI vM 1 ((((440 : Int32) * (vM.1 3)) + x1)).toNatClampNeg x2 := ⟨_, rfl⟩
    have hf := bn_at hf evM_2
    have hP : va_P g.1 vwCl (cM g bM vM_2) H := by rw [evM_2]; exact hP
    have hD : va_D A (cM g bM vM_2) := by rw [evM_2]; exact hD
    have e3 := Option.some.inj hf
    rw [e3] at hP hD
    exact k_vret hx hb hr hlocks hK hP hD hS dX8_put_16
  rw [hH, hlo] at hW
  exact hW
def f_X8_change_L12 (y2 : Int32) (self5 : Int32 → Vs → Option (Vs)) (x2_3 : Int32) (vM_4 : Vs) : Option (Vs) :=
  if (440 : Int32) ≤ x2_3 then bn (sF vM_4 3 y2) (fun (vM_9 : Vs) => jn (fun (t10 : Int32) => bn (sF vM_9 4 t10) (fun (vM_13 : Vs) => some (vM_13))) (fun k11 => if (8 : Int32) ≤ (vM_9.1 4) then k11 (vM_9.1 4) else k11 ((vM_9.1 4) + (1 : Int32)))) else o1 (f_X8_get vM_4 x2_3) (fun (r17 : Int32) => gd (inb (((440 : Int32) * y2) + x2_3) 3960) (bn (sI vM_4 1 ((((440 : Int32) * y2) + x2_3)).toNatClampNeg r17) (fun (vM_20 : Vs) => self5 (x2_3 + (1 : Int32)) vM_20)))
def f_X8_change (vM : Vs) : Option (Vs) :=
  gd (nz (9 : Int32)) (bn ((((vM.1 3) + (1 : Int32)) - ((vM.1 3) + (1 : Int32)) / (9 : Int32) * (9 : Int32))) (fun (y2 : Int32) => lp (f_X8_change_L12 y2) (fun _ _ => none) FU (0 : Int32) vM))
abbrev wsX8_change : List Cond := .code yX8_change cX8_change 3 none :: UW
abbrev rmX8_change : Room := { frames := 1, cells := 0, slots := 0, locals := 21 }
set_option maxHeartbeats 4000000 in
set_option maxRecDepth 100000 in
theorem c_X8_change (l : Launch) (g : Gx) (bM : Nat → Nat) (vM : Vs) (vM1 : Vs) (hf : f_X8_change vM = some vM1) : CtV l yX8_change wsX8_change rmX8_change g [.ref (bM 0)] (cM g bM vM) (cM g bM vM1) 0 0 := by
  unfold CtV
  intro sz
  refine Met.ofW (cc := cX8_change) (maxL := 3) (ret := none) (by decide) rfl ?_
  intro p e s m args below meth c s₁ B hml hv
  obtain ⟨rfl, hsz, hP, hK, hD0, hG⟩ := hv
  have hx := B.exec
  have hb := B.bytes
  have hr := B.returns
  have hts := atoms_spec (ws := wsX8_change) B.pre
  have hown : s.vm.findClass RX8 = some m.cls := findClass_of_methodNamed B.named
  have hlocks := B.notSynchronized
  subst hsz
  have hD := hD0.self (sz := s.heap.size)
  generalize hAe : va_A (cM g bM vM) s.heap.size = A at hD hG ⊢
  have hA : ∀ q : Nat, s.heap.size ≤ q → A q := fun q h => by rw [← hAe]; exact Or.inr h
  clear hAe hD0
  have hS : va_S A s.heap s.heap [] := va_S.rf
  have hl := lv_entry ([.ref (bM 0)]) (n := 3) (Nat.le_of_ble_eq_true rfl)
  rw [lg_entry_eq]
  generalize (lg_sl ([.ref (bM 0)]) ++ List.replicate (3 - (lg_sl ([.ref (bM 0)])).length) Slot.unset).toArray = ls at hl ⊢
  have hl : lv_has ls 3 [(0, .ref (bM 0))] := hl
  have htu : ∀ w ∈ UW, w.before _ s = true := fun w h => hts w (List.mem_cons_of_mem _ h)
  have k_5_75 := htu _ mw_5_75
  have k_5_76 := htu _ mw_5_76
  have k_5_73 := htu _ mw_5_73
  unfold f_X8_change at hf
  obtain ⟨H, hH⟩ : ∃ z, z = s.heap := ⟨_, rfl⟩
  obtain ⟨locs, hlo⟩ : ∃ z : List Loc, z = [] := ⟨_, rfl⟩
  have hS : va_S A s.heap H locs := by rw [hH, hlo]; exact hS
  rw [← hH] at hP
  have hW : W p l e (headSpec wsX8_change rmX8_change).room s m ([.ref (bM 0)] : List Value).toArray below meth c H locs 0 0 (MQ below (qV g A (cM g bM vM1)) ([.ref (bM 0)] : List Value).toArray s 0 0 A) (F0 m 0 ls []) := by
    refine lv_aload_n hx hb dX8_change_0 rfl (lv_at hl 0 rfl) ?_
    refine va_get (D := g.1) (ci := 8) (fs := fcM bM vM) (v := .int (vM.1 3)) (C := RX8) (T := TX8) (N := 23) hx hb htu hinX8 hown hK hP 0 rfl rfl 3 (by decide) k_5_75 (fun _ h9 => h9) rfl dX8_change_1 ?_
    refine lv_iconst (v := (1 : Int32)) hx hb dX8_change_4 (by decide) ?_
    refine lv_iadd hx hb dX8_change_5 ?_
    refine lv_bipush (v := (9 : Int32)) hx hb dX8_change_6 (by decide) ?_
    obtain ⟨h1, hf⟩ := gd_nz hf
    refine lv_irem hx hb dX8_change_8 h1 ?_
    refine lv_topi (fun y2 ey2 => ?_)
    have hf := bn_at hf ey2
    refine lv_istore_n (lv' := [(1, .int y2), (0, .ref (bM 0))]) hx hb dX8_change_9 rfl hl (by decide) rfl (fun ls hl => ?_)
    refine lv_iconst (v := (0 : Int32)) hx hb dX8_change_10 (by decide) ?_
    refine lv_istore_n (lv' := [(2, .int (0 : Int32)), (1, .int y2), (0, .ref (bM 0))]) hx hb dX8_change_11 rfl hl (by decide) rfl (fun ls hl => ?_)
    have hL6 : ∀ (x2_3 : Int32) (vM_4 : Vs), lp (f_X8_change_L12 y2) (fun _ _ => none) FU x2_3 vM_4 = some vM1 → ∀ (H : Heap) (locs : List Loc), va_P g.1 vwCl (cM g bM vM_4) H → va_D A (cM g bM vM_4) → va_S A s.heap H locs → ∀ ls : Array Slot, lv_has ls 3 [(0, .ref (bM 0)), (1, .int y2), (2, .int x2_3)] → W p l e (headSpec wsX8_change rmX8_change).room s m ([.ref (bM 0)] : List Value).toArray below meth c H locs 0 0 (MQ below (qV g A (cM g bM vM1)) ([.ref (bM 0)] : List Value).toArray s 0 0 A) (F0 m 12 ls []) := by
      refine lp_ind (T := Int32 → Vs → Option (Vs)) (fun self5 => ∀ (x2_3 : Int32) (vM_4 : Vs), self5 x2_3 vM_4 = some vM1 → ∀ (H : Heap) (locs : List Loc), va_P g.1 vwCl (cM g bM vM_4) H → va_D A (cM g bM vM_4) → va_S A s.heap H locs → ∀ ls : Array Slot, lv_has ls 3 [(0, .ref (bM 0)), (1, .int y2), (2, .int x2_3)] → W p l e (headSpec wsX8_change rmX8_change).room s m ([.ref (bM 0)] : List Value).toArray below meth c H locs 0 0 (MQ below (qV g A (cM g bM vM1)) ([.ref (bM 0)] : List Value).toArray s 0 0 A) (F0 m 12 ls [])) ?_ ?_ FU
      · intro x2_3 vM_4 hf; cases hf
      · intro self5 ih7 x2_3 vM_4 hf H locs hP hD hS ls hl
        unfold f_X8_change_L12 at hf
        refine lv_iload_n hx hb dX8_change_12 rfl (lv_at hl 2 rfl) ?_
        refine lv_sipush (v := (440 : Int32)) hx hb dX8_change_13 (by decide) ?_
        refine lv_icmp_ge (tgt := 42) hx hb dX8_change_16 (by decide) (fun c8 => ?_) (fun c8 => ?_)
        · have hf := it_t hf c8
          refine lv_aload_n hx hb dX8_change_42 rfl (lv_at hl 0 rfl) ?_
          refine lv_iload_n hx hb dX8_change_43 rfl (lv_at hl 1 rfl) ?_
          refine va_put (D := g.1) (ci := 8) (fs := fcM bM vM_4) (v := .int y2) (ty := .int) (C := RX8) (T := TX8) (N := 23) hx hb htu hinX8 tyX8 tyX8_ok nmX8 hown hK hP hD hS 0 rfl rfl 3 (by decide) k_5_75 (fun _ h9 => h9) rfl (by decide +kernel) rfl rfl (Nat.le_of_ble_eq_true rfl) dX8_change_44 (fun H locs hP hD hS => ?_)
          obtain ⟨vM_9, evM_9⟩ : ∃ z, z = sF vM_4 3 y2 := ⟨_, rfl⟩
          have hf := bn_at hf evM_9
          have hP : va_P g.1 vwCl (cM g bM vM_9) H := by rw [evM_9]; exact hP
          have hD : va_D A (cM g bM vM_9) := by rw [evM_9]; exact hD
          refine lv_aload_n hx hb dX8_change_47 rfl (lv_at hl 0 rfl) ?_
          refine lv_aload_n hx hb dX8_change_48 rfl (lv_at hl 0 rfl) ?_
          refine va_get (D := g.1) (ci := 8) (fs := fcM bM vM_9) (v := .int (vM_9.1 4)) (C := RX8) (T := TX8) (N := 23) hx hb htu hinX8 hown hK hP 0 rfl rfl 4 (by decide) k_5_76 (fun _ h9 => h9) rfl dX8_change_49 ?_
          refine lv_bipush (v := (8 : Int32)) hx hb dX8_change_52 (by decide) ?_
          obtain ⟨k11, hk15, hf⟩ := jn_at hf
          have hJ12 : ∀ (t10 : Int32), k11 t10 = some vM1 → ∀ (H : Heap) (locs : List Loc), va_P g.1 vwCl (cM g bM vM_9) H → va_D A (cM g bM vM_9) → va_S A s.heap H locs → ∀ ls : Array Slot, lv_has ls 3 [] → W p l e (headSpec wsX8_change rmX8_change).room s m ([.ref (bM 0)] : List Value).toArray below meth c H locs 0 0 (MQ below (qV g A (cM g bM vM1)) ([.ref (bM 0)] : List Value).toArray s 0 0 A) (F0 m 70 ls [.int t10, .ref (bM 0)]) := by
            intro t10 hf H locs hP hD hS ls hl
            rw [hk15] at hf
            dsimp only at hf
            clear hk15
            refine va_put (D := g.1) (ci := 8) (fs := fcM bM vM_9) (v := .int t10) (ty := .int) (C := RX8) (T := TX8) (N := 23) hx hb htu hinX8 tyX8 tyX8_ok nmX8 hown hK hP hD hS 0 rfl rfl 4 (by decide) k_5_76 (fun _ h9 => h9) rfl (by decide +kernel) rfl rfl (Nat.le_of_ble_eq_true rfl) dX8_change_70 (fun H locs hP hD hS => ?_)
            obtain ⟨vM_13, evM_13⟩ : ∃ z, z = sF vM_9 4 t10 := ⟨_, rfl⟩
            have hf := bn_at hf evM_13
            have hP : va_P g.1 vwCl (cM g bM vM_13) H := by rw [evM_13]; exact hP
            have hD : va_D A (cM g bM vM_13) := by rw [evM_13]; exact hD
            have e14 := Option.some.inj hf
            rw [e14] at hP hD
            exact k_vret hx hb hr hlocks hK hP hD hS dX8_change_73
          refine lv_icmp_ge (tgt := 66) hx hb dX8_change_54 (by decide) (fun c16 => ?_) (fun c16 => ?_)
          · have hf := it_t hf c16
            refine lv_aload_n hx hb dX8_change_66 rfl (lv_at hl 0 rfl) ?_
            refine va_get (D := g.1) (ci := 8) (fs := fcM bM vM_9) (v := .int (vM_9.1 4)) (C := RX8) (T := TX8) (N := 23) hx hb htu hinX8 hown hK hP 0 rfl rfl 4 (by decide) k_5_76 (fun _ h9 => h9) rfl dX8_change_67 ?_
            exact hJ12 (vM_9.1 4) hf H locs hP hD hS _ (lv_sub hl [] rfl)
          · have hf := it_f hf c16
            refine lv_aload_n hx hb dX8_change_57 rfl (lv_at hl 0 rfl) ?_
            refine va_get (D := g.1) (ci := 8) (fs := fcM bM vM_9) (v := .int (vM_9.1 4)) (C := RX8) (T := TX8) (N := 23) hx hb htu hinX8 hown hK hP 0 rfl rfl 4 (by decide) k_5_76 (fun _ h9 => h9) rfl dX8_change_58 ?_
            refine lv_iconst (v := (1 : Int32)) hx hb dX8_change_61 (by decide) ?_
            refine lv_iadd hx hb dX8_change_62 ?_
            refine lv_goto (tgt := 70) hx hb dX8_change_63 (by decide) ?_
            exact hJ12 ((vM_9.1 4) + (1 : Int32)) hf H locs hP hD hS _ (lv_sub hl [] rfl)
        · have hf := it_f hf c8
          refine lv_aload_n hx hb dX8_change_19 rfl (lv_at hl 0 rfl) ?_
          refine va_get (D := g.1) (ci := 8) (fs := fcM bM vM_4) (v := .ref (bM 2)) (C := RX8) (T := TX8) (N := 23) hx hb htu hinX8 hown hK hP 0 rfl rfl 1 (by decide) k_5_73 (fun _ h9 => h9) rfl dX8_change_20 ?_
          refine lv_sipush (v := (440 : Int32)) hx hb dX8_change_23 (by decide) ?_
          refine lv_iload_n hx hb dX8_change_26 rfl (lv_at hl 1 rfl) ?_
          refine lv_imul hx hb dX8_change_27 ?_
          refine lv_iload_n hx hb dX8_change_28 rfl (lv_at hl 2 rfl) ?_
          refine lv_iadd hx hb dX8_change_29 ?_
          refine lv_aload_n hx hb dX8_change_30 rfl (lv_at hl 0 rfl) ?_
          refine lv_iload_n hx hb dX8_change_31 rfl (lv_at hl 2 rfl) ?_
          obtain ⟨r17, hg18, hf⟩ := o1_at hf
          refine k_viW ⟨hx, hb, hml, hown, htu⟩ hK hP hD hS hA hG (c_X8_get l g bM vM_4 x2_3 r17 hg18) (cwV 1 htu (gU_V mw_6_20 hcX8_get) rfl rfl rfl hdX8_get ⟨Nat.le_of_ble_eq_true rfl, Nat.le_of_ble_eq_true rfl⟩) (q0 := 0) (ci := 8) (fs := fcM bM vM_4) (q := (RX8, TX8, 23)) rfl rfl rfl (As := [.int x2_3]) (rest := [.int (((440 : Int32) * y2) + x2_3), .ref (bM 2)]) rfl rfl hl.1 (Nat.le_of_ble_eq_true rfl) dX8_change_32 (k1 := 0) (n1 := 0) rfl rfl ⟨Nat.zero_le _, Nat.zero_le _⟩ (fun H locs hP hD hS => ?_)
          obtain ⟨h19, hf⟩ := gd_in hf
          refine va_iast (D := g.1) (f := (vM_4.2.1 1)) hx hb hK hP hD hS 1 0 rfl rfl h19 dX8_change_35 (fun H locs hP hD hS => ?_)
          obtain ⟨vM_20, evM_20⟩ : ∃ z, z = sI vM_4 1 ((((440 : Int32) * y2) + x2_3)).toNatClampNeg r17 := ⟨_, rfl⟩
          have hf := bn_at hf evM_20
          have hP : va_P g.1 vwCl (cM g bM vM_20) H := by rw [evM_20]; exact hP
          have hD : va_D A (cM g bM vM_20) := by rw [evM_20]; exact hD
          refine lv_iinc (v := (x2_3 + (1 : Int32))) (lv' := [(2, .int (x2_3 + (1 : Int32))), (0, .ref (bM 0)), (1, .int y2)]) hx hb dX8_change_36 hl (k := 2) rfl rfl (by decide) rfl (fun ls hl => ?_)
          refine lv_goto (tgt := 12) hx hb dX8_change_39 (by decide) ?_
          exact ih7 (x2_3 + (1 : Int32)) vM_20 hf H locs hP hD hS _ (lv_sub hl [1, 2, 0] rfl)
    exact hL6 (0 : Int32) vM hf H locs hP hD hS _ (lv_sub hl [2, 1, 0] rfl)
  rw [hH, hlo] at hW
  exact hW
def f_X8_right (vM : Vs) (x1 : Int32) (x2 : Int32) : Option (Int32 × Vs) :=
  jn (fun (vM_1 : Vs) => jn (fun (t4 : Int32) => gd (isB t4) (some (t4, vM_1))) (fun k5 => if (vM_1.1 0) = 0 then k5 (1 : Int32) else k5 (0 : Int32))) (fun k2 => if (vM.1 0) = 0 then if x1 = 0 then bn (sF vM 0 x2) (fun (vM_15 : Vs) => k2 vM_15) else k2 vM else k2 vM)
abbrev wsX8_right : List Cond := .code yX8_right cX8_right 3 (some .boolean) :: UW
abbrev rmX8_right : Room := { frames := 0, cells := 0, slots := 0, locals := 0 }
set_option maxHeartbeats 4000000 in
set_option maxRecDepth 100000 in
theorem c_X8_right (l : Launch) (g : Gx) (bM : Nat → Nat) (vM : Vs) (x1 : Int32) (x2 : Int32) (r : Int32) (vM1 : Vs) (hf : f_X8_right vM x1 x2 = some (r, vM1)) : CtI l yX8_right wsX8_right rmX8_right g [.ref (bM 0), .int x1, .int x2] (cM g bM vM) (cM g bM vM1) r 0 0 := by
  unfold CtI
  intro sz
  refine Met.ofW (cc := cX8_right) (maxL := 3) (ret := (some .boolean)) (by decide) rfl ?_
  intro p e s m args below meth c s₁ B hml hv
  obtain ⟨rfl, hsz, hP, hK, hD0, hG⟩ := hv
  have hx := B.exec
  have hb := B.bytes
  have hr := B.returns
  have hts := atoms_spec (ws := wsX8_right) B.pre
  have hown : s.vm.findClass RX8 = some m.cls := findClass_of_methodNamed B.named
  have hlocks := B.notSynchronized
  subst hsz
  have hD := hD0.self (sz := s.heap.size)
  generalize hAe : va_A (cM g bM vM) s.heap.size = A at hD hG ⊢
  have hA : ∀ q : Nat, s.heap.size ≤ q → A q := fun q h => by rw [← hAe]; exact Or.inr h
  clear hAe hD0
  have hS : va_S A s.heap s.heap [] := va_S.rf
  have hl := lv_entry ([.ref (bM 0), .int x1, .int x2]) (n := 3) (Nat.le_of_ble_eq_true rfl)
  rw [lg_entry_eq]
  generalize (lg_sl ([.ref (bM 0), .int x1, .int x2]) ++ List.replicate (3 - (lg_sl ([.ref (bM 0), .int x1, .int x2])).length) Slot.unset).toArray = ls at hl ⊢
  have hl : lv_has ls 3 [(0, .ref (bM 0)), (1, .int x1), (2, .int x2)] := hl
  have htu : ∀ w ∈ UW, w.before _ s = true := fun w h => hts w (List.mem_cons_of_mem _ h)
  have k_5_72 := htu _ mw_5_72
  unfold f_X8_right at hf
  obtain ⟨H, hH⟩ : ∃ z, z = s.heap := ⟨_, rfl⟩
  obtain ⟨locs, hlo⟩ : ∃ z : List Loc, z = [] := ⟨_, rfl⟩
  have hS : va_S A s.heap H locs := by rw [hH, hlo]; exact hS
  rw [← hH] at hP
  have hW : W p l e (headSpec wsX8_right rmX8_right).room s m ([.ref (bM 0), .int x1, .int x2] : List Value).toArray below meth c H locs 0 0 (MQ below (qI g A (cM g bM vM1) r) ([.ref (bM 0), .int x1, .int x2] : List Value).toArray s 0 0 A) (F0 m 0 ls []) := by
    refine lv_aload_n hx hb dX8_right_0 rfl (lv_at hl 0 rfl) ?_
    refine va_get (D := g.1) (ci := 8) (fs := fcM bM vM) (v := .int (vM.1 0)) (C := RX8) (T := TX8) (N := 23) hx hb htu hinX8 hown hK hP 0 rfl rfl 0 (by decide) k_5_72 (fun _ h9 => h9) rfl dX8_right_1 ?_
    obtain ⟨k2, hk12, hf⟩ := jn_at hf
    have hJ3 : ∀ (vM_1 : Vs), k2 vM_1 = some (r, vM1) → ∀ (H : Heap) (locs : List Loc), va_P g.1 vwCl (cM g bM vM_1) H → va_D A (cM g bM vM_1) → va_S A s.heap H locs → ∀ ls : Array Slot, lv_has ls 3 [(0, .ref (bM 0))] → W p l e (headSpec wsX8_right rmX8_right).room s m ([.ref (bM 0), .int x1, .int x2] : List Value).toArray below meth c H locs 0 0 (MQ below (qI g A (cM g bM vM1) r) ([.ref (bM 0), .int x1, .int x2] : List Value).toArray s 0 0 A) (F0 m 16 ls []) := by
      intro vM_1 hf H locs hP hD hS ls hl
      rw [hk12] at hf
      dsimp only at hf
      clear hk12
      refine lv_aload_n hx hb dX8_right_16 rfl (lv_at hl 0 rfl) ?_
      refine va_get (D := g.1) (ci := 8) (fs := fcM bM vM_1) (v := .int (vM_1.1 0)) (C := RX8) (T := TX8) (N := 23) hx hb htu hinX8 hown hK hP 0 rfl rfl 0 (by decide) k_5_72 (fun _ h9 => h9) rfl dX8_right_17 ?_
      obtain ⟨k5, hk10, hf⟩ := jn_at hf
      have hJ6 : ∀ (t4 : Int32), k5 t4 = some (r, vM1) → ∀ (H : Heap) (locs : List Loc), va_P g.1 vwCl (cM g bM vM_1) H → va_D A (cM g bM vM_1) → va_S A s.heap H locs → ∀ ls : Array Slot, lv_has ls 3 [] → W p l e (headSpec wsX8_right rmX8_right).room s m ([.ref (bM 0), .int x1, .int x2] : List Value).toArray below meth c H locs 0 0 (MQ below (qI g A (cM g bM vM1) r) ([.ref (bM 0), .int x1, .int x2] : List Value).toArray s 0 0 A) (F0 m 28 ls [.int t4]) := by
        intro t4 hf H locs hP hD hS ls hl
        rw [hk10] at hf
        dsimp only at hf
        clear hk10
        obtain ⟨h7, hf⟩ := gd_isB hf
        obtain ⟨e8, e9⟩ := kp_2 hf
        rw [e9] at hP hD
        exact k_zret hx hb hr hlocks hK hP hD hS e8 h7 dX8_right_28
      refine lv_if_ne (tgt := 27) hx hb dX8_right_20 (by decide) (fun c11 => ?_) (fun c11 => ?_)
      · have hf := it_f hf c11
        refine lv_iconst (v := (0 : Int32)) hx hb dX8_right_27 (by decide) ?_
        exact hJ6 (0 : Int32) hf H locs hP hD hS _ (lv_sub hl [] rfl)
      · have hf := it_t hf c11
        refine lv_iconst (v := (1 : Int32)) hx hb dX8_right_23 (by decide) ?_
        refine lv_goto (tgt := 28) hx hb dX8_right_24 (by decide) ?_
        exact hJ6 (1 : Int32) hf H locs hP hD hS _ (lv_sub hl [] rfl)
    refine lv_if_ne (tgt := 16) hx hb dX8_right_4 (by decide) (fun c13 => ?_) (fun c13 => ?_)
    · have hf := it_f hf c13
      exact hJ3 vM hf H locs hP hD hS _ (lv_sub hl [0] rfl)
    · have hf := it_t hf c13
      refine lv_iload_n hx hb dX8_right_7 rfl (lv_at hl 1 rfl) ?_
      refine lv_if_ne (tgt := 16) hx hb dX8_right_8 (by decide) (fun c14 => ?_) (fun c14 => ?_)
      · have hf := it_f hf c14
        exact hJ3 vM hf H locs hP hD hS _ (lv_sub hl [0] rfl)
      · have hf := it_t hf c14
        refine lv_aload_n hx hb dX8_right_11 rfl (lv_at hl 0 rfl) ?_
        refine lv_iload_n hx hb dX8_right_12 rfl (lv_at hl 2 rfl) ?_
        refine va_put (D := g.1) (ci := 8) (fs := fcM bM vM) (v := .int x2) (ty := .int) (C := RX8) (T := TX8) (N := 23) hx hb htu hinX8 tyX8 tyX8_ok nmX8 hown hK hP hD hS 0 rfl rfl 0 (by decide) k_5_72 (fun _ h9 => h9) rfl (by decide +kernel) rfl rfl (Nat.le_of_ble_eq_true rfl) dX8_right_13 (fun H locs hP hD hS => ?_)
        obtain ⟨vM_15, evM_15⟩ : ∃ z, z = sF vM 0 x2 := ⟨_, rfl⟩
        have hf := bn_at hf evM_15
        have hP : va_P g.1 vwCl (cM g bM vM_15) H := by rw [evM_15]; exact hP
        have hD : va_D A (cM g bM vM_15) := by rw [evM_15]; exact hD
        exact hJ3 vM_15 hf H locs hP hD hS _ (lv_sub hl [0] rfl)
  rw [hH, hlo] at hW
  exact hW
def f_X8_plain_L42 (self9 : Int32 → Vs → Option (Vs)) (x1_7 : Int32) (vM_8 : Vs) : Option (Vs) :=
  if (24 : Int32) ≤ x1_7 then some (vM_8) else gd (inb ((8 : Int32) + x1_7) 440) (bn (sI vM_8 2 (((8 : Int32) + x1_7)).toNatClampNeg (-1 : Int32)) (fun (vM_15 : Vs) => self9 (x1_7 + (1 : Int32)) vM_15))
def f_X8_plain_L2 (self3 : Int32 → Vs → Option (Vs)) (x1_1 : Int32) (vM_2 : Vs) : Option (Vs) :=
  if (440 : Int32) ≤ x1_1 then lp f_X8_plain_L42 (fun _ _ => none) FU (0 : Int32) vM_2 else jn (fun (t16 : Int32) => gd (inb x1_1 440) (bn (sI vM_2 2 (x1_1).toNatClampNeg t16) (fun (vM_20 : Vs) => self3 (x1_1 + (1 : Int32)) vM_20))) (fun k17 => jn (k17 (0 : Int32)) (fun k22 => if x1_1 < (310 : Int32) then k22 else if (406 : Int32) ≤ x1_1 then k22 else k17 (2 : Int32)))
def f_X8_plain (vM : Vs) : Option (Vs) :=
  lp f_X8_plain_L2 (fun _ _ => none) FU (0 : Int32) vM
abbrev wsX8_plain : List Cond := .code yX8_plain cX8_plain 2 none :: UW
abbrev rmX8_plain : Room := { frames := 0, cells := 0, slots := 0, locals := 0 }
set_option maxHeartbeats 4000000 in
set_option maxRecDepth 100000 in
theorem c_X8_plain (l : Launch) (g : Gx) (bM : Nat → Nat) (vM : Vs) (vM1 : Vs) (hf : f_X8_plain vM = some vM1) : CtV l yX8_plain wsX8_plain rmX8_plain g [.ref (bM 0)] (cM g bM vM) (cM g bM vM1) 0 0 := by
  unfold CtV
  intro sz
  refine Met.ofW (cc := cX8_plain) (maxL := 2) (ret := none) (by decide) rfl ?_
  intro p e s m args below meth c s₁ B hml hv
  obtain ⟨rfl, hsz, hP, hK, hD0, hG⟩ := hv
  have hx := B.exec
  have hb := B.bytes
  have hr := B.returns
  have hts := atoms_spec (ws := wsX8_plain) B.pre
  have hown : s.vm.findClass RX8 = some m.cls := findClass_of_methodNamed B.named
  have hlocks := B.notSynchronized
  subst hsz
  have hD := hD0.self (sz := s.heap.size)
  generalize hAe : va_A (cM g bM vM) s.heap.size = A at hD hG ⊢
  have hA : ∀ q : Nat, s.heap.size ≤ q → A q := fun q h => by rw [← hAe]; exact Or.inr h
  clear hAe hD0
  have hS : va_S A s.heap s.heap [] := va_S.rf
  have hl := lv_entry ([.ref (bM 0)]) (n := 2) (Nat.le_of_ble_eq_true rfl)
  rw [lg_entry_eq]
  generalize (lg_sl ([.ref (bM 0)]) ++ List.replicate (2 - (lg_sl ([.ref (bM 0)])).length) Slot.unset).toArray = ls at hl ⊢
  have hl : lv_has ls 2 [(0, .ref (bM 0))] := hl
  have htu : ∀ w ∈ UW, w.before _ s = true := fun w h => hts w (List.mem_cons_of_mem _ h)
  have k_5_74 := htu _ mw_5_74
  unfold f_X8_plain at hf
  obtain ⟨H, hH⟩ : ∃ z, z = s.heap := ⟨_, rfl⟩
  obtain ⟨locs, hlo⟩ : ∃ z : List Loc, z = [] := ⟨_, rfl⟩
  have hS : va_S A s.heap H locs := by rw [hH, hlo]; exact hS
  rw [← hH] at hP
  have hW : W p l e (headSpec wsX8_plain rmX8_plain).room s m ([.ref (bM 0)] : List Value).toArray below meth c H locs 0 0 (MQ below (qV g A (cM g bM vM1)) ([.ref (bM 0)] : List Value).toArray s 0 0 A) (F0 m 0 ls []) := by
    refine lv_iconst (v := (0 : Int32)) hx hb dX8_plain_0 (by decide) ?_
    refine lv_istore_n (lv' := [(1, .int (0 : Int32)), (0, .ref (bM 0))]) hx hb dX8_plain_1 rfl hl (by decide) rfl (fun ls hl => ?_)
    have hL4 : ∀ (x1_1 : Int32) (vM_2 : Vs), lp f_X8_plain_L2 (fun _ _ => none) FU x1_1 vM_2 = some vM1 → ∀ (H : Heap) (locs : List Loc), va_P g.1 vwCl (cM g bM vM_2) H → va_D A (cM g bM vM_2) → va_S A s.heap H locs → ∀ ls : Array Slot, lv_has ls 2 [(0, .ref (bM 0)), (1, .int x1_1)] → W p l e (headSpec wsX8_plain rmX8_plain).room s m ([.ref (bM 0)] : List Value).toArray below meth c H locs 0 0 (MQ below (qV g A (cM g bM vM1)) ([.ref (bM 0)] : List Value).toArray s 0 0 A) (F0 m 2 ls []) := by
      refine lp_ind (T := Int32 → Vs → Option (Vs)) (fun self3 => ∀ (x1_1 : Int32) (vM_2 : Vs), self3 x1_1 vM_2 = some vM1 → ∀ (H : Heap) (locs : List Loc), va_P g.1 vwCl (cM g bM vM_2) H → va_D A (cM g bM vM_2) → va_S A s.heap H locs → ∀ ls : Array Slot, lv_has ls 2 [(0, .ref (bM 0)), (1, .int x1_1)] → W p l e (headSpec wsX8_plain rmX8_plain).room s m ([.ref (bM 0)] : List Value).toArray below meth c H locs 0 0 (MQ below (qV g A (cM g bM vM1)) ([.ref (bM 0)] : List Value).toArray s 0 0 A) (F0 m 2 ls [])) ?_ ?_ FU
      · intro x1_1 vM_2 hf; cases hf
      · intro self3 ih5 x1_1 vM_2 hf H locs hP hD hS ls hl
        unfold f_X8_plain_L2 at hf
        refine lv_iload_n hx hb dX8_plain_2 rfl (lv_at hl 1 rfl) ?_
        refine lv_sipush (v := (440 : Int32)) hx hb dX8_plain_3 (by decide) ?_
        refine lv_icmp_ge (tgt := 40) hx hb dX8_plain_6 (by decide) (fun c6 => ?_) (fun c6 => ?_)
        · have hf := it_t hf c6
          refine lv_iconst (v := (0 : Int32)) hx hb dX8_plain_40 (by decide) ?_
          refine lv_istore_n (lv' := [(1, .int (0 : Int32)), (0, .ref (bM 0))]) hx hb dX8_plain_41 rfl hl (by decide) rfl (fun ls hl => ?_)
          have hL10 : ∀ (x1_7 : Int32) (vM_8 : Vs), lp f_X8_plain_L42 (fun _ _ => none) FU x1_7 vM_8 = some vM1 → ∀ (H : Heap) (locs : List Loc), va_P g.1 vwCl (cM g bM vM_8) H → va_D A (cM g bM vM_8) → va_S A s.heap H locs → ∀ ls : Array Slot, lv_has ls 2 [(0, .ref (bM 0)), (1, .int x1_7)] → W p l e (headSpec wsX8_plain rmX8_plain).room s m ([.ref (bM 0)] : List Value).toArray below meth c H locs 0 0 (MQ below (qV g A (cM g bM vM1)) ([.ref (bM 0)] : List Value).toArray s 0 0 A) (F0 m 42 ls []) := by
            refine lp_ind (T := Int32 → Vs → Option (Vs)) (fun self9 => ∀ (x1_7 : Int32) (vM_8 : Vs), self9 x1_7 vM_8 = some vM1 → ∀ (H : Heap) (locs : List Loc), va_P g.1 vwCl (cM g bM vM_8) H → va_D A (cM g bM vM_8) → va_S A s.heap H locs → ∀ ls : Array Slot, lv_has ls 2 [(0, .ref (bM 0)), (1, .int x1_7)] → W p l e (headSpec wsX8_plain rmX8_plain).room s m ([.ref (bM 0)] : List Value).toArray below meth c H locs 0 0 (MQ below (qV g A (cM g bM vM1)) ([.ref (bM 0)] : List Value).toArray s 0 0 A) (F0 m 42 ls [])) ?_ ?_ FU
            · intro x1_7 vM_8 hf; cases hf
            · intro self9 ih11 x1_7 vM_8 hf H locs hP hD hS ls hl
              unfold f_X8_plain_L42 at hf
              refine lv_iload_n hx hb dX8_plain_42 rfl (lv_at hl 1 rfl) ?_
              refine lv_bipush (v := (24 : Int32)) hx hb dX8_plain_43 (by decide) ?_
              refine lv_icmp_ge (tgt := 64) hx hb dX8_plain_45 (by decide) (fun c12 => ?_) (fun c12 => ?_)
              · have hf := it_t hf c12
                have e13 := Option.some.inj hf
                rw [e13] at hP hD
                exact k_vret hx hb hr hlocks hK hP hD hS dX8_plain_64
              · have hf := it_f hf c12
                refine lv_aload_n hx hb dX8_plain_48 rfl (lv_at hl 0 rfl) ?_
                refine va_get (D := g.1) (ci := 8) (fs := fcM bM vM_8) (v := .ref (bM 3)) (C := RX8) (T := TX8) (N := 23) hx hb htu hinX8 hown hK hP 0 rfl rfl 2 (by decide) k_5_74 (fun _ h9 => h9) rfl dX8_plain_49 ?_
                refine lv_bipush (v := (8 : Int32)) hx hb dX8_plain_52 (by decide) ?_
                refine lv_iload_n hx hb dX8_plain_54 rfl (lv_at hl 1 rfl) ?_
                refine lv_iadd hx hb dX8_plain_55 ?_
                refine lv_iconst (v := (-1 : Int32)) hx hb dX8_plain_56 (by decide) ?_
                obtain ⟨h14, hf⟩ := gd_in hf
                refine va_iast (D := g.1) (f := (vM_8.2.1 2)) hx hb hK hP hD hS 2 0 rfl rfl h14 dX8_plain_57 (fun H locs hP hD hS => ?_)
                obtain ⟨vM_15, evM_15⟩ : ∃ z, z = sI vM_8 2 (((8 : Int32) + x1_7)).toNatClampNeg (-1 : Int32) := ⟨_, rfl⟩
                have hf := bn_at hf evM_15
                have hP : va_P g.1 vwCl (cM g bM vM_15) H := by rw [evM_15]; exact hP
                have hD : va_D A (cM g bM vM_15) := by rw [evM_15]; exact hD
                refine lv_iinc (v := (x1_7 + (1 : Int32))) (lv' := [(1, .int (x1_7 + (1 : Int32))), (0, .ref (bM 0))]) hx hb dX8_plain_58 hl (k := 1) rfl rfl (by decide) rfl (fun ls hl => ?_)
                refine lv_goto (tgt := 42) hx hb dX8_plain_61 (by decide) ?_
                exact ih11 (x1_7 + (1 : Int32)) vM_15 hf H locs hP hD hS _ (lv_sub hl [1, 0] rfl)
          exact hL10 (0 : Int32) vM_2 hf H locs hP hD hS _ (lv_sub hl [1, 0] rfl)
        · have hf := it_f hf c6
          refine lv_aload_n hx hb dX8_plain_9 rfl (lv_at hl 0 rfl) ?_
          refine va_get (D := g.1) (ci := 8) (fs := fcM bM vM_2) (v := .ref (bM 3)) (C := RX8) (T := TX8) (N := 23) hx hb htu hinX8 hown hK hP 0 rfl rfl 2 (by decide) k_5_74 (fun _ h9 => h9) rfl dX8_plain_10 ?_
          refine lv_iload_n hx hb dX8_plain_13 rfl (lv_at hl 1 rfl) ?_
          refine lv_iload_n hx hb dX8_plain_14 rfl (lv_at hl 1 rfl) ?_
          refine lv_sipush (v := (310 : Int32)) hx hb dX8_plain_15 (by decide) ?_
          obtain ⟨k17, hk21, hf⟩ := jn_at hf
          have hJ18 : ∀ (t16 : Int32), k17 t16 = some vM1 → ∀ (H : Heap) (locs : List Loc), va_P g.1 vwCl (cM g bM vM_2) H → va_D A (cM g bM vM_2) → va_S A s.heap H locs → ∀ ls : Array Slot, lv_has ls 2 [(0, .ref (bM 0)), (1, .int x1_1)] → W p l e (headSpec wsX8_plain rmX8_plain).room s m ([.ref (bM 0)] : List Value).toArray below meth c H locs 0 0 (MQ below (qV g A (cM g bM vM1)) ([.ref (bM 0)] : List Value).toArray s 0 0 A) (F0 m 33 ls [.int t16, .int x1_1, .ref (bM 3)]) := by
            intro t16 hf H locs hP hD hS ls hl
            rw [hk21] at hf
            dsimp only at hf
            clear hk21
            obtain ⟨h19, hf⟩ := gd_in hf
            refine va_iast (D := g.1) (f := (vM_2.2.1 2)) hx hb hK hP hD hS 2 0 rfl rfl h19 dX8_plain_33 (fun H locs hP hD hS => ?_)
            obtain ⟨vM_20, evM_20⟩ : ∃ z, z = sI vM_2 2 (x1_1).toNatClampNeg t16 := ⟨_, rfl⟩
            have hf := bn_at hf evM_20
            have hP : va_P g.1 vwCl (cM g bM vM_20) H := by rw [evM_20]; exact hP
            have hD : va_D A (cM g bM vM_20) := by rw [evM_20]; exact hD
            refine lv_iinc (v := (x1_1 + (1 : Int32))) (lv' := [(1, .int (x1_1 + (1 : Int32))), (0, .ref (bM 0))]) hx hb dX8_plain_34 hl (k := 1) rfl rfl (by decide) rfl (fun ls hl => ?_)
            refine lv_goto (tgt := 2) hx hb dX8_plain_37 (by decide) ?_
            exact ih5 (x1_1 + (1 : Int32)) vM_20 hf H locs hP hD hS _ (lv_sub hl [1, 0] rfl)
          obtain ⟨k22, hk24, hf⟩ := jn_at hf
          have hJ23 : k22 = some vM1 → ∀ (H : Heap) (locs : List Loc), va_P g.1 vwCl (cM g bM vM_2) H → va_D A (cM g bM vM_2) → va_S A s.heap H locs → ∀ ls : Array Slot, lv_has ls 2 [(0, .ref (bM 0)), (1, .int x1_1)] → W p l e (headSpec wsX8_plain rmX8_plain).room s m ([.ref (bM 0)] : List Value).toArray below meth c H locs 0 0 (MQ below (qV g A (cM g bM vM1)) ([.ref (bM 0)] : List Value).toArray s 0 0 A) (F0 m 32 ls [.int x1_1, .ref (bM 3)]) := by
            intro hf H locs hP hD hS ls hl
            rw [hk24] at hf
            clear hk24
            refine lv_iconst (v := (0 : Int32)) hx hb dX8_plain_32 (by decide) ?_
            exact hJ18 (0 : Int32) hf H locs hP hD hS _ (lv_sub hl [0, 1] rfl)
          refine lv_icmp_lt (tgt := 32) hx hb dX8_plain_18 (by decide) (fun c25 => ?_) (fun c25 => ?_)
          · have hf := it_t hf c25
            exact hJ23 hf H locs hP hD hS _ (lv_sub hl [0, 1] rfl)
          · have hf := it_f hf c25
            refine lv_iload_n hx hb dX8_plain_21 rfl (lv_at hl 1 rfl) ?_
            refine lv_sipush (v := (406 : Int32)) hx hb dX8_plain_22 (by decide) ?_
            refine lv_icmp_ge (tgt := 32) hx hb dX8_plain_25 (by decide) (fun c26 => ?_) (fun c26 => ?_)
            · have hf := it_t hf c26
              exact hJ23 hf H locs hP hD hS _ (lv_sub hl [0, 1] rfl)
            · have hf := it_f hf c26
              refine lv_iconst (v := (2 : Int32)) hx hb dX8_plain_28 (by decide) ?_
              refine lv_goto (tgt := 33) hx hb dX8_plain_29 (by decide) ?_
              exact hJ18 (2 : Int32) hf H locs hP hD hS _ (lv_sub hl [0, 1] rfl)
    exact hL4 (0 : Int32) vM hf H locs hP hD hS _ (lv_sub hl [1, 0] rfl)
  rw [hH, hlo] at hW
  exact hW
def f_X8_inputs (vM : Vs) : Option (Int32) :=
  o1 (f_X8_get vM (0 : Int32)) (fun (r1 : Int32) => some (r1))
abbrev wsX8_inputs : List Cond := .code yX8_inputs cX8_inputs 1 (some .int) :: UW
abbrev rmX8_inputs : Room := { frames := 1, cells := 0, slots := 0, locals := 21 }
set_option maxHeartbeats 4000000 in
set_option maxRecDepth 100000 in
theorem c_X8_inputs (l : Launch) (g : Gx) (bM : Nat → Nat) (vM : Vs) (r : Int32) (hf : f_X8_inputs vM = some r) : CtI l yX8_inputs wsX8_inputs rmX8_inputs g [.ref (bM 0)] (cM g bM vM) (cM g bM vM) r 0 0 := by
  unfold CtI
  intro sz
  refine Met.ofW (cc := cX8_inputs) (maxL := 1) (ret := (some .int)) (by decide) rfl ?_
  intro p e s m args below meth c s₁ B hml hv
  obtain ⟨rfl, hsz, hP, hK, hD0, hG⟩ := hv
  have hx := B.exec
  have hb := B.bytes
  have hr := B.returns
  have hts := atoms_spec (ws := wsX8_inputs) B.pre
  have hown : s.vm.findClass RX8 = some m.cls := findClass_of_methodNamed B.named
  have hlocks := B.notSynchronized
  subst hsz
  have hD := hD0.self (sz := s.heap.size)
  generalize hAe : va_A (cM g bM vM) s.heap.size = A at hD hG ⊢
  have hA : ∀ q : Nat, s.heap.size ≤ q → A q := fun q h => by rw [← hAe]; exact Or.inr h
  clear hAe hD0
  have hS : va_S A s.heap s.heap [] := va_S.rf
  have hl := lv_entry ([.ref (bM 0)]) (n := 1) (Nat.le_of_ble_eq_true rfl)
  rw [lg_entry_eq]
  generalize (lg_sl ([.ref (bM 0)]) ++ List.replicate (1 - (lg_sl ([.ref (bM 0)])).length) Slot.unset).toArray = ls at hl ⊢
  have hl : lv_has ls 1 [(0, .ref (bM 0))] := hl
  have htu : ∀ w ∈ UW, w.before _ s = true := fun w h => hts w (List.mem_cons_of_mem _ h)
  unfold f_X8_inputs at hf
  obtain ⟨H, hH⟩ : ∃ z, z = s.heap := ⟨_, rfl⟩
  obtain ⟨locs, hlo⟩ : ∃ z : List Loc, z = [] := ⟨_, rfl⟩
  have hS : va_S A s.heap H locs := by rw [hH, hlo]; exact hS
  rw [← hH] at hP
  have hW : W p l e (headSpec wsX8_inputs rmX8_inputs).room s m ([.ref (bM 0)] : List Value).toArray below meth c H locs 0 0 (MQ below (qI g A (cM g bM vM) r) ([.ref (bM 0)] : List Value).toArray s 0 0 A) (F0 m 0 ls []) := by
    refine lv_aload_n hx hb dX8_inputs_0 rfl (lv_at hl 0 rfl) ?_
    refine lv_iconst (v := (0 : Int32)) hx hb dX8_inputs_1 (by decide) ?_
    obtain ⟨r1, hg2, hf⟩ := o1_at hf
    refine k_viW ⟨hx, hb, hml, hown, htu⟩ hK hP hD hS hA hG (c_X8_get l g bM vM (0 : Int32) r1 hg2) (cwV 1 htu (gU_V mw_6_20 hcX8_get) rfl rfl rfl hdX8_get ⟨Nat.le_of_ble_eq_true rfl, Nat.le_of_ble_eq_true rfl⟩) (q0 := 0) (ci := 8) (fs := fcM bM vM) (q := (RX8, TX8, 23)) rfl rfl rfl (As := [.int (0 : Int32)]) (rest := []) rfl rfl hl.1 (Nat.le_of_ble_eq_true rfl) dX8_inputs_2 (k1 := 0) (n1 := 0) rfl rfl ⟨Nat.zero_le _, Nat.zero_le _⟩ (fun H locs hP hD hS => ?_)
    have e3 := Option.some.inj hf
    exact k_iret hx hb hr hlocks hK hP hD hS e3 dX8_inputs_5
  rw [hH, hlo] at hW
  exact hW
def f_X8_wires (vM : Vs) : Option (Int32) :=
  o1 (f_X8_get vM (1 : Int32)) (fun (r1 : Int32) => some (r1))
abbrev wsX8_wires : List Cond := .code yX8_wires cX8_wires 1 (some .int) :: UW
abbrev rmX8_wires : Room := { frames := 1, cells := 0, slots := 0, locals := 21 }
set_option maxHeartbeats 4000000 in
set_option maxRecDepth 100000 in
theorem c_X8_wires (l : Launch) (g : Gx) (bM : Nat → Nat) (vM : Vs) (r : Int32) (hf : f_X8_wires vM = some r) : CtI l yX8_wires wsX8_wires rmX8_wires g [.ref (bM 0)] (cM g bM vM) (cM g bM vM) r 0 0 := by
  unfold CtI
  intro sz
  refine Met.ofW (cc := cX8_wires) (maxL := 1) (ret := (some .int)) (by decide) rfl ?_
  intro p e s m args below meth c s₁ B hml hv
  obtain ⟨rfl, hsz, hP, hK, hD0, hG⟩ := hv
  have hx := B.exec
  have hb := B.bytes
  have hr := B.returns
  have hts := atoms_spec (ws := wsX8_wires) B.pre
  have hown : s.vm.findClass RX8 = some m.cls := findClass_of_methodNamed B.named
  have hlocks := B.notSynchronized
  subst hsz
  have hD := hD0.self (sz := s.heap.size)
  generalize hAe : va_A (cM g bM vM) s.heap.size = A at hD hG ⊢
  have hA : ∀ q : Nat, s.heap.size ≤ q → A q := fun q h => by rw [← hAe]; exact Or.inr h
  clear hAe hD0
  have hS : va_S A s.heap s.heap [] := va_S.rf
  have hl := lv_entry ([.ref (bM 0)]) (n := 1) (Nat.le_of_ble_eq_true rfl)
  rw [lg_entry_eq]
  generalize (lg_sl ([.ref (bM 0)]) ++ List.replicate (1 - (lg_sl ([.ref (bM 0)])).length) Slot.unset).toArray = ls at hl ⊢
  have hl : lv_has ls 1 [(0, .ref (bM 0))] := hl
  have htu : ∀ w ∈ UW, w.before _ s = true := fun w h => hts w (List.mem_cons_of_mem _ h)
  unfold f_X8_wires at hf
  obtain ⟨H, hH⟩ : ∃ z, z = s.heap := ⟨_, rfl⟩
  obtain ⟨locs, hlo⟩ : ∃ z : List Loc, z = [] := ⟨_, rfl⟩
  have hS : va_S A s.heap H locs := by rw [hH, hlo]; exact hS
  rw [← hH] at hP
  have hW : W p l e (headSpec wsX8_wires rmX8_wires).room s m ([.ref (bM 0)] : List Value).toArray below meth c H locs 0 0 (MQ below (qI g A (cM g bM vM) r) ([.ref (bM 0)] : List Value).toArray s 0 0 A) (F0 m 0 ls []) := by
    refine lv_aload_n hx hb dX8_wires_0 rfl (lv_at hl 0 rfl) ?_
    refine lv_iconst (v := (1 : Int32)) hx hb dX8_wires_1 (by decide) ?_
    obtain ⟨r1, hg2, hf⟩ := o1_at hf
    refine k_viW ⟨hx, hb, hml, hown, htu⟩ hK hP hD hS hA hG (c_X8_get l g bM vM (1 : Int32) r1 hg2) (cwV 1 htu (gU_V mw_6_20 hcX8_get) rfl rfl rfl hdX8_get ⟨Nat.le_of_ble_eq_true rfl, Nat.le_of_ble_eq_true rfl⟩) (q0 := 0) (ci := 8) (fs := fcM bM vM) (q := (RX8, TX8, 23)) rfl rfl rfl (As := [.int (1 : Int32)]) (rest := []) rfl rfl hl.1 (Nat.le_of_ble_eq_true rfl) dX8_wires_2 (k1 := 0) (n1 := 0) rfl rfl ⟨Nat.zero_le _, Nat.zero_le _⟩ (fun H locs hP hD hS => ?_)
    have e3 := Option.some.inj hf
    exact k_iret hx hb hr hlocks hK hP hD hS e3 dX8_wires_5
  rw [hH, hlo] at hW
  exact hW
def f_X8_outputs (vM : Vs) : Option (Int32) :=
  o1 (f_X8_get vM (2 : Int32)) (fun (r1 : Int32) => some (r1))
abbrev wsX8_outputs : List Cond := .code yX8_outputs cX8_outputs 1 (some .int) :: UW
abbrev rmX8_outputs : Room := { frames := 1, cells := 0, slots := 0, locals := 21 }
set_option maxHeartbeats 4000000 in
set_option maxRecDepth 100000 in
theorem c_X8_outputs (l : Launch) (g : Gx) (bM : Nat → Nat) (vM : Vs) (r : Int32) (hf : f_X8_outputs vM = some r) : CtI l yX8_outputs wsX8_outputs rmX8_outputs g [.ref (bM 0)] (cM g bM vM) (cM g bM vM) r 0 0 := by
  unfold CtI
  intro sz
  refine Met.ofW (cc := cX8_outputs) (maxL := 1) (ret := (some .int)) (by decide) rfl ?_
  intro p e s m args below meth c s₁ B hml hv
  obtain ⟨rfl, hsz, hP, hK, hD0, hG⟩ := hv
  have hx := B.exec
  have hb := B.bytes
  have hr := B.returns
  have hts := atoms_spec (ws := wsX8_outputs) B.pre
  have hown : s.vm.findClass RX8 = some m.cls := findClass_of_methodNamed B.named
  have hlocks := B.notSynchronized
  subst hsz
  have hD := hD0.self (sz := s.heap.size)
  generalize hAe : va_A (cM g bM vM) s.heap.size = A at hD hG ⊢
  have hA : ∀ q : Nat, s.heap.size ≤ q → A q := fun q h => by rw [← hAe]; exact Or.inr h
  clear hAe hD0
  have hS : va_S A s.heap s.heap [] := va_S.rf
  have hl := lv_entry ([.ref (bM 0)]) (n := 1) (Nat.le_of_ble_eq_true rfl)
  rw [lg_entry_eq]
  generalize (lg_sl ([.ref (bM 0)]) ++ List.replicate (1 - (lg_sl ([.ref (bM 0)])).length) Slot.unset).toArray = ls at hl ⊢
  have hl : lv_has ls 1 [(0, .ref (bM 0))] := hl
  have htu : ∀ w ∈ UW, w.before _ s = true := fun w h => hts w (List.mem_cons_of_mem _ h)
  unfold f_X8_outputs at hf
  obtain ⟨H, hH⟩ : ∃ z, z = s.heap := ⟨_, rfl⟩
  obtain ⟨locs, hlo⟩ : ∃ z : List Loc, z = [] := ⟨_, rfl⟩
  have hS : va_S A s.heap H locs := by rw [hH, hlo]; exact hS
  rw [← hH] at hP
  have hW : W p l e (headSpec wsX8_outputs rmX8_outputs).room s m ([.ref (bM 0)] : List Value).toArray below meth c H locs 0 0 (MQ below (qI g A (cM g bM vM) r) ([.ref (bM 0)] : List Value).toArray s 0 0 A) (F0 m 0 ls []) := by
    refine lv_aload_n hx hb dX8_outputs_0 rfl (lv_at hl 0 rfl) ?_
    refine lv_iconst (v := (2 : Int32)) hx hb dX8_outputs_1 (by decide) ?_
    obtain ⟨r1, hg2, hf⟩ := o1_at hf
    refine k_viW ⟨hx, hb, hml, hown, htu⟩ hK hP hD hS hA hG (c_X8_get l g bM vM (2 : Int32) r1 hg2) (cwV 1 htu (gU_V mw_6_20 hcX8_get) rfl rfl rfl hdX8_get ⟨Nat.le_of_ble_eq_true rfl, Nat.le_of_ble_eq_true rfl⟩) (q0 := 0) (ci := 8) (fs := fcM bM vM) (q := (RX8, TX8, 23)) rfl rfl rfl (As := [.int (2 : Int32)]) (rest := []) rfl rfl hl.1 (Nat.le_of_ble_eq_true rfl) dX8_outputs_2 (k1 := 0) (n1 := 0) rfl rfl ⟨Nat.zero_le _, Nat.zero_le _⟩ (fun H locs hP hD hS => ?_)
    have e3 := Option.some.inj hf
    exact k_iret hx hb hr hlocks hK hP hD hS e3 dX8_outputs_5
  rw [hH, hlo] at hW
  exact hW
def f_X8_tests (vM : Vs) : Option (Int32) :=
  o1 (f_X8_get vM (4 : Int32)) (fun (r1 : Int32) => some (r1))
abbrev wsX8_tests : List Cond := .code yX8_tests cX8_tests 1 (some .int) :: UW
abbrev rmX8_tests : Room := { frames := 1, cells := 0, slots := 0, locals := 21 }
set_option maxHeartbeats 4000000 in
set_option maxRecDepth 100000 in
theorem c_X8_tests (l : Launch) (g : Gx) (bM : Nat → Nat) (vM : Vs) (r : Int32) (hf : f_X8_tests vM = some r) : CtI l yX8_tests wsX8_tests rmX8_tests g [.ref (bM 0)] (cM g bM vM) (cM g bM vM) r 0 0 := by
  unfold CtI
  intro sz
  refine Met.ofW (cc := cX8_tests) (maxL := 1) (ret := (some .int)) (by decide) rfl ?_
  intro p e s m args below meth c s₁ B hml hv
  obtain ⟨rfl, hsz, hP, hK, hD0, hG⟩ := hv
  have hx := B.exec
  have hb := B.bytes
  have hr := B.returns
  have hts := atoms_spec (ws := wsX8_tests) B.pre
  have hown : s.vm.findClass RX8 = some m.cls := findClass_of_methodNamed B.named
  have hlocks := B.notSynchronized
  subst hsz
  have hD := hD0.self (sz := s.heap.size)
  generalize hAe : va_A (cM g bM vM) s.heap.size = A at hD hG ⊢
  have hA : ∀ q : Nat, s.heap.size ≤ q → A q := fun q h => by rw [← hAe]; exact Or.inr h
  clear hAe hD0
  have hS : va_S A s.heap s.heap [] := va_S.rf
  have hl := lv_entry ([.ref (bM 0)]) (n := 1) (Nat.le_of_ble_eq_true rfl)
  rw [lg_entry_eq]
  generalize (lg_sl ([.ref (bM 0)]) ++ List.replicate (1 - (lg_sl ([.ref (bM 0)])).length) Slot.unset).toArray = ls at hl ⊢
  have hl : lv_has ls 1 [(0, .ref (bM 0))] := hl
  have htu : ∀ w ∈ UW, w.before _ s = true := fun w h => hts w (List.mem_cons_of_mem _ h)
  unfold f_X8_tests at hf
  obtain ⟨H, hH⟩ : ∃ z, z = s.heap := ⟨_, rfl⟩
  obtain ⟨locs, hlo⟩ : ∃ z : List Loc, z = [] := ⟨_, rfl⟩
  have hS : va_S A s.heap H locs := by rw [hH, hlo]; exact hS
  rw [← hH] at hP
  have hW : W p l e (headSpec wsX8_tests rmX8_tests).room s m ([.ref (bM 0)] : List Value).toArray below meth c H locs 0 0 (MQ below (qI g A (cM g bM vM) r) ([.ref (bM 0)] : List Value).toArray s 0 0 A) (F0 m 0 ls []) := by
    refine lv_aload_n hx hb dX8_tests_0 rfl (lv_at hl 0 rfl) ?_
    refine lv_iconst (v := (4 : Int32)) hx hb dX8_tests_1 (by decide) ?_
    obtain ⟨r1, hg2, hf⟩ := o1_at hf
    refine k_viW ⟨hx, hb, hml, hown, htu⟩ hK hP hD hS hA hG (c_X8_get l g bM vM (4 : Int32) r1 hg2) (cwV 1 htu (gU_V mw_6_20 hcX8_get) rfl rfl rfl hdX8_get ⟨Nat.le_of_ble_eq_true rfl, Nat.le_of_ble_eq_true rfl⟩) (q0 := 0) (ci := 8) (fs := fcM bM vM) (q := (RX8, TX8, 23)) rfl rfl rfl (As := [.int (4 : Int32)]) (rest := []) rfl rfl hl.1 (Nat.le_of_ble_eq_true rfl) dX8_tests_2 (k1 := 0) (n1 := 0) rfl rfl ⟨Nat.zero_le _, Nat.zero_le _⟩ (fun H locs hP hD hS => ?_)
    have e3 := Option.some.inj hf
    exact k_iret hx hb hr hlocks hK hP hD hS e3 dX8_tests_5
  rw [hH, hlo] at hW
  exact hW
def f_X8_faults (vM : Vs) : Option (Int32) :=
  o1 (f_X8_wires vM) (fun (r1 : Int32) => o1 (f_X8_get vM (3 : Int32)) (fun (r3 : Int32) => some ((((2 : Int32) * r1) + r3))))
abbrev wsX8_faults : List Cond := .code yX8_faults cX8_faults 1 (some .int) :: UW
abbrev rmX8_faults : Room := { frames := 2, cells := 0, slots := 0, locals := 41 }
set_option maxHeartbeats 4000000 in
set_option maxRecDepth 100000 in
theorem c_X8_faults (l : Launch) (g : Gx) (bM : Nat → Nat) (vM : Vs) (r : Int32) (hf : f_X8_faults vM = some r) : CtI l yX8_faults wsX8_faults rmX8_faults g [.ref (bM 0)] (cM g bM vM) (cM g bM vM) r 0 0 := by
  unfold CtI
  intro sz
  refine Met.ofW (cc := cX8_faults) (maxL := 1) (ret := (some .int)) (by decide) rfl ?_
  intro p e s m args below meth c s₁ B hml hv
  obtain ⟨rfl, hsz, hP, hK, hD0, hG⟩ := hv
  have hx := B.exec
  have hb := B.bytes
  have hr := B.returns
  have hts := atoms_spec (ws := wsX8_faults) B.pre
  have hown : s.vm.findClass RX8 = some m.cls := findClass_of_methodNamed B.named
  have hlocks := B.notSynchronized
  subst hsz
  have hD := hD0.self (sz := s.heap.size)
  generalize hAe : va_A (cM g bM vM) s.heap.size = A at hD hG ⊢
  have hA : ∀ q : Nat, s.heap.size ≤ q → A q := fun q h => by rw [← hAe]; exact Or.inr h
  clear hAe hD0
  have hS : va_S A s.heap s.heap [] := va_S.rf
  have hl := lv_entry ([.ref (bM 0)]) (n := 1) (Nat.le_of_ble_eq_true rfl)
  rw [lg_entry_eq]
  generalize (lg_sl ([.ref (bM 0)]) ++ List.replicate (1 - (lg_sl ([.ref (bM 0)])).length) Slot.unset).toArray = ls at hl ⊢
  have hl : lv_has ls 1 [(0, .ref (bM 0))] := hl
  have htu : ∀ w ∈ UW, w.before _ s = true := fun w h => hts w (List.mem_cons_of_mem _ h)
  unfold f_X8_faults at hf
  obtain ⟨H, hH⟩ : ∃ z, z = s.heap := ⟨_, rfl⟩
  obtain ⟨locs, hlo⟩ : ∃ z : List Loc, z = [] := ⟨_, rfl⟩
  have hS : va_S A s.heap H locs := by rw [hH, hlo]; exact hS
  rw [← hH] at hP
  have hW : W p l e (headSpec wsX8_faults rmX8_faults).room s m ([.ref (bM 0)] : List Value).toArray below meth c H locs 0 0 (MQ below (qI g A (cM g bM vM) r) ([.ref (bM 0)] : List Value).toArray s 0 0 A) (F0 m 0 ls []) := by
    refine lv_iconst (v := (2 : Int32)) hx hb dX8_faults_0 (by decide) ?_
    refine lv_aload_n hx hb dX8_faults_1 rfl (lv_at hl 0 rfl) ?_
    obtain ⟨r1, hg2, hf⟩ := o1_at hf
    refine k_viW ⟨hx, hb, hml, hown, htu⟩ hK hP hD hS hA hG (c_X8_wires l g bM vM r1 hg2) (cwV 0 htu (gU_V mw_6_24 hcX8_wires) rfl rfl rfl hdX8_wires ⟨Nat.le_of_ble_eq_true rfl, Nat.le_of_ble_eq_true rfl⟩) (q0 := 0) (ci := 8) (fs := fcM bM vM) (q := (RX8, TX8, 23)) rfl rfl rfl (As := []) (rest := [.int (2 : Int32)]) rfl rfl hl.1 (Nat.le_of_ble_eq_true rfl) dX8_faults_2 (k1 := 0) (n1 := 0) rfl rfl ⟨Nat.zero_le _, Nat.zero_le _⟩ (fun H locs hP hD hS => ?_)
    refine lv_imul hx hb dX8_faults_5 ?_
    refine lv_aload_n hx hb dX8_faults_6 rfl (lv_at hl 0 rfl) ?_
    refine lv_iconst (v := (3 : Int32)) hx hb dX8_faults_7 (by decide) ?_
    obtain ⟨r3, hg4, hf⟩ := o1_at hf
    refine k_viW ⟨hx, hb, hml, hown, htu⟩ hK hP hD hS hA hG (c_X8_get l g bM vM (3 : Int32) r3 hg4) (cwV 1 htu (gU_V mw_6_20 hcX8_get) rfl rfl rfl hdX8_get ⟨Nat.le_of_ble_eq_true rfl, Nat.le_of_ble_eq_true rfl⟩) (q0 := 0) (ci := 8) (fs := fcM bM vM) (q := (RX8, TX8, 23)) rfl rfl rfl (As := [.int (3 : Int32)]) (rest := [.int ((2 : Int32) * r1)]) rfl rfl hl.1 (Nat.le_of_ble_eq_true rfl) dX8_faults_8 (k1 := 0) (n1 := 0) rfl rfl ⟨Nat.zero_le _, Nat.zero_le _⟩ (fun H locs hP hD hS => ?_)
    refine lv_iadd hx hb dX8_faults_11 ?_
    have e5 := Option.some.inj hf
    exact k_iret hx hb hr hlocks hK hP hD hS e5 dX8_faults_12
  rw [hH, hlo] at hW
  exact hW
