def f_X5_isDigit (x0 : Int32) : Option (Int32) :=
  jn (fun (t1 : Int32) => gd (isB t1) (some (t1))) (fun k2 => jn (k2 (0 : Int32)) (fun k7 => if x0 < (48 : Int32) then k7 else if (57 : Int32) < x0 then k7 else k2 (1 : Int32)))
abbrev wsX5_isDigit : List Cond := .code yX5_isDigit cX5_isDigit 1 (some .boolean) :: UW
abbrev rmX5_isDigit : Room := { frames := 0, cells := 0, slots := 0, locals := 0 }
set_option maxHeartbeats 4000000 in
set_option maxRecDepth 100000 in
theorem c_X5_isDigit (l : Launch) (g : Gx) (x0 : Int32) (r : Int32) (hf : f_X5_isDigit x0 = some r) : CtI l yX5_isDigit wsX5_isDigit rmX5_isDigit g [.int x0] ([]) ([]) r 0 0 := by
  unfold CtI
  intro sz
  refine Met.ofW (cc := cX5_isDigit) (maxL := 1) (ret := (some .boolean)) (by decide) rfl ?_
  intro p e s m args below meth c s₁ B hml hv
  obtain ⟨rfl, hsz, hP, hK, hD0, hG⟩ := hv
  have hx := B.exec
  have hb := B.bytes
  have hr := B.returns
  have hts := atoms_spec (ws := wsX5_isDigit) B.pre
  have hown : s.vm.findClass RX5 = some m.cls := findClass_of_methodNamed B.named
  have hlocks := B.notSynchronized
  subst hsz
  have hD := hD0.self (sz := s.heap.size)
  generalize hAe : va_A ([]) s.heap.size = A at hD hG ⊢
  have hA : ∀ q : Nat, s.heap.size ≤ q → A q := fun q h => by rw [← hAe]; exact Or.inr h
  clear hAe hD0
  have hS : va_S A s.heap s.heap [] := va_S.rf
  have hl := lv_entry ([.int x0]) (n := 1) (Nat.le_of_ble_eq_true rfl)
  rw [lg_entry_eq]
  generalize (lg_sl ([.int x0]) ++ List.replicate (1 - (lg_sl ([.int x0])).length) Slot.unset).toArray = ls at hl ⊢
  have hl : lv_has ls 1 [(0, .int x0)] := hl
  have htu : ∀ w ∈ UW, w.before _ s = true := fun w h => hts w (List.mem_cons_of_mem _ h)
  unfold f_X5_isDigit at hf
  obtain ⟨H, hH⟩ : ∃ z, z = s.heap := ⟨_, rfl⟩
  obtain ⟨locs, hlo⟩ : ∃ z : List Loc, z = [] := ⟨_, rfl⟩
  have hS : va_S A s.heap H locs := by rw [hH, hlo]; exact hS
  rw [← hH] at hP
  have hW : W p l e (headSpec wsX5_isDigit rmX5_isDigit).room s m ([.int x0] : List Value).toArray below meth c H locs 0 0 (MQ below (qI g A ([]) r) ([.int x0] : List Value).toArray s 0 0 A) (F0 m 0 ls []) := by
    refine lv_iload_n hx hb dX5_isDigit_0 rfl (lv_at hl 0 rfl) ?_
    refine lv_bipush (v := (48 : Int32)) hx hb dX5_isDigit_1 (by decide) ?_
    obtain ⟨k2, hk6, hf⟩ := jn_at hf
    have hJ3 : ∀ (t1 : Int32), k2 t1 = some r → ∀ (H : Heap) (locs : List Loc), va_P g.1 vwCl ([]) H → va_D A ([]) → va_S A s.heap H locs → ∀ ls : Array Slot, lv_has ls 1 [] → W p l e (headSpec wsX5_isDigit rmX5_isDigit).room s m ([.int x0] : List Value).toArray below meth c H locs 0 0 (MQ below (qI g A ([]) r) ([.int x0] : List Value).toArray s 0 0 A) (F0 m 17 ls [.int t1]) := by
      intro t1 hf H locs hP hD hS ls hl
      rw [hk6] at hf
      dsimp only at hf
      clear hk6
      obtain ⟨h4, hf⟩ := gd_isB hf
      have e5 := Option.some.inj hf
      exact k_zret hx hb hr hlocks hK hP hD hS e5 h4 dX5_isDigit_17
    obtain ⟨k7, hk9, hf⟩ := jn_at hf
    have hJ8 : k7 = some r → ∀ (H : Heap) (locs : List Loc), va_P g.1 vwCl ([]) H → va_D A ([]) → va_S A s.heap H locs → ∀ ls : Array Slot, lv_has ls 1 [] → W p l e (headSpec wsX5_isDigit rmX5_isDigit).room s m ([.int x0] : List Value).toArray below meth c H locs 0 0 (MQ below (qI g A ([]) r) ([.int x0] : List Value).toArray s 0 0 A) (F0 m 16 ls []) := by
      intro hf H locs hP hD hS ls hl
      rw [hk9] at hf
      clear hk9
      refine lv_iconst (v := (0 : Int32)) hx hb dX5_isDigit_16 (by decide) ?_
      exact hJ3 (0 : Int32) hf H locs hP hD hS _ (lv_sub hl [] rfl)
    refine lv_icmp_lt (tgt := 16) hx hb dX5_isDigit_3 (by decide) (fun c10 => ?_) (fun c10 => ?_)
    · have hf := it_t hf c10
      exact hJ8 hf H locs hP hD hS _ (lv_sub hl [] rfl)
    · have hf := it_f hf c10
      refine lv_iload_n hx hb dX5_isDigit_6 rfl (lv_at hl 0 rfl) ?_
      refine lv_bipush (v := (57 : Int32)) hx hb dX5_isDigit_7 (by decide) ?_
      refine lv_icmp_gt (tgt := 16) hx hb dX5_isDigit_9 (by decide) (fun c11 => ?_) (fun c11 => ?_)
      · have hf := it_t hf c11
        exact hJ8 hf H locs hP hD hS _ (lv_sub hl [] rfl)
      · have hf := it_f hf c11
        refine lv_iconst (v := (1 : Int32)) hx hb dX5_isDigit_12 (by decide) ?_
        refine lv_goto (tgt := 17) hx hb dX5_isDigit_13 (by decide) ?_
        exact hJ3 (1 : Int32) hf H locs hP hD hS _ (lv_sub hl [] rfl)
  rw [hH, hlo] at hW
  exact hW
def f_X5_isLetter (x0 : Int32) : Option (Int32) :=
  jn (fun (t1 : Int32) => gd (isB t1) (some (t1))) (fun k2 => jn (k2 (0 : Int32)) (fun k7 => if x0 < (97 : Int32) then k7 else if (122 : Int32) < x0 then k7 else k2 (1 : Int32)))
abbrev wsX5_isLetter : List Cond := .code yX5_isLetter cX5_isLetter 1 (some .boolean) :: UW
abbrev rmX5_isLetter : Room := { frames := 0, cells := 0, slots := 0, locals := 0 }
set_option maxHeartbeats 4000000 in
set_option maxRecDepth 100000 in
theorem c_X5_isLetter (l : Launch) (g : Gx) (x0 : Int32) (r : Int32) (hf : f_X5_isLetter x0 = some r) : CtI l yX5_isLetter wsX5_isLetter rmX5_isLetter g [.int x0] ([]) ([]) r 0 0 := by
  unfold CtI
  intro sz
  refine Met.ofW (cc := cX5_isLetter) (maxL := 1) (ret := (some .boolean)) (by decide) rfl ?_
  intro p e s m args below meth c s₁ B hml hv
  obtain ⟨rfl, hsz, hP, hK, hD0, hG⟩ := hv
  have hx := B.exec
  have hb := B.bytes
  have hr := B.returns
  have hts := atoms_spec (ws := wsX5_isLetter) B.pre
  have hown : s.vm.findClass RX5 = some m.cls := findClass_of_methodNamed B.named
  have hlocks := B.notSynchronized
  subst hsz
  have hD := hD0.self (sz := s.heap.size)
  generalize hAe : va_A ([]) s.heap.size = A at hD hG ⊢
  have hA : ∀ q : Nat, s.heap.size ≤ q → A q := fun q h => by rw [← hAe]; exact Or.inr h
  clear hAe hD0
  have hS : va_S A s.heap s.heap [] := va_S.rf
  have hl := lv_entry ([.int x0]) (n := 1) (Nat.le_of_ble_eq_true rfl)
  rw [lg_entry_eq]
  generalize (lg_sl ([.int x0]) ++ List.replicate (1 - (lg_sl ([.int x0])).length) Slot.unset).toArray = ls at hl ⊢
  have hl : lv_has ls 1 [(0, .int x0)] := hl
  have htu : ∀ w ∈ UW, w.before _ s = true := fun w h => hts w (List.mem_cons_of_mem _ h)
  unfold f_X5_isLetter at hf
  obtain ⟨H, hH⟩ : ∃ z, z = s.heap := ⟨_, rfl⟩
  obtain ⟨locs, hlo⟩ : ∃ z : List Loc, z = [] := ⟨_, rfl⟩
  have hS : va_S A s.heap H locs := by rw [hH, hlo]; exact hS
  rw [← hH] at hP
  have hW : W p l e (headSpec wsX5_isLetter rmX5_isLetter).room s m ([.int x0] : List Value).toArray below meth c H locs 0 0 (MQ below (qI g A ([]) r) ([.int x0] : List Value).toArray s 0 0 A) (F0 m 0 ls []) := by
    refine lv_iload_n hx hb dX5_isLetter_0 rfl (lv_at hl 0 rfl) ?_
    refine lv_bipush (v := (97 : Int32)) hx hb dX5_isLetter_1 (by decide) ?_
    obtain ⟨k2, hk6, hf⟩ := jn_at hf
    have hJ3 : ∀ (t1 : Int32), k2 t1 = some r → ∀ (H : Heap) (locs : List Loc), va_P g.1 vwCl ([]) H → va_D A ([]) → va_S A s.heap H locs → ∀ ls : Array Slot, lv_has ls 1 [] → W p l e (headSpec wsX5_isLetter rmX5_isLetter).room s m ([.int x0] : List Value).toArray below meth c H locs 0 0 (MQ below (qI g A ([]) r) ([.int x0] : List Value).toArray s 0 0 A) (F0 m 17 ls [.int t1]) := by
      intro t1 hf H locs hP hD hS ls hl
      rw [hk6] at hf
      dsimp only at hf
      clear hk6
      obtain ⟨h4, hf⟩ := gd_isB hf
      have e5 := Option.some.inj hf
      exact k_zret hx hb hr hlocks hK hP hD hS e5 h4 dX5_isLetter_17
    obtain ⟨k7, hk9, hf⟩ := jn_at hf
    have hJ8 : k7 = some r → ∀ (H : Heap) (locs : List Loc), va_P g.1 vwCl ([]) H → va_D A ([]) → va_S A s.heap H locs → ∀ ls : Array Slot, lv_has ls 1 [] → W p l e (headSpec wsX5_isLetter rmX5_isLetter).room s m ([.int x0] : List Value).toArray below meth c H locs 0 0 (MQ below (qI g A ([]) r) ([.int x0] : List Value).toArray s 0 0 A) (F0 m 16 ls []) := by
      intro hf H locs hP hD hS ls hl
      rw [hk9] at hf
      clear hk9
      refine lv_iconst (v := (0 : Int32)) hx hb dX5_isLetter_16 (by decide) ?_
      exact hJ3 (0 : Int32) hf H locs hP hD hS _ (lv_sub hl [] rfl)
    refine lv_icmp_lt (tgt := 16) hx hb dX5_isLetter_3 (by decide) (fun c10 => ?_) (fun c10 => ?_)
    · have hf := it_t hf c10
      exact hJ8 hf H locs hP hD hS _ (lv_sub hl [] rfl)
    · have hf := it_f hf c10
      refine lv_iload_n hx hb dX5_isLetter_6 rfl (lv_at hl 0 rfl) ?_
      refine lv_bipush (v := (122 : Int32)) hx hb dX5_isLetter_7 (by decide) ?_
      refine lv_icmp_gt (tgt := 16) hx hb dX5_isLetter_9 (by decide) (fun c11 => ?_) (fun c11 => ?_)
      · have hf := it_t hf c11
        exact hJ8 hf H locs hP hD hS _ (lv_sub hl [] rfl)
      · have hf := it_f hf c11
        refine lv_iconst (v := (1 : Int32)) hx hb dX5_isLetter_12 (by decide) ?_
        refine lv_goto (tgt := 17) hx hb dX5_isLetter_13 (by decide) ?_
        exact hJ3 (1 : Int32) hf H locs hP hD hS _ (lv_sub hl [] rfl)
  rw [hH, hlo] at hW
  exact hW
def f_X5_putBytes_L3 (x1 : Int32) (self3 : Int32 → Vs → Option (Vs)) (x2_1 : Int32) (vD_2 : Vs) : Option (Vs) :=
  jn (some (vD_2)) (fun k6 => if x2_1 < 0 then k6 else if (800 : Int32) ≤ (vD_2.1 1) then k6 else gd (inb (vD_2.1 1) 800) (bn (sI vD_2 3 ((vD_2.1 1)).toNatClampNeg ((ius x1 x2_1) &&& (255 : Int32))) (fun (vD_13 : Vs) => bn (sF vD_13 1 ((vD_13.1 1) + (1 : Int32))) (fun (vD_14 : Vs) => self3 (x2_1 + (-8 : Int32)) vD_14))))
def f_X5_putBytes (vD : Vs) (x1 : Int32) : Option (Vs) :=
  lp (f_X5_putBytes_L3 x1) (fun _ _ => none) FU (24 : Int32) vD
abbrev wsX5_putBytes : List Cond := .code yX5_putBytes cX5_putBytes 3 none :: UW
abbrev rmX5_putBytes : Room := { frames := 0, cells := 0, slots := 0, locals := 0 }
set_option maxHeartbeats 4000000 in
set_option maxRecDepth 100000 in
theorem c_X5_putBytes (l : Launch) (g : Gx) (bD : Nat → Nat) (qD0 : Nat) (vD : Vs) (x1 : Int32) (vD1 : Vs) (hf : f_X5_putBytes vD x1 = some vD1) : CtV l yX5_putBytes wsX5_putBytes rmX5_putBytes g [.ref (bD 0), .int x1] (cD g bD qD0 vD) (cD g bD qD0 vD1) 0 0 := by
  unfold CtV
  intro sz
  refine Met.ofW (cc := cX5_putBytes) (maxL := 3) (ret := none) (by decide) rfl ?_
  intro p e s m args below meth c s₁ B hml hv
  obtain ⟨rfl, hsz, hP, hK, hD0, hG⟩ := hv
  have hx := B.exec
  have hb := B.bytes
  have hr := B.returns
  have hts := atoms_spec (ws := wsX5_putBytes) B.pre
  have hown : s.vm.findClass RX5 = some m.cls := findClass_of_methodNamed B.named
  have hlocks := B.notSynchronized
  subst hsz
  have hD := hD0.self (sz := s.heap.size)
  generalize hAe : va_A (cD g bD qD0 vD) s.heap.size = A at hD hG ⊢
  have hA : ∀ q : Nat, s.heap.size ≤ q → A q := fun q h => by rw [← hAe]; exact Or.inr h
  clear hAe hD0
  have hS : va_S A s.heap s.heap [] := va_S.rf
  have hl := lv_entry ([.ref (bD 0), .int x1]) (n := 3) (Nat.le_of_ble_eq_true rfl)
  rw [lg_entry_eq]
  generalize (lg_sl ([.ref (bD 0), .int x1]) ++ List.replicate (3 - (lg_sl ([.ref (bD 0), .int x1])).length) Slot.unset).toArray = ls at hl ⊢
  have hl : lv_has ls 3 [(0, .ref (bD 0)), (1, .int x1)] := hl
  have htu : ∀ w ∈ UW, w.before _ s = true := fun w h => hts w (List.mem_cons_of_mem _ h)
  have k_1_159 := htu _ mw_1_159
  have k_1_162 := htu _ mw_1_162
  unfold f_X5_putBytes at hf
  obtain ⟨H, hH⟩ : ∃ z, z = s.heap := ⟨_, rfl⟩
  obtain ⟨locs, hlo⟩ : ∃ z : List Loc, z = [] := ⟨_, rfl⟩
  have hS : va_S A s.heap H locs := by rw [hH, hlo]; exact hS
  rw [← hH] at hP
  have hW : W p l e (headSpec wsX5_putBytes rmX5_putBytes).room s m ([.ref (bD 0), .int x1] : List Value).toArray below meth c H locs 0 0 (MQ below (qV g A (cD g bD qD0 vD1)) ([.ref (bD 0), .int x1] : List Value).toArray s 0 0 A) (F0 m 0 ls []) := by
    refine lv_bipush (v := (24 : Int32)) hx hb dX5_putBytes_0 (by decide) ?_
    refine lv_istore_n (lv' := [(2, .int (24 : Int32)), (0, .ref (bD 0)), (1, .int x1)]) hx hb dX5_putBytes_2 rfl hl (by decide) rfl (fun ls hl => ?_)
    have hL4 : ∀ (x2_1 : Int32) (vD_2 : Vs), lp (f_X5_putBytes_L3 x1) (fun _ _ => none) FU x2_1 vD_2 = some vD1 → ∀ (H : Heap) (locs : List Loc), va_P g.1 vwCl (cD g bD qD0 vD_2) H → va_D A (cD g bD qD0 vD_2) → va_S A s.heap H locs → ∀ ls : Array Slot, lv_has ls 3 [(0, .ref (bD 0)), (1, .int x1), (2, .int x2_1)] → W p l e (headSpec wsX5_putBytes rmX5_putBytes).room s m ([.ref (bD 0), .int x1] : List Value).toArray below meth c H locs 0 0 (MQ below (qV g A (cD g bD qD0 vD1)) ([.ref (bD 0), .int x1] : List Value).toArray s 0 0 A) (F0 m 3 ls []) := by
      refine lp_ind (T := Int32 → Vs → Option (Vs)) (fun self3 => ∀ (x2_1 : Int32) (vD_2 : Vs), self3 x2_1 vD_2 = some vD1 → ∀ (H : Heap) (locs : List Loc), va_P g.1 vwCl (cD g bD qD0 vD_2) H → va_D A (cD g bD qD0 vD_2) → va_S A s.heap H locs → ∀ ls : Array Slot, lv_has ls 3 [(0, .ref (bD 0)), (1, .int x1), (2, .int x2_1)] → W p l e (headSpec wsX5_putBytes rmX5_putBytes).room s m ([.ref (bD 0), .int x1] : List Value).toArray below meth c H locs 0 0 (MQ below (qV g A (cD g bD qD0 vD1)) ([.ref (bD 0), .int x1] : List Value).toArray s 0 0 A) (F0 m 3 ls [])) ?_ ?_ FU
      · intro x2_1 vD_2 hf; cases hf
      · intro self3 ih5 x2_1 vD_2 hf H locs hP hD hS ls hl
        unfold f_X5_putBytes_L3 at hf
        refine lv_iload_n hx hb dX5_putBytes_3 rfl (lv_at hl 2 rfl) ?_
        obtain ⟨k6, hk9, hf⟩ := jn_at hf
        have hJ7 : k6 = some vD1 → ∀ (H : Heap) (locs : List Loc), va_P g.1 vwCl (cD g bD qD0 vD_2) H → va_D A (cD g bD qD0 vD_2) → va_S A s.heap H locs → ∀ ls : Array Slot, lv_has ls 3 [] → W p l e (headSpec wsX5_putBytes rmX5_putBytes).room s m ([.ref (bD 0), .int x1] : List Value).toArray below meth c H locs 0 0 (MQ below (qV g A (cD g bD qD0 vD1)) ([.ref (bD 0), .int x1] : List Value).toArray s 0 0 A) (F0 m 49 ls []) := by
          intro hf H locs hP hD hS ls hl
          rw [hk9] at hf
          clear hk9
          have e8 := Option.some.inj hf
          rw [e8] at hP hD
          exact k_vret hx hb hr hlocks hK hP hD hS dX5_putBytes_49
        refine lv_if_lt (tgt := 49) hx hb dX5_putBytes_4 (by decide) (fun c10 => ?_) (fun c10 => ?_)
        · have hf := it_t hf c10
          exact hJ7 hf H locs hP hD hS _ (lv_sub hl [] rfl)
        · have hf := it_f hf c10
          refine lv_aload_n hx hb dX5_putBytes_7 rfl (lv_at hl 0 rfl) ?_
          refine va_get (D := g.1) (ci := 5) (fs := fcD bD qD0 vD_2) (v := .int (vD_2.1 1)) (C := RX5) (T := TX5) (N := 10) hx hb htu hinX5 hown hK hP 0 rfl rfl 1 (by decide) k_1_159 (fun _ h9 => h9) rfl dX5_putBytes_8 ?_
          refine lv_sipush (v := (800 : Int32)) hx hb dX5_putBytes_11 (by decide) ?_
          refine lv_icmp_ge (tgt := 49) hx hb dX5_putBytes_14 (by decide) (fun c11 => ?_) (fun c11 => ?_)
          · have hf := it_t hf c11
            exact hJ7 hf H locs hP hD hS _ (lv_sub hl [] rfl)
          · have hf := it_f hf c11
            refine lv_aload_n hx hb dX5_putBytes_17 rfl (lv_at hl 0 rfl) ?_
            refine va_get (D := g.1) (ci := 5) (fs := fcD bD qD0 vD_2) (v := .ref (bD 4)) (C := RX5) (T := TX5) (N := 10) hx hb htu hinX5 hown hK hP 0 rfl rfl 3 (by decide) k_1_162 (fun _ h9 => h9) rfl dX5_putBytes_18 ?_
            refine lv_aload_n hx hb dX5_putBytes_21 rfl (lv_at hl 0 rfl) ?_
            refine va_get (D := g.1) (ci := 5) (fs := fcD bD qD0 vD_2) (v := .int (vD_2.1 1)) (C := RX5) (T := TX5) (N := 10) hx hb htu hinX5 hown hK hP 0 rfl rfl 1 (by decide) k_1_159 (fun _ h9 => h9) rfl dX5_putBytes_22 ?_
            refine lv_iload_n hx hb dX5_putBytes_25 rfl (lv_at hl 1 rfl) ?_
            refine lv_iload_n hx hb dX5_putBytes_26 rfl (lv_at hl 2 rfl) ?_
            refine lv_iushr (v := (ius x1 x2_1)) hx hb dX5_putBytes_27 rfl ?_
            refine lv_sipush (v := (255 : Int32)) hx hb dX5_putBytes_28 (by decide) ?_
            refine lv_iand hx hb dX5_putBytes_31 ?_
            obtain ⟨h12, hf⟩ := gd_in hf
            refine va_iast (D := g.1) (f := (vD_2.2.1 3)) hx hb hK hP hD hS 1 0 rfl rfl h12 dX5_putBytes_32 (fun H locs hP hD hS => ?_)
            obtain ⟨vD_13, evD_13⟩ : ∃ z, z = sI vD_2 3 ((vD_2.1 1)).toNatClampNeg ((ius x1 x2_1) &&& (255 : Int32)) := ⟨_, rfl⟩
            have hf := bn_at hf evD_13
            have hP : va_P g.1 vwCl (cD g bD qD0 vD_13) H := by rw [evD_13]; exact hP
            have hD : va_D A (cD g bD qD0 vD_13) := by rw [evD_13]; exact hD
            refine lv_aload_n hx hb dX5_putBytes_33 rfl (lv_at hl 0 rfl) ?_
            refine lv_dup hx hb dX5_putBytes_34 rfl ?_
            refine va_get (D := g.1) (ci := 5) (fs := fcD bD qD0 vD_13) (v := .int (vD_13.1 1)) (C := RX5) (T := TX5) (N := 10) hx hb htu hinX5 hown hK hP 0 rfl rfl 1 (by decide) k_1_159 (fun _ h9 => h9) rfl dX5_putBytes_35 ?_
            refine lv_iconst (v := (1 : Int32)) hx hb dX5_putBytes_38 (by decide) ?_
            refine lv_iadd hx hb dX5_putBytes_39 ?_
            refine va_put (D := g.1) (ci := 5) (fs := fcD bD qD0 vD_13) (v := .int ((vD_13.1 1) + (1 : Int32))) (ty := .int) (C := RX5) (T := TX5) (N := 10) hx hb htu hinX5 tyX5 tyX5_ok nmX5 hown hK hP hD hS 0 rfl rfl 1 (by decide) k_1_159 (fun _ h9 => h9) rfl (by decide +kernel) rfl rfl (Nat.le_of_ble_eq_true rfl) dX5_putBytes_40 (fun H locs hP hD hS => ?_)
            obtain ⟨vD_14, evD_14⟩ : ∃ z, z = sF vD_13 1 ((vD_13.1 1) + (1 : Int32)) := ⟨_, rfl⟩
            have hf := bn_at hf evD_14
            have hP : va_P g.1 vwCl (cD g bD qD0 vD_14) H := by rw [evD_14]; exact hP
            have hD : va_D A (cD g bD qD0 vD_14) := by rw [evD_14]; exact hD
            refine lv_iinc (v := (x2_1 + (-8 : Int32))) (lv' := [(2, .int (x2_1 + (-8 : Int32))), (0, .ref (bD 0)), (1, .int x1)]) hx hb dX5_putBytes_43 hl (k := 2) rfl rfl (by decide) rfl (fun ls hl => ?_)
            refine lv_goto (tgt := 3) hx hb dX5_putBytes_46 (by decide) ?_
            exact ih5 (x2_1 + (-8 : Int32)) vD_14 hf H locs hP hD hS _ (lv_sub hl [1, 2, 0] rfl)
    exact hL4 (24 : Int32) vD hf H locs hP hD hS _ (lv_sub hl [1, 2, 0] rfl)
  rw [hH, hlo] at hW
  exact hW
def f_X5_fail (vD : Vs) (x1 : Int32) : Option (Int32 × Vs) :=
  bn (sF vD 4 x1) (fun (vD_1 : Vs) => bn (sF vD_1 2 (vD_1.1 8)) (fun (vD_2 : Vs) => gd (isB (0 : Int32)) (some ((0 : Int32), vD_2))))
abbrev wsX5_fail : List Cond := .code yX5_fail cX5_fail 2 (some .boolean) :: UW
abbrev rmX5_fail : Room := { frames := 0, cells := 0, slots := 0, locals := 0 }
set_option maxHeartbeats 4000000 in
set_option maxRecDepth 100000 in
theorem c_X5_fail (l : Launch) (g : Gx) (bD : Nat → Nat) (qD0 : Nat) (vD : Vs) (x1 : Int32) (r : Int32) (vD1 : Vs) (hf : f_X5_fail vD x1 = some (r, vD1)) : CtI l yX5_fail wsX5_fail rmX5_fail g [.ref (bD 0), .int x1] (cD g bD qD0 vD) (cD g bD qD0 vD1) r 0 0 := by
  unfold CtI
  intro sz
  refine Met.ofW (cc := cX5_fail) (maxL := 2) (ret := (some .boolean)) (by decide) rfl ?_
  intro p e s m args below meth c s₁ B hml hv
  obtain ⟨rfl, hsz, hP, hK, hD0, hG⟩ := hv
  have hx := B.exec
  have hb := B.bytes
  have hr := B.returns
  have hts := atoms_spec (ws := wsX5_fail) B.pre
  have hown : s.vm.findClass RX5 = some m.cls := findClass_of_methodNamed B.named
  have hlocks := B.notSynchronized
  subst hsz
  have hD := hD0.self (sz := s.heap.size)
  generalize hAe : va_A (cD g bD qD0 vD) s.heap.size = A at hD hG ⊢
  have hA : ∀ q : Nat, s.heap.size ≤ q → A q := fun q h => by rw [← hAe]; exact Or.inr h
  clear hAe hD0
  have hS : va_S A s.heap s.heap [] := va_S.rf
  have hl := lv_entry ([.ref (bD 0), .int x1]) (n := 2) (Nat.le_of_ble_eq_true rfl)
  rw [lg_entry_eq]
  generalize (lg_sl ([.ref (bD 0), .int x1]) ++ List.replicate (2 - (lg_sl ([.ref (bD 0), .int x1])).length) Slot.unset).toArray = ls at hl ⊢
  have hl : lv_has ls 2 [(0, .ref (bD 0)), (1, .int x1)] := hl
  have htu : ∀ w ∈ UW, w.before _ s = true := fun w h => hts w (List.mem_cons_of_mem _ h)
  have k_1_163 := htu _ mw_1_163
  have k_1_167 := htu _ mw_1_167
  have k_1_161 := htu _ mw_1_161
  unfold f_X5_fail at hf
  obtain ⟨H, hH⟩ : ∃ z, z = s.heap := ⟨_, rfl⟩
  obtain ⟨locs, hlo⟩ : ∃ z : List Loc, z = [] := ⟨_, rfl⟩
  have hS : va_S A s.heap H locs := by rw [hH, hlo]; exact hS
  rw [← hH] at hP
  have hW : W p l e (headSpec wsX5_fail rmX5_fail).room s m ([.ref (bD 0), .int x1] : List Value).toArray below meth c H locs 0 0 (MQ below (qI g A (cD g bD qD0 vD1) r) ([.ref (bD 0), .int x1] : List Value).toArray s 0 0 A) (F0 m 0 ls []) := by
    refine lv_aload_n hx hb dX5_fail_0 rfl (lv_at hl 0 rfl) ?_
    refine lv_iload_n hx hb dX5_fail_1 rfl (lv_at hl 1 rfl) ?_
    refine va_put (D := g.1) (ci := 5) (fs := fcD bD qD0 vD) (v := .int x1) (ty := .int) (C := RX5) (T := TX5) (N := 10) hx hb htu hinX5 tyX5 tyX5_ok nmX5 hown hK hP hD hS 0 rfl rfl 4 (by decide) k_1_163 (fun _ h9 => h9) rfl (by decide +kernel) rfl rfl (Nat.le_of_ble_eq_true rfl) dX5_fail_2 (fun H locs hP hD hS => ?_)
    obtain ⟨vD_1, evD_1⟩ : ∃ z, z = sF vD 4 x1 := ⟨_, rfl⟩
    have hf := bn_at hf evD_1
    have hP : va_P g.1 vwCl (cD g bD qD0 vD_1) H := by rw [evD_1]; exact hP
    have hD : va_D A (cD g bD qD0 vD_1) := by rw [evD_1]; exact hD
    refine lv_aload_n hx hb dX5_fail_5 rfl (lv_at hl 0 rfl) ?_
    refine lv_aload_n hx hb dX5_fail_6 rfl (lv_at hl 0 rfl) ?_
    refine va_get (D := g.1) (ci := 5) (fs := fcD bD qD0 vD_1) (v := .int (vD_1.1 8)) (C := RX5) (T := TX5) (N := 10) hx hb htu hinX5 hown hK hP 0 rfl rfl 8 (by decide) k_1_167 (fun _ h9 => h9) rfl dX5_fail_7 ?_
    refine va_put (D := g.1) (ci := 5) (fs := fcD bD qD0 vD_1) (v := .int (vD_1.1 8)) (ty := .int) (C := RX5) (T := TX5) (N := 10) hx hb htu hinX5 tyX5 tyX5_ok nmX5 hown hK hP hD hS 0 rfl rfl 2 (by decide) k_1_161 (fun _ h9 => h9) rfl (by decide +kernel) rfl rfl (Nat.le_of_ble_eq_true rfl) dX5_fail_10 (fun H locs hP hD hS => ?_)
    obtain ⟨vD_2, evD_2⟩ : ∃ z, z = sF vD_1 2 (vD_1.1 8) := ⟨_, rfl⟩
    have hf := bn_at hf evD_2
    have hP : va_P g.1 vwCl (cD g bD qD0 vD_2) H := by rw [evD_2]; exact hP
    have hD : va_D A (cD g bD qD0 vD_2) := by rw [evD_2]; exact hD
    refine lv_iconst (v := (0 : Int32)) hx hb dX5_fail_13 (by decide) ?_
    obtain ⟨h3, hf⟩ := gd_isB hf
    obtain ⟨e4, e5⟩ := kp_2 hf
    rw [e5] at hP hD
    exact k_zret hx hb hr hlocks hK hP hD hS e4 h3 dX5_fail_14
  rw [hH, hlo] at hW
  exact hW
def f_X5_advance_L178 (k10 : Vs → Option (Vs)) (self33 : Vs → Option (Vs)) (vD_32 : Vs) : Option (Vs) :=
  if (vD_32.1 5) ≤ (vD_32.1 6) then k10 vD_32 else gd (inb (vD_32.1 6) 800) (o1 (f_X5_isLetter (vD_32.2.1 3 ((vD_32.1 6)).toNatClampNeg)) (fun (r38 : Int32) => if r38 = 0 then k10 vD_32 else bn (sF vD_32 6 ((vD_32.1 6) + (1 : Int32))) (fun (vD_41 : Vs) => self33 vD_41)))
def f_X5_advance_L90 (k10 : Vs → Option (Vs)) (self44 : Vs → Option (Vs)) (vD_43 : Vs) : Option (Vs) :=
  if (vD_43.1 5) ≤ (vD_43.1 6) then k10 vD_43 else gd (inb (vD_43.1 6) 800) (o1 (f_X5_isDigit (vD_43.2.1 3 ((vD_43.1 6)).toNatClampNeg)) (fun (r49 : Int32) => if r49 = 0 then k10 vD_43 else gd (inb (vD_43.1 6) 800) (bn (sF vD_43 9 (if ((((vD_43.1 9) * (10 : Int32)) + (vD_43.2.1 3 ((vD_43.1 6)).toNatClampNeg)) - (48 : Int32)) < (100000 : Int32) then ((((vD_43.1 9) * (10 : Int32)) + (vD_43.2.1 3 ((vD_43.1 6)).toNatClampNeg)) - (48 : Int32)) else (100000 : Int32))) (fun (vD_53 : Vs) => bn (sF vD_53 6 ((vD_53.1 6) + (1 : Int32))) (fun (vD_54 : Vs) => self44 vD_54)))))
def f_X5_advance_L0 (self2 : Vs → Option (Vs)) (vD_1 : Vs) : Option (Vs) :=
  jn (bn (sF vD_1 8 (vD_1.1 6)) (fun (vD_7 : Vs) => bn (sF vD_7 9 (0 : Int32)) (fun (vD_8 : Vs) => jn (fun (vD_9 : Vs) => some (vD_9)) (fun k10 => if (vD_8.1 6) < (vD_8.1 5) then gd (inb (vD_8.1 6) 800) (o1 (f_X5_isDigit (vD_8.2.1 3 ((vD_8.1 6)).toNatClampNeg)) (fun (r16 : Int32) => if r16 = 0 then gd (inb (vD_8.1 6) 800) (o1 (f_X5_isLetter (vD_8.2.1 3 ((vD_8.1 6)).toNatClampNeg)) (fun (r20 : Int32) => if r20 = 0 then gd (inb (vD_8.1 6) 800) (jn (fun (t24 : Int32) => bn (sF vD_8 7 t24) (fun (vD_27 : Vs) => bn (sF vD_27 6 ((vD_27.1 6) + (1 : Int32))) (fun (vD_28 : Vs) => k10 vD_28))) (fun k25 => if (vD_8.2.1 3 ((vD_8.1 6)).toNatClampNeg) = (59 : Int32) then k25 (3 : Int32) else k25 (4 : Int32))) else bn (sF vD_8 7 (1 : Int32)) (fun (vD_31 : Vs) => lp (f_X5_advance_L178 k10) (fun _ => none) FU vD_31))) else bn (sF vD_8 7 (2 : Int32)) (fun (vD_42 : Vs) => lp (f_X5_advance_L90 k10) (fun _ => none) FU vD_42))) else bn (sF vD_8 7 (0 : Int32)) (fun (vD_55 : Vs) => k10 vD_55))))) (fun k5 => if (vD_1.1 5) ≤ (vD_1.1 6) then k5 else gd (inb (vD_1.1 6) 800) (if (vD_1.2.1 3 ((vD_1.1 6)).toNatClampNeg) = (32 : Int32) then bn (sF vD_1 6 ((vD_1.1 6) + (1 : Int32))) (fun (vD_60 : Vs) => self2 vD_60) else k5))
def f_X5_advance (vD : Vs) : Option (Vs) :=
  lp f_X5_advance_L0 (fun _ => none) FU vD
abbrev wsX5_advance : List Cond := .code yX5_advance cX5_advance 1 none :: UW
abbrev rmX5_advance : Room := { frames := 1, cells := 0, slots := 0, locals := 24 }
set_option maxHeartbeats 4000000 in
set_option maxRecDepth 100000 in
theorem c_X5_advance (l : Launch) (g : Gx) (bD : Nat → Nat) (qD0 : Nat) (vD : Vs) (vD1 : Vs) (hf : f_X5_advance vD = some vD1) : CtV l yX5_advance wsX5_advance rmX5_advance g [.ref (bD 0)] (cD g bD qD0 vD) (cD g bD qD0 vD1) 0 0 := by
  unfold CtV
  intro sz
  refine Met.ofW (cc := cX5_advance) (maxL := 1) (ret := none) (by decide) rfl ?_
  intro p e s m args below meth c s₁ B hml hv
  obtain ⟨rfl, hsz, hP, hK, hD0, hG⟩ := hv
  have hx := B.exec
  have hb := B.bytes
  have hr := B.returns
  have hts := atoms_spec (ws := wsX5_advance) B.pre
  have hown : s.vm.findClass RX5 = some m.cls := findClass_of_methodNamed B.named
  have hlocks := B.notSynchronized
  subst hsz
  have hD := hD0.self (sz := s.heap.size)
  generalize hAe : va_A (cD g bD qD0 vD) s.heap.size = A at hD hG ⊢
  have hA : ∀ q : Nat, s.heap.size ≤ q → A q := fun q h => by rw [← hAe]; exact Or.inr h
  clear hAe hD0
  have hS : va_S A s.heap s.heap [] := va_S.rf
  have hl := lv_entry ([.ref (bD 0)]) (n := 1) (Nat.le_of_ble_eq_true rfl)
  rw [lg_entry_eq]
  generalize (lg_sl ([.ref (bD 0)]) ++ List.replicate (1 - (lg_sl ([.ref (bD 0)])).length) Slot.unset).toArray = ls at hl ⊢
  have hl : lv_has ls 1 [(0, .ref (bD 0))] := hl
  have htu : ∀ w ∈ UW, w.before _ s = true := fun w h => hts w (List.mem_cons_of_mem _ h)
  have k_1_165 := htu _ mw_1_165
  have k_1_164 := htu _ mw_1_164
  have k_1_167 := htu _ mw_1_167
  have k_1_168 := htu _ mw_1_168
  have k_1_162 := htu _ mw_1_162
  have k_1_166 := htu _ mw_1_166
  have k_3_239 := htu _ mw_3_239
  have k_3_218 := htu _ mw_3_218
  have k_2_116 := htu _ mw_2_116
  have k_1_7 := htu _ mw_1_7
  have k_2_117 := htu _ mw_2_117
  unfold f_X5_advance at hf
  obtain ⟨H, hH⟩ : ∃ z, z = s.heap := ⟨_, rfl⟩
  obtain ⟨locs, hlo⟩ : ∃ z : List Loc, z = [] := ⟨_, rfl⟩
  have hS : va_S A s.heap H locs := by rw [hH, hlo]; exact hS
  rw [← hH] at hP
  have hW : W p l e (headSpec wsX5_advance rmX5_advance).room s m ([.ref (bD 0)] : List Value).toArray below meth c H locs 0 0 (MQ below (qV g A (cD g bD qD0 vD1)) ([.ref (bD 0)] : List Value).toArray s 0 0 A) (F0 m 0 ls []) := by
    have hL3 : ∀ (vD_1 : Vs), lp f_X5_advance_L0 (fun _ => none) FU vD_1 = some vD1 → ∀ (H : Heap) (locs : List Loc), va_P g.1 vwCl (cD g bD qD0 vD_1) H → va_D A (cD g bD qD0 vD_1) → va_S A s.heap H locs → ∀ ls : Array Slot, lv_has ls 1 [(0, .ref (bD 0))] → W p l e (headSpec wsX5_advance rmX5_advance).room s m ([.ref (bD 0)] : List Value).toArray below meth c H locs 0 0 (MQ below (qV g A (cD g bD qD0 vD1)) ([.ref (bD 0)] : List Value).toArray s 0 0 A) (F0 m 0 ls []) := by
      refine lp_ind (T := Vs → Option (Vs)) (fun self2 => ∀ (vD_1 : Vs), self2 vD_1 = some vD1 → ∀ (H : Heap) (locs : List Loc), va_P g.1 vwCl (cD g bD qD0 vD_1) H → va_D A (cD g bD qD0 vD_1) → va_S A s.heap H locs → ∀ ls : Array Slot, lv_has ls 1 [(0, .ref (bD 0))] → W p l e (headSpec wsX5_advance rmX5_advance).room s m ([.ref (bD 0)] : List Value).toArray below meth c H locs 0 0 (MQ below (qV g A (cD g bD qD0 vD1)) ([.ref (bD 0)] : List Value).toArray s 0 0 A) (F0 m 0 ls [])) ?_ ?_ FU
      · intro vD_1 hf; cases hf
      · intro self2 ih4 vD_1 hf H locs hP hD hS ls hl
        unfold f_X5_advance_L0 at hf
        refine lv_aload_n hx hb dX5_advance_0 rfl (lv_at hl 0 rfl) ?_
        refine va_get (D := g.1) (ci := 5) (fs := fcD bD qD0 vD_1) (v := .int (vD_1.1 6)) (C := RX5) (T := TX5) (N := 10) hx hb htu hinX5 hown hK hP 0 rfl rfl 6 (by decide) k_1_165 (fun _ h9 => h9) rfl dX5_advance_1 ?_
        refine lv_aload_n hx hb dX5_advance_4 rfl (lv_at hl 0 rfl) ?_
        refine va_get (D := g.1) (ci := 5) (fs := fcD bD qD0 vD_1) (v := .int (vD_1.1 5)) (C := RX5) (T := TX5) (N := 10) hx hb htu hinX5 hown hK hP 0 rfl rfl 5 (by decide) k_1_164 (fun _ h9 => h9) rfl dX5_advance_5 ?_
        obtain ⟨k5, hk56, hf⟩ := jn_at hf
        have hJ6 : k5 = some vD1 → ∀ (H : Heap) (locs : List Loc), va_P g.1 vwCl (cD g bD qD0 vD_1) H → va_D A (cD g bD qD0 vD_1) → va_S A s.heap H locs → ∀ ls : Array Slot, lv_has ls 1 [(0, .ref (bD 0))] → W p l e (headSpec wsX5_advance rmX5_advance).room s m ([.ref (bD 0)] : List Value).toArray below meth c H locs 0 0 (MQ below (qV g A (cD g bD qD0 vD1)) ([.ref (bD 0)] : List Value).toArray s 0 0 A) (F0 m 38 ls []) := by
          intro hf H locs hP hD hS ls hl
          rw [hk56] at hf
          clear hk56
          refine lv_aload_n hx hb dX5_advance_38 rfl (lv_at hl 0 rfl) ?_
          refine lv_aload_n hx hb dX5_advance_39 rfl (lv_at hl 0 rfl) ?_
          refine va_get (D := g.1) (ci := 5) (fs := fcD bD qD0 vD_1) (v := .int (vD_1.1 6)) (C := RX5) (T := TX5) (N := 10) hx hb htu hinX5 hown hK hP 0 rfl rfl 6 (by decide) k_1_165 (fun _ h9 => h9) rfl dX5_advance_40 ?_
          refine va_put (D := g.1) (ci := 5) (fs := fcD bD qD0 vD_1) (v := .int (vD_1.1 6)) (ty := .int) (C := RX5) (T := TX5) (N := 10) hx hb htu hinX5 tyX5 tyX5_ok nmX5 hown hK hP hD hS 0 rfl rfl 8 (by decide) k_1_167 (fun _ h9 => h9) rfl (by decide +kernel) rfl rfl (Nat.le_of_ble_eq_true rfl) dX5_advance_43 (fun H locs hP hD hS => ?_)
          obtain ⟨vD_7, evD_7⟩ : ∃ z, z = sF vD_1 8 (vD_1.1 6) := ⟨_, rfl⟩
          have hf := bn_at hf evD_7
          have hP : va_P g.1 vwCl (cD g bD qD0 vD_7) H := by rw [evD_7]; exact hP
          have hD : va_D A (cD g bD qD0 vD_7) := by rw [evD_7]; exact hD
          refine lv_aload_n hx hb dX5_advance_46 rfl (lv_at hl 0 rfl) ?_
          refine lv_iconst (v := (0 : Int32)) hx hb dX5_advance_47 (by decide) ?_
          refine va_put (D := g.1) (ci := 5) (fs := fcD bD qD0 vD_7) (v := .int (0 : Int32)) (ty := .int) (C := RX5) (T := TX5) (N := 10) hx hb htu hinX5 tyX5 tyX5_ok nmX5 hown hK hP hD hS 0 rfl rfl 9 (by decide) k_1_168 (fun _ h9 => h9) rfl (by decide +kernel) rfl rfl (Nat.le_of_ble_eq_true rfl) dX5_advance_48 (fun H locs hP hD hS => ?_)
          obtain ⟨vD_8, evD_8⟩ : ∃ z, z = sF vD_7 9 (0 : Int32) := ⟨_, rfl⟩
          have hf := bn_at hf evD_8
          have hP : va_P g.1 vwCl (cD g bD qD0 vD_8) H := by rw [evD_8]; exact hP
          have hD : va_D A (cD g bD qD0 vD_8) := by rw [evD_8]; exact hD
          refine lv_aload_n hx hb dX5_advance_51 rfl (lv_at hl 0 rfl) ?_
          refine va_get (D := g.1) (ci := 5) (fs := fcD bD qD0 vD_8) (v := .int (vD_8.1 6)) (C := RX5) (T := TX5) (N := 10) hx hb htu hinX5 hown hK hP 0 rfl rfl 6 (by decide) k_1_165 (fun _ h9 => h9) rfl dX5_advance_52 ?_
          refine lv_aload_n hx hb dX5_advance_55 rfl (lv_at hl 0 rfl) ?_
          refine va_get (D := g.1) (ci := 5) (fs := fcD bD qD0 vD_8) (v := .int (vD_8.1 5)) (C := RX5) (T := TX5) (N := 10) hx hb htu hinX5 hown hK hP 0 rfl rfl 5 (by decide) k_1_164 (fun _ h9 => h9) rfl dX5_advance_56 ?_
          obtain ⟨k10, hk13, hf⟩ := jn_at hf
          have hJ11 : ∀ (vD_9 : Vs), k10 vD_9 = some vD1 → ∀ (H : Heap) (locs : List Loc), va_P g.1 vwCl (cD g bD qD0 vD_9) H → va_D A (cD g bD qD0 vD_9) → va_S A s.heap H locs → ∀ ls : Array Slot, lv_has ls 1 [] → W p l e (headSpec wsX5_advance rmX5_advance).room s m ([.ref (bD 0)] : List Value).toArray below meth c H locs 0 0 (MQ below (qV g A (cD g bD qD0 vD1)) ([.ref (bD 0)] : List Value).toArray s 0 0 A) (F0 m 250 ls []) := by
            intro vD_9 hf H locs hP hD hS ls hl
            rw [hk13] at hf
            dsimp only at hf
            clear hk13
            have e12 := Option.some.inj hf
            rw [e12] at hP hD
            exact k_vret hx hb hr hlocks hK hP hD hS dX5_advance_250
          refine lv_icmp_lt (tgt := 70) hx hb dX5_advance_59 (by decide) (fun c14 => ?_) (fun c14 => ?_)
          · have hf := it_t hf c14
            refine lv_aload_n hx hb dX5_advance_70 rfl (lv_at hl 0 rfl) ?_
            refine va_get (D := g.1) (ci := 5) (fs := fcD bD qD0 vD_8) (v := .ref (bD 4)) (C := RX5) (T := TX5) (N := 10) hx hb htu hinX5 hown hK hP 0 rfl rfl 3 (by decide) k_1_162 (fun _ h9 => h9) rfl dX5_advance_71 ?_
            refine lv_aload_n hx hb dX5_advance_74 rfl (lv_at hl 0 rfl) ?_
            refine va_get (D := g.1) (ci := 5) (fs := fcD bD qD0 vD_8) (v := .int (vD_8.1 6)) (C := RX5) (T := TX5) (N := 10) hx hb htu hinX5 hown hK hP 0 rfl rfl 6 (by decide) k_1_165 (fun _ h9 => h9) rfl dX5_advance_75 ?_
            obtain ⟨h15, hf⟩ := gd_in hf
            refine va_iald (D := g.1) (f := (vD_8.2.1 3)) hx hb hK hP 1 0 rfl rfl h15 dX5_advance_78 ?_
            obtain ⟨r16, hg17, hf⟩ := o1_at hf
            refine k_si0 ⟨hx, hb, hml, hown, htu⟩ hK hP hD hS hA hG (c_X5_isDigit l g (vD_8.2.1 3 ((vD_8.1 6)).toNatClampNeg) r16 hg17) (va_cwS 1 htu (gU_S mw_3_236 hcX5_isDigit) rfl rfl rfl hdX5_isDigit ⟨Nat.le_of_ble_eq_true rfl, Nat.le_of_ble_eq_true rfl⟩) (As := [.int (vD_8.2.1 3 ((vD_8.1 6)).toNatClampNeg)]) (rest := []) rfl rfl hl.1 (Nat.le_of_ble_eq_true rfl) dX5_advance_79 (k1 := 0) (n1 := 0) rfl rfl ⟨Nat.zero_le _, Nat.zero_le _⟩ (fun H locs hP hD hS => ?_)
            refine lv_if_eq (tgt := 158) hx hb dX5_advance_82 (by decide) (fun c18 => ?_) (fun c18 => ?_)
            · have hf := it_t hf c18
              refine lv_aload_n hx hb dX5_advance_158 rfl (lv_at hl 0 rfl) ?_
              refine va_get (D := g.1) (ci := 5) (fs := fcD bD qD0 vD_8) (v := .ref (bD 4)) (C := RX5) (T := TX5) (N := 10) hx hb htu hinX5 hown hK hP 0 rfl rfl 3 (by decide) k_1_162 (fun _ h9 => h9) rfl dX5_advance_159 ?_
              refine lv_aload_n hx hb dX5_advance_162 rfl (lv_at hl 0 rfl) ?_
              refine va_get (D := g.1) (ci := 5) (fs := fcD bD qD0 vD_8) (v := .int (vD_8.1 6)) (C := RX5) (T := TX5) (N := 10) hx hb htu hinX5 hown hK hP 0 rfl rfl 6 (by decide) k_1_165 (fun _ h9 => h9) rfl dX5_advance_163 ?_
              obtain ⟨h19, hf⟩ := gd_in hf
              refine va_iald (D := g.1) (f := (vD_8.2.1 3)) hx hb hK hP 1 0 rfl rfl h19 dX5_advance_166 ?_
              obtain ⟨r20, hg21, hf⟩ := o1_at hf
              refine k_si0 ⟨hx, hb, hml, hown, htu⟩ hK hP hD hS hA hG (c_X5_isLetter l g (vD_8.2.1 3 ((vD_8.1 6)).toNatClampNeg) r20 hg21) (va_cwS 1 htu (gU_S mw_4_0 hcX5_isLetter) rfl rfl rfl hdX5_isLetter ⟨Nat.le_of_ble_eq_true rfl, Nat.le_of_ble_eq_true rfl⟩) (As := [.int (vD_8.2.1 3 ((vD_8.1 6)).toNatClampNeg)]) (rest := []) rfl rfl hl.1 (Nat.le_of_ble_eq_true rfl) dX5_advance_167 (k1 := 0) (n1 := 0) rfl rfl ⟨Nat.zero_le _, Nat.zero_le _⟩ (fun H locs hP hD hS => ?_)
              refine lv_if_eq (tgt := 217) hx hb dX5_advance_170 (by decide) (fun c22 => ?_) (fun c22 => ?_)
              · have hf := it_t hf c22
                refine lv_aload_n hx hb dX5_advance_217 rfl (lv_at hl 0 rfl) ?_
                refine lv_aload_n hx hb dX5_advance_218 rfl (lv_at hl 0 rfl) ?_
                refine va_get (D := g.1) (ci := 5) (fs := fcD bD qD0 vD_8) (v := .ref (bD 4)) (C := RX5) (T := TX5) (N := 10) hx hb htu hinX5 hown hK hP 0 rfl rfl 3 (by decide) k_1_162 (fun _ h9 => h9) rfl dX5_advance_219 ?_
                refine lv_aload_n hx hb dX5_advance_222 rfl (lv_at hl 0 rfl) ?_
                refine va_get (D := g.1) (ci := 5) (fs := fcD bD qD0 vD_8) (v := .int (vD_8.1 6)) (C := RX5) (T := TX5) (N := 10) hx hb htu hinX5 hown hK hP 0 rfl rfl 6 (by decide) k_1_165 (fun _ h9 => h9) rfl dX5_advance_223 ?_
                obtain ⟨h23, hf⟩ := gd_in hf
                refine va_iald (D := g.1) (f := (vD_8.2.1 3)) hx hb hK hP 1 0 rfl rfl h23 dX5_advance_226 ?_
                refine lv_bipush (v := (59 : Int32)) hx hb dX5_advance_227 (by decide) ?_
                obtain ⟨k25, hk29, hf⟩ := jn_at hf
                have hJ26 : ∀ (t24 : Int32), k25 t24 = some vD1 → ∀ (H : Heap) (locs : List Loc), va_P g.1 vwCl (cD g bD qD0 vD_8) H → va_D A (cD g bD qD0 vD_8) → va_S A s.heap H locs → ∀ ls : Array Slot, lv_has ls 1 [(0, .ref (bD 0))] → W p l e (headSpec wsX5_advance rmX5_advance).room s m ([.ref (bD 0)] : List Value).toArray below meth c H locs 0 0 (MQ below (qV g A (cD g bD qD0 vD1)) ([.ref (bD 0)] : List Value).toArray s 0 0 A) (F0 m 237 ls [.int t24, .ref (bD 0)]) := by
                  intro t24 hf H locs hP hD hS ls hl
                  rw [hk29] at hf
                  dsimp only at hf
                  clear hk29
                  refine va_put (D := g.1) (ci := 5) (fs := fcD bD qD0 vD_8) (v := .int t24) (ty := .int) (C := RX5) (T := TX5) (N := 10) hx hb htu hinX5 tyX5 tyX5_ok nmX5 hown hK hP hD hS 0 rfl rfl 7 (by decide) k_1_166 (fun _ h9 => h9) rfl (by decide +kernel) rfl rfl (Nat.le_of_ble_eq_true rfl) dX5_advance_237 (fun H locs hP hD hS => ?_)
                  obtain ⟨vD_27, evD_27⟩ : ∃ z, z = sF vD_8 7 t24 := ⟨_, rfl⟩
                  have hf := bn_at hf evD_27
                  have hP : va_P g.1 vwCl (cD g bD qD0 vD_27) H := by rw [evD_27]; exact hP
                  have hD : va_D A (cD g bD qD0 vD_27) := by rw [evD_27]; exact hD
                  refine lv_aload_n hx hb dX5_advance_240 rfl (lv_at hl 0 rfl) ?_
                  refine lv_dup hx hb dX5_advance_241 rfl ?_
                  refine va_get (D := g.1) (ci := 5) (fs := fcD bD qD0 vD_27) (v := .int (vD_27.1 6)) (C := RX5) (T := TX5) (N := 10) hx hb htu hinX5 hown hK hP 0 rfl rfl 6 (by decide) k_1_165 (fun _ h9 => h9) rfl dX5_advance_242 ?_
                  refine lv_iconst (v := (1 : Int32)) hx hb dX5_advance_245 (by decide) ?_
                  refine lv_iadd hx hb dX5_advance_246 ?_
                  refine va_put (D := g.1) (ci := 5) (fs := fcD bD qD0 vD_27) (v := .int ((vD_27.1 6) + (1 : Int32))) (ty := .int) (C := RX5) (T := TX5) (N := 10) hx hb htu hinX5 tyX5 tyX5_ok nmX5 hown hK hP hD hS 0 rfl rfl 6 (by decide) k_1_165 (fun _ h9 => h9) rfl (by decide +kernel) rfl rfl (Nat.le_of_ble_eq_true rfl) dX5_advance_247 (fun H locs hP hD hS => ?_)
                  obtain ⟨vD_28, evD_28⟩ : ∃ z, z = sF vD_27 6 ((vD_27.1 6) + (1 : Int32)) := ⟨_, rfl⟩
                  have hf := bn_at hf evD_28
                  have hP : va_P g.1 vwCl (cD g bD qD0 vD_28) H := by rw [evD_28]; exact hP
                  have hD : va_D A (cD g bD qD0 vD_28) := by rw [evD_28]; exact hD
                  exact hJ11 vD_28 hf H locs hP hD hS _ (lv_sub hl [] rfl)
                refine lv_icmp_ne (tgt := 236) hx hb dX5_advance_229 (by decide) (fun c30 => ?_) (fun c30 => ?_)
                · have hf := it_f hf c30
                  refine lv_iconst (v := (4 : Int32)) hx hb dX5_advance_236 (by decide) ?_
                  exact hJ26 (4 : Int32) hf H locs hP hD hS _ (lv_sub hl [0] rfl)
                · have hf := it_t hf c30
                  refine lv_iconst (v := (3 : Int32)) hx hb dX5_advance_232 (by decide) ?_
                  refine lv_goto (tgt := 237) hx hb dX5_advance_233 (by decide) ?_
                  exact hJ26 (3 : Int32) hf H locs hP hD hS _ (lv_sub hl [0] rfl)
              · have hf := it_f hf c22
                refine lv_aload_n hx hb dX5_advance_173 rfl (lv_at hl 0 rfl) ?_
                refine lv_iconst (v := (1 : Int32)) hx hb dX5_advance_174 (by decide) ?_
                refine va_put (D := g.1) (ci := 5) (fs := fcD bD qD0 vD_8) (v := .int (1 : Int32)) (ty := .int) (C := RX5) (T := TX5) (N := 10) hx hb htu hinX5 tyX5 tyX5_ok nmX5 hown hK hP hD hS 0 rfl rfl 7 (by decide) k_1_166 (fun _ h9 => h9) rfl (by decide +kernel) rfl rfl (Nat.le_of_ble_eq_true rfl) dX5_advance_175 (fun H locs hP hD hS => ?_)
                obtain ⟨vD_31, evD_31⟩ : ∃ z, z = sF vD_8 7 (1 : Int32) := ⟨_, rfl⟩
                have hf := bn_at hf evD_31
                have hP : va_P g.1 vwCl (cD g bD qD0 vD_31) H := by rw [evD_31]; exact hP
                have hD : va_D A (cD g bD qD0 vD_31) := by rw [evD_31]; exact hD
                have hL34 : ∀ (vD_32 : Vs), lp (f_X5_advance_L178 k10) (fun _ => none) FU vD_32 = some vD1 → ∀ (H : Heap) (locs : List Loc), va_P g.1 vwCl (cD g bD qD0 vD_32) H → va_D A (cD g bD qD0 vD_32) → va_S A s.heap H locs → ∀ ls : Array Slot, lv_has ls 1 [(0, .ref (bD 0))] → W p l e (headSpec wsX5_advance rmX5_advance).room s m ([.ref (bD 0)] : List Value).toArray below meth c H locs 0 0 (MQ below (qV g A (cD g bD qD0 vD1)) ([.ref (bD 0)] : List Value).toArray s 0 0 A) (F0 m 178 ls []) := by
                  refine lp_ind (T := Vs → Option (Vs)) (fun self33 => ∀ (vD_32 : Vs), self33 vD_32 = some vD1 → ∀ (H : Heap) (locs : List Loc), va_P g.1 vwCl (cD g bD qD0 vD_32) H → va_D A (cD g bD qD0 vD_32) → va_S A s.heap H locs → ∀ ls : Array Slot, lv_has ls 1 [(0, .ref (bD 0))] → W p l e (headSpec wsX5_advance rmX5_advance).room s m ([.ref (bD 0)] : List Value).toArray below meth c H locs 0 0 (MQ below (qV g A (cD g bD qD0 vD1)) ([.ref (bD 0)] : List Value).toArray s 0 0 A) (F0 m 178 ls [])) ?_ ?_ FU
                  · intro vD_32 hf; cases hf
                  · intro self33 ih35 vD_32 hf H locs hP hD hS ls hl
                    unfold f_X5_advance_L178 at hf
                    refine lv_aload_n hx hb dX5_advance_178 rfl (lv_at hl 0 rfl) ?_
                    refine va_get (D := g.1) (ci := 5) (fs := fcD bD qD0 vD_32) (v := .int (vD_32.1 6)) (C := RX5) (T := TX5) (N := 10) hx hb htu hinX5 hown hK hP 0 rfl rfl 6 (by decide) k_1_165 (fun _ h9 => h9) rfl dX5_advance_179 ?_
                    refine lv_aload_n hx hb dX5_advance_182 rfl (lv_at hl 0 rfl) ?_
                    refine va_get (D := g.1) (ci := 5) (fs := fcD bD qD0 vD_32) (v := .int (vD_32.1 5)) (C := RX5) (T := TX5) (N := 10) hx hb htu hinX5 hown hK hP 0 rfl rfl 5 (by decide) k_1_164 (fun _ h9 => h9) rfl dX5_advance_183 ?_
                    refine lv_icmp_ge (tgt := 250) hx hb dX5_advance_186 (by decide) (fun c36 => ?_) (fun c36 => ?_)
                    · have hf := it_t hf c36
                      exact hJ11 vD_32 hf H locs hP hD hS _ (lv_sub hl [] rfl)
                    · have hf := it_f hf c36
                      refine lv_aload_n hx hb dX5_advance_189 rfl (lv_at hl 0 rfl) ?_
                      refine va_get (D := g.1) (ci := 5) (fs := fcD bD qD0 vD_32) (v := .ref (bD 4)) (C := RX5) (T := TX5) (N := 10) hx hb htu hinX5 hown hK hP 0 rfl rfl 3 (by decide) k_1_162 (fun _ h9 => h9) rfl dX5_advance_190 ?_
                      refine lv_aload_n hx hb dX5_advance_193 rfl (lv_at hl 0 rfl) ?_
                      refine va_get (D := g.1) (ci := 5) (fs := fcD bD qD0 vD_32) (v := .int (vD_32.1 6)) (C := RX5) (T := TX5) (N := 10) hx hb htu hinX5 hown hK hP 0 rfl rfl 6 (by decide) k_1_165 (fun _ h9 => h9) rfl dX5_advance_194 ?_
                      obtain ⟨h37, hf⟩ := gd_in hf
                      refine va_iald (D := g.1) (f := (vD_32.2.1 3)) hx hb hK hP 1 0 rfl rfl h37 dX5_advance_197 ?_
                      obtain ⟨r38, hg39, hf⟩ := o1_at hf
                      refine k_si0 ⟨hx, hb, hml, hown, htu⟩ hK hP hD hS hA hG (c_X5_isLetter l g (vD_32.2.1 3 ((vD_32.1 6)).toNatClampNeg) r38 hg39) (va_cwS 1 htu (gU_S mw_4_0 hcX5_isLetter) rfl rfl rfl hdX5_isLetter ⟨Nat.le_of_ble_eq_true rfl, Nat.le_of_ble_eq_true rfl⟩) (As := [.int (vD_32.2.1 3 ((vD_32.1 6)).toNatClampNeg)]) (rest := []) rfl rfl hl.1 (Nat.le_of_ble_eq_true rfl) dX5_advance_198 (k1 := 0) (n1 := 0) rfl rfl ⟨Nat.zero_le _, Nat.zero_le _⟩ (fun H locs hP hD hS => ?_)
                      refine lv_if_eq (tgt := 250) hx hb dX5_advance_201 (by decide) (fun c40 => ?_) (fun c40 => ?_)
                      · have hf := it_t hf c40
                        exact hJ11 vD_32 hf H locs hP hD hS _ (lv_sub hl [] rfl)
                      · have hf := it_f hf c40
                        refine lv_aload_n hx hb dX5_advance_204 rfl (lv_at hl 0 rfl) ?_
                        refine lv_dup hx hb dX5_advance_205 rfl ?_
                        refine va_get (D := g.1) (ci := 5) (fs := fcD bD qD0 vD_32) (v := .int (vD_32.1 6)) (C := RX5) (T := TX5) (N := 10) hx hb htu hinX5 hown hK hP 0 rfl rfl 6 (by decide) k_1_165 (fun _ h9 => h9) rfl dX5_advance_206 ?_
                        refine lv_iconst (v := (1 : Int32)) hx hb dX5_advance_209 (by decide) ?_
                        refine lv_iadd hx hb dX5_advance_210 ?_
                        refine va_put (D := g.1) (ci := 5) (fs := fcD bD qD0 vD_32) (v := .int ((vD_32.1 6) + (1 : Int32))) (ty := .int) (C := RX5) (T := TX5) (N := 10) hx hb htu hinX5 tyX5 tyX5_ok nmX5 hown hK hP hD hS 0 rfl rfl 6 (by decide) k_1_165 (fun _ h9 => h9) rfl (by decide +kernel) rfl rfl (Nat.le_of_ble_eq_true rfl) dX5_advance_211 (fun H locs hP hD hS => ?_)
                        obtain ⟨vD_41, evD_41⟩ : ∃ z, z = sF vD_32 6 ((vD_32.1 6) + (1 : Int32)) := ⟨_, rfl⟩
                        have hf := bn_at hf evD_41
                        have hP : va_P g.1 vwCl (cD g bD qD0 vD_41) H := by rw [evD_41]; exact hP
                        have hD : va_D A (cD g bD qD0 vD_41) := by rw [evD_41]; exact hD
                        refine lv_goto (tgt := 178) hx hb dX5_advance_214 (by decide) ?_
                        exact ih35 vD_41 hf H locs hP hD hS _ (lv_sub hl [0] rfl)
                exact hL34 vD_31 hf H locs hP hD hS _ (lv_sub hl [0] rfl)
            · have hf := it_f hf c18
              refine lv_aload_n hx hb dX5_advance_85 rfl (lv_at hl 0 rfl) ?_
              refine lv_iconst (v := (2 : Int32)) hx hb dX5_advance_86 (by decide) ?_
              refine va_put (D := g.1) (ci := 5) (fs := fcD bD qD0 vD_8) (v := .int (2 : Int32)) (ty := .int) (C := RX5) (T := TX5) (N := 10) hx hb htu hinX5 tyX5 tyX5_ok nmX5 hown hK hP hD hS 0 rfl rfl 7 (by decide) k_1_166 (fun _ h9 => h9) rfl (by decide +kernel) rfl rfl (Nat.le_of_ble_eq_true rfl) dX5_advance_87 (fun H locs hP hD hS => ?_)
              obtain ⟨vD_42, evD_42⟩ : ∃ z, z = sF vD_8 7 (2 : Int32) := ⟨_, rfl⟩
              have hf := bn_at hf evD_42
              have hP : va_P g.1 vwCl (cD g bD qD0 vD_42) H := by rw [evD_42]; exact hP
              have hD : va_D A (cD g bD qD0 vD_42) := by rw [evD_42]; exact hD
              have hL45 : ∀ (vD_43 : Vs), lp (f_X5_advance_L90 k10) (fun _ => none) FU vD_43 = some vD1 → ∀ (H : Heap) (locs : List Loc), va_P g.1 vwCl (cD g bD qD0 vD_43) H → va_D A (cD g bD qD0 vD_43) → va_S A s.heap H locs → ∀ ls : Array Slot, lv_has ls 1 [(0, .ref (bD 0))] → W p l e (headSpec wsX5_advance rmX5_advance).room s m ([.ref (bD 0)] : List Value).toArray below meth c H locs 0 0 (MQ below (qV g A (cD g bD qD0 vD1)) ([.ref (bD 0)] : List Value).toArray s 0 0 A) (F0 m 90 ls []) := by
                refine lp_ind (T := Vs → Option (Vs)) (fun self44 => ∀ (vD_43 : Vs), self44 vD_43 = some vD1 → ∀ (H : Heap) (locs : List Loc), va_P g.1 vwCl (cD g bD qD0 vD_43) H → va_D A (cD g bD qD0 vD_43) → va_S A s.heap H locs → ∀ ls : Array Slot, lv_has ls 1 [(0, .ref (bD 0))] → W p l e (headSpec wsX5_advance rmX5_advance).room s m ([.ref (bD 0)] : List Value).toArray below meth c H locs 0 0 (MQ below (qV g A (cD g bD qD0 vD1)) ([.ref (bD 0)] : List Value).toArray s 0 0 A) (F0 m 90 ls [])) ?_ ?_ FU
                · intro vD_43 hf; cases hf
                · intro self44 ih46 vD_43 hf H locs hP hD hS ls hl
                  unfold f_X5_advance_L90 at hf
                  refine lv_aload_n hx hb dX5_advance_90 rfl (lv_at hl 0 rfl) ?_
                  refine va_get (D := g.1) (ci := 5) (fs := fcD bD qD0 vD_43) (v := .int (vD_43.1 6)) (C := RX5) (T := TX5) (N := 10) hx hb htu hinX5 hown hK hP 0 rfl rfl 6 (by decide) k_1_165 (fun _ h9 => h9) rfl dX5_advance_91 ?_
                  refine lv_aload_n hx hb dX5_advance_94 rfl (lv_at hl 0 rfl) ?_
                  refine va_get (D := g.1) (ci := 5) (fs := fcD bD qD0 vD_43) (v := .int (vD_43.1 5)) (C := RX5) (T := TX5) (N := 10) hx hb htu hinX5 hown hK hP 0 rfl rfl 5 (by decide) k_1_164 (fun _ h9 => h9) rfl dX5_advance_95 ?_
                  refine lv_icmp_ge (tgt := 250) hx hb dX5_advance_98 (by decide) (fun c47 => ?_) (fun c47 => ?_)
                  · have hf := it_t hf c47
                    exact hJ11 vD_43 hf H locs hP hD hS _ (lv_sub hl [] rfl)
                  · have hf := it_f hf c47
                    refine lv_aload_n hx hb dX5_advance_101 rfl (lv_at hl 0 rfl) ?_
                    refine va_get (D := g.1) (ci := 5) (fs := fcD bD qD0 vD_43) (v := .ref (bD 4)) (C := RX5) (T := TX5) (N := 10) hx hb htu hinX5 hown hK hP 0 rfl rfl 3 (by decide) k_1_162 (fun _ h9 => h9) rfl dX5_advance_102 ?_
                    refine lv_aload_n hx hb dX5_advance_105 rfl (lv_at hl 0 rfl) ?_
                    refine va_get (D := g.1) (ci := 5) (fs := fcD bD qD0 vD_43) (v := .int (vD_43.1 6)) (C := RX5) (T := TX5) (N := 10) hx hb htu hinX5 hown hK hP 0 rfl rfl 6 (by decide) k_1_165 (fun _ h9 => h9) rfl dX5_advance_106 ?_
                    obtain ⟨h48, hf⟩ := gd_in hf
                    refine va_iald (D := g.1) (f := (vD_43.2.1 3)) hx hb hK hP 1 0 rfl rfl h48 dX5_advance_109 ?_
                    obtain ⟨r49, hg50, hf⟩ := o1_at hf
                    refine k_si0 ⟨hx, hb, hml, hown, htu⟩ hK hP hD hS hA hG (c_X5_isDigit l g (vD_43.2.1 3 ((vD_43.1 6)).toNatClampNeg) r49 hg50) (va_cwS 1 htu (gU_S mw_3_236 hcX5_isDigit) rfl rfl rfl hdX5_isDigit ⟨Nat.le_of_ble_eq_true rfl, Nat.le_of_ble_eq_true rfl⟩) (As := [.int (vD_43.2.1 3 ((vD_43.1 6)).toNatClampNeg)]) (rest := []) rfl rfl hl.1 (Nat.le_of_ble_eq_true rfl) dX5_advance_110 (k1 := 0) (n1 := 0) rfl rfl ⟨Nat.zero_le _, Nat.zero_le _⟩ (fun H locs hP hD hS => ?_)
                    refine lv_if_eq (tgt := 250) hx hb dX5_advance_113 (by decide) (fun c51 => ?_) (fun c51 => ?_)
                    · have hf := it_t hf c51
                      exact hJ11 vD_43 hf H locs hP hD hS _ (lv_sub hl [] rfl)
                    · have hf := it_f hf c51
                      refine lv_aload_n hx hb dX5_advance_116 rfl (lv_at hl 0 rfl) ?_
                      refine lv_ldc (v := (100000 : Int32)) hx hb hown k_3_239 dX5_advance_117 ?_
                      refine lv_aload_n hx hb dX5_advance_119 rfl (lv_at hl 0 rfl) ?_
                      refine va_get (D := g.1) (ci := 5) (fs := fcD bD qD0 vD_43) (v := .int (vD_43.1 9)) (C := RX5) (T := TX5) (N := 10) hx hb htu hinX5 hown hK hP 0 rfl rfl 9 (by decide) k_1_168 (fun _ h9 => h9) rfl dX5_advance_120 ?_
                      refine lv_bipush (v := (10 : Int32)) hx hb dX5_advance_123 (by decide) ?_
                      refine lv_imul hx hb dX5_advance_125 ?_
                      refine lv_aload_n hx hb dX5_advance_126 rfl (lv_at hl 0 rfl) ?_
                      refine va_get (D := g.1) (ci := 5) (fs := fcD bD qD0 vD_43) (v := .ref (bD 4)) (C := RX5) (T := TX5) (N := 10) hx hb htu hinX5 hown hK hP 0 rfl rfl 3 (by decide) k_1_162 (fun _ h9 => h9) rfl dX5_advance_127 ?_
                      refine lv_aload_n hx hb dX5_advance_130 rfl (lv_at hl 0 rfl) ?_
                      refine va_get (D := g.1) (ci := 5) (fs := fcD bD qD0 vD_43) (v := .int (vD_43.1 6)) (C := RX5) (T := TX5) (N := 10) hx hb htu hinX5 hown hK hP 0 rfl rfl 6 (by decide) k_1_165 (fun _ h9 => h9) rfl dX5_advance_131 ?_
                      obtain ⟨h52, hf⟩ := gd_in hf
                      refine va_iald (D := g.1) (f := (vD_43.2.1 3)) hx hb hK hP 1 0 rfl rfl h52 dX5_advance_134 ?_
                      refine lv_iadd hx hb dX5_advance_135 ?_
                      refine lv_bipush (v := (48 : Int32)) hx hb dX5_advance_136 (by decide) ?_
                      refine lv_isub hx hb dX5_advance_138 ?_
                      refine va_mmin hx hb (hml.trans hl.1.symm) hown k_3_218 k_2_116 k_1_7 k_2_117 (Nat.le_of_ble_eq_true rfl) (Nat.le_of_ble_eq_true rfl) (Nat.zero_le _) (Nat.zero_le _) dX5_advance_139 ?_
                      refine va_put (D := g.1) (ci := 5) (fs := fcD bD qD0 vD_43) (v := .int (if ((((vD_43.1 9) * (10 : Int32)) + (vD_43.2.1 3 ((vD_43.1 6)).toNatClampNeg)) - (48 : Int32)) < (100000 : Int32) then ((((vD_43.1 9) * (10 : Int32)) + (vD_43.2.1 3 ((vD_43.1 6)).toNatClampNeg)) - (48 : Int32)) else (100000 : Int32))) (ty := .int) (C := RX5) (T := TX5) (N := 10) hx hb htu hinX5 tyX5 tyX5_ok nmX5 hown hK hP hD hS 0 rfl rfl 9 (by decide) k_1_168 (fun _ h9 => h9) rfl (by decide +kernel) rfl rfl (Nat.le_of_ble_eq_true rfl) dX5_advance_142 (fun H locs hP hD hS => ?_)
                      obtain ⟨vD_53, evD_53⟩ : ∃ z, z = sF vD_43 9 (if ((((vD_43.1 9) * (10 : Int32)) + (vD_43.2.1 3 ((vD_43.1 6)).toNatClampNeg)) - (48 : Int32)) < (100000 : Int32) then ((((vD_43.1 9) * (10 : Int32)) + (vD_43.2.1 3 ((vD_43.1 6)).toNatClampNeg)) - (48 : Int32)) else (100000 : Int32)) := ⟨_, rfl⟩
                      have hf := bn_at hf evD_53
                      have hP : va_P g.1 vwCl (cD g bD qD0 vD_53) H := by rw [evD_53]; exact hP
                      have hD : va_D A (cD g bD qD0 vD_53) := by rw [evD_53]; exact hD
                      refine lv_aload_n hx hb dX5_advance_145 rfl (lv_at hl 0 rfl) ?_
                      refine lv_dup hx hb dX5_advance_146 rfl ?_
                      refine va_get (D := g.1) (ci := 5) (fs := fcD bD qD0 vD_53) (v := .int (vD_53.1 6)) (C := RX5) (T := TX5) (N := 10) hx hb htu hinX5 hown hK hP 0 rfl rfl 6 (by decide) k_1_165 (fun _ h9 => h9) rfl dX5_advance_147 ?_
                      refine lv_iconst (v := (1 : Int32)) hx hb dX5_advance_150 (by decide) ?_
                      refine lv_iadd hx hb dX5_advance_151 ?_
                      refine va_put (D := g.1) (ci := 5) (fs := fcD bD qD0 vD_53) (v := .int ((vD_53.1 6) + (1 : Int32))) (ty := .int) (C := RX5) (T := TX5) (N := 10) hx hb htu hinX5 tyX5 tyX5_ok nmX5 hown hK hP hD hS 0 rfl rfl 6 (by decide) k_1_165 (fun _ h9 => h9) rfl (by decide +kernel) rfl rfl (Nat.le_of_ble_eq_true rfl) dX5_advance_152 (fun H locs hP hD hS => ?_)
                      obtain ⟨vD_54, evD_54⟩ : ∃ z, z = sF vD_53 6 ((vD_53.1 6) + (1 : Int32)) := ⟨_, rfl⟩
                      have hf := bn_at hf evD_54
                      have hP : va_P g.1 vwCl (cD g bD qD0 vD_54) H := by rw [evD_54]; exact hP
                      have hD : va_D A (cD g bD qD0 vD_54) := by rw [evD_54]; exact hD
                      refine lv_goto (tgt := 90) hx hb dX5_advance_155 (by decide) ?_
                      exact ih46 vD_54 hf H locs hP hD hS _ (lv_sub hl [0] rfl)
              exact hL45 vD_42 hf H locs hP hD hS _ (lv_sub hl [0] rfl)
          · have hf := it_f hf c14
            refine lv_aload_n hx hb dX5_advance_62 rfl (lv_at hl 0 rfl) ?_
            refine lv_iconst (v := (0 : Int32)) hx hb dX5_advance_63 (by decide) ?_
            refine va_put (D := g.1) (ci := 5) (fs := fcD bD qD0 vD_8) (v := .int (0 : Int32)) (ty := .int) (C := RX5) (T := TX5) (N := 10) hx hb htu hinX5 tyX5 tyX5_ok nmX5 hown hK hP hD hS 0 rfl rfl 7 (by decide) k_1_166 (fun _ h9 => h9) rfl (by decide +kernel) rfl rfl (Nat.le_of_ble_eq_true rfl) dX5_advance_64 (fun H locs hP hD hS => ?_)
            obtain ⟨vD_55, evD_55⟩ : ∃ z, z = sF vD_8 7 (0 : Int32) := ⟨_, rfl⟩
            have hf := bn_at hf evD_55
            have hP : va_P g.1 vwCl (cD g bD qD0 vD_55) H := by rw [evD_55]; exact hP
            have hD : va_D A (cD g bD qD0 vD_55) := by rw [evD_55]; exact hD
            refine lv_goto (tgt := 250) hx hb dX5_advance_67 (by decide) ?_
            exact hJ11 vD_55 hf H locs hP hD hS _ (lv_sub hl [] rfl)
        refine lv_icmp_ge (tgt := 38) hx hb dX5_advance_8 (by decide) (fun c57 => ?_) (fun c57 => ?_)
        · have hf := it_t hf c57
          exact hJ6 hf H locs hP hD hS _ (lv_sub hl [0] rfl)
        · have hf := it_f hf c57
          refine lv_aload_n hx hb dX5_advance_11 rfl (lv_at hl 0 rfl) ?_
          refine va_get (D := g.1) (ci := 5) (fs := fcD bD qD0 vD_1) (v := .ref (bD 4)) (C := RX5) (T := TX5) (N := 10) hx hb htu hinX5 hown hK hP 0 rfl rfl 3 (by decide) k_1_162 (fun _ h9 => h9) rfl dX5_advance_12 ?_
          refine lv_aload_n hx hb dX5_advance_15 rfl (lv_at hl 0 rfl) ?_
          refine va_get (D := g.1) (ci := 5) (fs := fcD bD qD0 vD_1) (v := .int (vD_1.1 6)) (C := RX5) (T := TX5) (N := 10) hx hb htu hinX5 hown hK hP 0 rfl rfl 6 (by decide) k_1_165 (fun _ h9 => h9) rfl dX5_advance_16 ?_
          obtain ⟨h58, hf⟩ := gd_in hf
          refine va_iald (D := g.1) (f := (vD_1.2.1 3)) hx hb hK hP 1 0 rfl rfl h58 dX5_advance_19 ?_
          refine lv_bipush (v := (32 : Int32)) hx hb dX5_advance_20 (by decide) ?_
          refine lv_icmp_ne (tgt := 38) hx hb dX5_advance_22 (by decide) (fun c59 => ?_) (fun c59 => ?_)
          · have hf := it_f hf c59
            exact hJ6 hf H locs hP hD hS _ (lv_sub hl [0] rfl)
          · have hf := it_t hf c59
            refine lv_aload_n hx hb dX5_advance_25 rfl (lv_at hl 0 rfl) ?_
            refine lv_dup hx hb dX5_advance_26 rfl ?_
            refine va_get (D := g.1) (ci := 5) (fs := fcD bD qD0 vD_1) (v := .int (vD_1.1 6)) (C := RX5) (T := TX5) (N := 10) hx hb htu hinX5 hown hK hP 0 rfl rfl 6 (by decide) k_1_165 (fun _ h9 => h9) rfl dX5_advance_27 ?_
            refine lv_iconst (v := (1 : Int32)) hx hb dX5_advance_30 (by decide) ?_
            refine lv_iadd hx hb dX5_advance_31 ?_
            refine va_put (D := g.1) (ci := 5) (fs := fcD bD qD0 vD_1) (v := .int ((vD_1.1 6) + (1 : Int32))) (ty := .int) (C := RX5) (T := TX5) (N := 10) hx hb htu hinX5 tyX5 tyX5_ok nmX5 hown hK hP hD hS 0 rfl rfl 6 (by decide) k_1_165 (fun _ h9 => h9) rfl (by decide +kernel) rfl rfl (Nat.le_of_ble_eq_true rfl) dX5_advance_32 (fun H locs hP hD hS => ?_)
            obtain ⟨vD_60, evD_60⟩ : ∃ z, z = sF vD_1 6 ((vD_1.1 6) + (1 : Int32)) := ⟨_, rfl⟩
            have hf := bn_at hf evD_60
            have hP : va_P g.1 vwCl (cD g bD qD0 vD_60) H := by rw [evD_60]; exact hP
            have hD : va_D A (cD g bD qD0 vD_60) := by rw [evD_60]; exact hD
            refine lv_goto (tgt := 0) hx hb dX5_advance_35 (by decide) ?_
            exact ih4 vD_60 hf H locs hP hD hS _ (lv_sub hl [0] rfl)
    exact hL3 vD hf H locs hP hD hS _ (lv_sub hl [0] rfl)
  rw [hH, hlo] at hW
  exact hW
def f_X5_isWord_L28 (vD : Vs) (i0 : Nat) (self11 : Int32 → Option (Int32)) (x2_10 : Int32) : Option (Int32) :=
  o1 (f_J0_length_8abf5 i0) (fun (r14 : Int32) => jn (gd (isB (1 : Int32)) (some ((1 : Int32)))) (fun k16 => if r14 ≤ x2_10 then k16 else if (vD.1 5) ≤ ((vD.1 8) + x2_10) then k16 else gd (inb ((vD.1 8) + x2_10) 800) (o1 (f_J0_charAt_5068e x2_10 i0) (fun (r24 : Int32) => if (vD.2.1 3 (((vD.1 8) + x2_10)).toNatClampNeg) = r24 then self11 (x2_10 + (1 : Int32)) else gd (isB (0 : Int32)) (some ((0 : Int32)))))))
def f_X5_isWord (vD : Vs) (i0 : Nat) : Option (Int32) :=
  jn (gd (isB (0 : Int32)) (some ((0 : Int32)))) (fun k1 => if (vD.1 7) = (1 : Int32) then o1 (f_J0_length_8abf5 i0) (fun (r7 : Int32) => if ((vD.1 6) - (vD.1 8)) = r7 then lp (f_X5_isWord_L28 vD i0) (fun _ => none) FU (0 : Int32) else k1) else k1)
abbrev wsX5_isWord : List Cond := .code yX5_isWord cX5_isWord 3 (some .boolean) :: UW
abbrev rmX5_isWord : Room := { frames := 4, cells := 0, slots := 0, locals := 85 }
set_option maxHeartbeats 4000000 in
set_option maxRecDepth 100000 in
theorem c_X5_isWord (l : Launch) (g : Gx) (bD : Nat → Nat) (qD0 : Nat) (vD : Vs) (i0 : Nat) (hi0 : i0 < 27) (r : Int32) (hf : f_X5_isWord vD i0 = some r) : CtI l yX5_isWord wsX5_isWord rmX5_isWord g [.ref (bD 0), .ref (adK g i0)] (cD g bD qD0 vD) (cD g bD qD0 vD) r 0 0 := by
  unfold CtI
  intro sz
  refine Met.ofW (cc := cX5_isWord) (maxL := 3) (ret := (some .boolean)) (by decide) rfl ?_
  intro p e s m args below meth c s₁ B hml hv
  obtain ⟨rfl, hsz, hP, hK, hD0, hG⟩ := hv
  have hx := B.exec
  have hb := B.bytes
  have hr := B.returns
  have hts := atoms_spec (ws := wsX5_isWord) B.pre
  have hown : s.vm.findClass RX5 = some m.cls := findClass_of_methodNamed B.named
  have hlocks := B.notSynchronized
  subst hsz
  have hD := hD0.self (sz := s.heap.size)
  generalize hAe : va_A (cD g bD qD0 vD) s.heap.size = A at hD hG ⊢
  have hA : ∀ q : Nat, s.heap.size ≤ q → A q := fun q h => by rw [← hAe]; exact Or.inr h
  clear hAe hD0
  have hS : va_S A s.heap s.heap [] := va_S.rf
  have hl := lv_entry ([.ref (bD 0), .ref (adK g i0)]) (n := 3) (Nat.le_of_ble_eq_true rfl)
  rw [lg_entry_eq]
  generalize (lg_sl ([.ref (bD 0), .ref (adK g i0)]) ++ List.replicate (3 - (lg_sl ([.ref (bD 0), .ref (adK g i0)])).length) Slot.unset).toArray = ls at hl ⊢
  have hl : lv_has ls 3 [(0, .ref (bD 0)), (1, .ref (adK g i0))] := hl
  have htu : ∀ w ∈ UW, w.before _ s = true := fun w h => hts w (List.mem_cons_of_mem _ h)
  have k_1_166 := htu _ mw_1_166
  have k_1_165 := htu _ mw_1_165
  have k_1_167 := htu _ mw_1_167
  have k_1_164 := htu _ mw_1_164
  have k_1_162 := htu _ mw_1_162
  unfold f_X5_isWord at hf
  obtain ⟨H, hH⟩ : ∃ z, z = s.heap := ⟨_, rfl⟩
  obtain ⟨locs, hlo⟩ : ∃ z : List Loc, z = [] := ⟨_, rfl⟩
  have hS : va_S A s.heap H locs := by rw [hH, hlo]; exact hS
  rw [← hH] at hP
  have hW : W p l e (headSpec wsX5_isWord rmX5_isWord).room s m ([.ref (bD 0), .ref (adK g i0)] : List Value).toArray below meth c H locs 0 0 (MQ below (qI g A (cD g bD qD0 vD) r) ([.ref (bD 0), .ref (adK g i0)] : List Value).toArray s 0 0 A) (F0 m 0 ls []) := by
    refine lv_aload_n hx hb dX5_isWord_0 rfl (lv_at hl 0 rfl) ?_
    refine va_get (D := g.1) (ci := 5) (fs := fcD bD qD0 vD) (v := .int (vD.1 7)) (C := RX5) (T := TX5) (N := 10) hx hb htu hinX5 hown hK hP 0 rfl rfl 7 (by decide) k_1_166 (fun _ h9 => h9) rfl dX5_isWord_1 ?_
    refine lv_iconst (v := (1 : Int32)) hx hb dX5_isWord_4 (by decide) ?_
    obtain ⟨k1, hk5, hf⟩ := jn_at hf
    have hJ2 : k1 = some r → ∀ (H : Heap) (locs : List Loc), va_P g.1 vwCl (cD g bD qD0 vD) H → va_D A (cD g bD qD0 vD) → va_S A s.heap H locs → ∀ ls : Array Slot, lv_has ls 3 [] → W p l e (headSpec wsX5_isWord rmX5_isWord).room s m ([.ref (bD 0), .ref (adK g i0)] : List Value).toArray below meth c H locs 0 0 (MQ below (qI g A (cD g bD qD0 vD) r) ([.ref (bD 0), .ref (adK g i0)] : List Value).toArray s 0 0 A) (F0 m 24 ls []) := by
      intro hf H locs hP hD hS ls hl
      rw [hk5] at hf
      clear hk5
      refine lv_iconst (v := (0 : Int32)) hx hb dX5_isWord_24 (by decide) ?_
      obtain ⟨h3, hf⟩ := gd_isB hf
      have e4 := Option.some.inj hf
      exact k_zret hx hb hr hlocks hK hP hD hS e4 h3 dX5_isWord_25
    refine lv_icmp_ne (tgt := 24) hx hb dX5_isWord_5 (by decide) (fun c6 => ?_) (fun c6 => ?_)
    · have hf := it_f hf c6
      exact hJ2 hf H locs hP hD hS _ (lv_sub hl [] rfl)
    · have hf := it_t hf c6
      refine lv_aload_n hx hb dX5_isWord_8 rfl (lv_at hl 0 rfl) ?_
      refine va_get (D := g.1) (ci := 5) (fs := fcD bD qD0 vD) (v := .int (vD.1 6)) (C := RX5) (T := TX5) (N := 10) hx hb htu hinX5 hown hK hP 0 rfl rfl 6 (by decide) k_1_165 (fun _ h9 => h9) rfl dX5_isWord_9 ?_
      refine lv_aload_n hx hb dX5_isWord_12 rfl (lv_at hl 0 rfl) ?_
      refine va_get (D := g.1) (ci := 5) (fs := fcD bD qD0 vD) (v := .int (vD.1 8)) (C := RX5) (T := TX5) (N := 10) hx hb htu hinX5 hown hK hP 0 rfl rfl 8 (by decide) k_1_167 (fun _ h9 => h9) rfl dX5_isWord_13 ?_
      refine lv_isub hx hb dX5_isWord_16 ?_
      refine lv_aload_n hx hb dX5_isWord_17 rfl (lv_at hl 1 rfl) ?_
      obtain ⟨r7, hg8, hf⟩ := o1_at hf
      refine k_viS ⟨hx, hb, hml, hown, htu⟩ hK hP hD hS hA hG (c_J0_length_8abf5 l g i0 hi0 r7 hg8) (cwV 0 htu (gU_V mw_4_12 hcJ0_length_8abf5) rfl rfl rfl hdJ0_length_8abf5 ⟨Nat.le_of_ble_eq_true rfl, Nat.le_of_ble_eq_true rfl⟩) (vk_recv hG.2.2.1 hi0 hS) (As := []) (rest := [.int ((vD.1 6) - (vD.1 8))]) rfl rfl hl.1 (Nat.le_of_ble_eq_true rfl) dX5_isWord_18 (k1 := 0) (n1 := 0) rfl rfl ⟨Nat.zero_le _, Nat.zero_le _⟩ (fun H locs hP hD hS => ?_)
      refine lv_icmp_eq (tgt := 26) hx hb dX5_isWord_21 (by decide) (fun c9 => ?_) (fun c9 => ?_)
      · have hf := it_t hf c9
        refine lv_iconst (v := (0 : Int32)) hx hb dX5_isWord_26 (by decide) ?_
        refine lv_istore_n (lv' := [(2, .int (0 : Int32)), (0, .ref (bD 0)), (1, .ref (adK g i0))]) hx hb dX5_isWord_27 rfl hl (by decide) rfl (fun ls hl => ?_)
        have hL12 : ∀ (x2_10 : Int32), lp (f_X5_isWord_L28 vD i0) (fun _ => none) FU x2_10 = some r → ∀ (H : Heap) (locs : List Loc), va_P g.1 vwCl (cD g bD qD0 vD) H → va_D A (cD g bD qD0 vD) → va_S A s.heap H locs → ∀ ls : Array Slot, lv_has ls 3 [(0, .ref (bD 0)), (1, .ref (adK g i0)), (2, .int x2_10)] → W p l e (headSpec wsX5_isWord rmX5_isWord).room s m ([.ref (bD 0), .ref (adK g i0)] : List Value).toArray below meth c H locs 0 0 (MQ below (qI g A (cD g bD qD0 vD) r) ([.ref (bD 0), .ref (adK g i0)] : List Value).toArray s 0 0 A) (F0 m 28 ls []) := by
          refine lp_ind (T := Int32 → Option (Int32)) (fun self11 => ∀ (x2_10 : Int32), self11 x2_10 = some r → ∀ (H : Heap) (locs : List Loc), va_P g.1 vwCl (cD g bD qD0 vD) H → va_D A (cD g bD qD0 vD) → va_S A s.heap H locs → ∀ ls : Array Slot, lv_has ls 3 [(0, .ref (bD 0)), (1, .ref (adK g i0)), (2, .int x2_10)] → W p l e (headSpec wsX5_isWord rmX5_isWord).room s m ([.ref (bD 0), .ref (adK g i0)] : List Value).toArray below meth c H locs 0 0 (MQ below (qI g A (cD g bD qD0 vD) r) ([.ref (bD 0), .ref (adK g i0)] : List Value).toArray s 0 0 A) (F0 m 28 ls [])) ?_ ?_ FU
          · intro x2_10 hf; cases hf
          · intro self11 ih13 x2_10 hf H locs hP hD hS ls hl
            unfold f_X5_isWord_L28 at hf
            refine lv_iload_n hx hb dX5_isWord_28 rfl (lv_at hl 2 rfl) ?_
            refine lv_aload_n hx hb dX5_isWord_29 rfl (lv_at hl 1 rfl) ?_
            obtain ⟨r14, hg15, hf⟩ := o1_at hf
            refine k_viS ⟨hx, hb, hml, hown, htu⟩ hK hP hD hS hA hG (c_J0_length_8abf5 l g i0 hi0 r14 hg15) (cwV 0 htu (gU_V mw_4_12 hcJ0_length_8abf5) rfl rfl rfl hdJ0_length_8abf5 ⟨Nat.le_of_ble_eq_true rfl, Nat.le_of_ble_eq_true rfl⟩) (vk_recv hG.2.2.1 hi0 hS) (As := []) (rest := [.int x2_10]) rfl rfl hl.1 (Nat.le_of_ble_eq_true rfl) dX5_isWord_30 (k1 := 0) (n1 := 0) rfl rfl ⟨Nat.zero_le _, Nat.zero_le _⟩ (fun H locs hP hD hS => ?_)
            obtain ⟨k16, hk20, hf⟩ := jn_at hf
            have hJ17 : k16 = some r → ∀ (H : Heap) (locs : List Loc), va_P g.1 vwCl (cD g bD qD0 vD) H → va_D A (cD g bD qD0 vD) → va_S A s.heap H locs → ∀ ls : Array Slot, lv_has ls 3 [] → W p l e (headSpec wsX5_isWord rmX5_isWord).room s m ([.ref (bD 0), .ref (adK g i0)] : List Value).toArray below meth c H locs 0 0 (MQ below (qI g A (cD g bD qD0 vD) r) ([.ref (bD 0), .ref (adK g i0)] : List Value).toArray s 0 0 A) (F0 m 76 ls []) := by
              intro hf H locs hP hD hS ls hl
              rw [hk20] at hf
              clear hk20
              refine lv_iconst (v := (1 : Int32)) hx hb dX5_isWord_76 (by decide) ?_
              obtain ⟨h18, hf⟩ := gd_isB hf
              have e19 := Option.some.inj hf
              exact k_zret hx hb hr hlocks hK hP hD hS e19 h18 dX5_isWord_77
            refine lv_icmp_ge (tgt := 76) hx hb dX5_isWord_33 (by decide) (fun c21 => ?_) (fun c21 => ?_)
            · have hf := it_t hf c21
              exact hJ17 hf H locs hP hD hS _ (lv_sub hl [] rfl)
            · have hf := it_f hf c21
              refine lv_aload_n hx hb dX5_isWord_36 rfl (lv_at hl 0 rfl) ?_
              refine va_get (D := g.1) (ci := 5) (fs := fcD bD qD0 vD) (v := .int (vD.1 8)) (C := RX5) (T := TX5) (N := 10) hx hb htu hinX5 hown hK hP 0 rfl rfl 8 (by decide) k_1_167 (fun _ h9 => h9) rfl dX5_isWord_37 ?_
              refine lv_iload_n hx hb dX5_isWord_40 rfl (lv_at hl 2 rfl) ?_
              refine lv_iadd hx hb dX5_isWord_41 ?_
              refine lv_aload_n hx hb dX5_isWord_42 rfl (lv_at hl 0 rfl) ?_
              refine va_get (D := g.1) (ci := 5) (fs := fcD bD qD0 vD) (v := .int (vD.1 5)) (C := RX5) (T := TX5) (N := 10) hx hb htu hinX5 hown hK hP 0 rfl rfl 5 (by decide) k_1_164 (fun _ h9 => h9) rfl dX5_isWord_43 ?_
              refine lv_icmp_ge (tgt := 76) hx hb dX5_isWord_46 (by decide) (fun c22 => ?_) (fun c22 => ?_)
              · have hf := it_t hf c22
                exact hJ17 hf H locs hP hD hS _ (lv_sub hl [] rfl)
              · have hf := it_f hf c22
                refine lv_aload_n hx hb dX5_isWord_49 rfl (lv_at hl 0 rfl) ?_
                refine va_get (D := g.1) (ci := 5) (fs := fcD bD qD0 vD) (v := .ref (bD 4)) (C := RX5) (T := TX5) (N := 10) hx hb htu hinX5 hown hK hP 0 rfl rfl 3 (by decide) k_1_162 (fun _ h9 => h9) rfl dX5_isWord_50 ?_
                refine lv_aload_n hx hb dX5_isWord_53 rfl (lv_at hl 0 rfl) ?_
                refine va_get (D := g.1) (ci := 5) (fs := fcD bD qD0 vD) (v := .int (vD.1 8)) (C := RX5) (T := TX5) (N := 10) hx hb htu hinX5 hown hK hP 0 rfl rfl 8 (by decide) k_1_167 (fun _ h9 => h9) rfl dX5_isWord_54 ?_
                refine lv_iload_n hx hb dX5_isWord_57 rfl (lv_at hl 2 rfl) ?_
                refine lv_iadd hx hb dX5_isWord_58 ?_
                obtain ⟨h23, hf⟩ := gd_in hf
                refine va_iald (D := g.1) (f := (vD.2.1 3)) hx hb hK hP 1 0 rfl rfl h23 dX5_isWord_59 ?_
                refine lv_aload_n hx hb dX5_isWord_60 rfl (lv_at hl 1 rfl) ?_
                refine lv_iload_n hx hb dX5_isWord_61 rfl (lv_at hl 2 rfl) ?_
                obtain ⟨r24, hg25, hf⟩ := o1_at hf
                refine k_viS ⟨hx, hb, hml, hown, htu⟩ hK hP hD hS hA hG (c_J0_charAt_5068e l g x2_10 i0 hi0 r24 hg25) (cwV 1 htu (gU_V mw_4_13 hcJ0_charAt_5068e) rfl rfl rfl hdJ0_charAt_5068e ⟨Nat.le_of_ble_eq_true rfl, Nat.le_of_ble_eq_true rfl⟩) (vk_recv hG.2.2.1 hi0 hS) (As := [.int x2_10]) (rest := [.int (vD.2.1 3 (((vD.1 8) + x2_10)).toNatClampNeg)]) rfl rfl hl.1 (Nat.le_of_ble_eq_true rfl) dX5_isWord_62 (k1 := 0) (n1 := 0) rfl rfl ⟨Nat.zero_le _, Nat.zero_le _⟩ (fun H locs hP hD hS => ?_)
                refine lv_icmp_eq (tgt := 70) hx hb dX5_isWord_65 (by decide) (fun c26 => ?_) (fun c26 => ?_)
                · have hf := it_t hf c26
                  refine lv_iinc (v := (x2_10 + (1 : Int32))) (lv' := [(2, .int (x2_10 + (1 : Int32))), (0, .ref (bD 0)), (1, .ref (adK g i0))]) hx hb dX5_isWord_70 hl (k := 2) rfl rfl (by decide) rfl (fun ls hl => ?_)
                  refine lv_goto (tgt := 28) hx hb dX5_isWord_73 (by decide) ?_
                  exact ih13 (x2_10 + (1 : Int32)) hf H locs hP hD hS _ (lv_sub hl [1, 2, 0] rfl)
                · have hf := it_f hf c26
                  refine lv_iconst (v := (0 : Int32)) hx hb dX5_isWord_68 (by decide) ?_
                  obtain ⟨h27, hf⟩ := gd_isB hf
                  have e28 := Option.some.inj hf
                  exact k_zret hx hb hr hlocks hK hP hD hS e28 h27 dX5_isWord_69
        exact hL12 (0 : Int32) hf H locs hP hD hS _ (lv_sub hl [1, 2, 0] rfl)
      · have hf := it_f hf c9
        exact hJ2 hf H locs hP hD hS _ (lv_sub hl [] rfl)
  rw [hH, hlo] at hW
  exact hW
def f_X5_kindOfWord (vD : Vs) : Option (Int32) :=
  o1 (f_X5_isWord vD 3) (fun (r1 : Int32) => if r1 = 0 then o1 (f_X5_isWord vD 18) (fun (r4 : Int32) => if r4 = 0 then o1 (f_X5_isWord vD 14) (fun (r7 : Int32) => if r7 = 0 then o1 (f_X5_isWord vD 15) (fun (r10 : Int32) => if r10 = 0 then o1 (f_X5_isWord vD 26) (fun (r13 : Int32) => if r13 = 0 then o1 (f_X5_isWord vD 25) (fun (r16 : Int32) => if r16 = 0 then o1 (f_X5_isWord vD 16) (fun (r19 : Int32) => if r19 = 0 then o1 (f_X5_isWord vD 6) (fun (r22 : Int32) => if r22 = 0 then o1 (f_X5_isWord vD 13) (fun (r25 : Int32) => jn (fun (t27 : Int32) => some (t27)) (fun k28 => if r25 = 0 then k28 (-1 : Int32) else k28 (8 : Int32))) else some ((7 : Int32))) else some ((6 : Int32))) else some ((5 : Int32))) else some ((4 : Int32))) else some ((3 : Int32))) else some ((2 : Int32))) else some ((1 : Int32))) else some ((0 : Int32)))
abbrev wsX5_kindOfWord : List Cond := .code yX5_kindOfWord cX5_kindOfWord 1 (some .int) :: UW
abbrev rmX5_kindOfWord : Room := { frames := 5, cells := 0, slots := 0, locals := 107 }
set_option maxHeartbeats 4000000 in
set_option maxRecDepth 100000 in
theorem c_X5_kindOfWord (l : Launch) (g : Gx) (bD : Nat → Nat) (qD0 : Nat) (vD : Vs) (r : Int32) (hf : f_X5_kindOfWord vD = some r) : CtI l yX5_kindOfWord wsX5_kindOfWord rmX5_kindOfWord g [.ref (bD 0)] (cD g bD qD0 vD) (cD g bD qD0 vD) r 0 0 := by
  unfold CtI
  intro sz
  refine Met.ofW (cc := cX5_kindOfWord) (maxL := 1) (ret := (some .int)) (by decide) rfl ?_
  intro p e s m args below meth c s₁ B hml hv
  obtain ⟨rfl, hsz, hP, hK, hD0, hG⟩ := hv
  have hx := B.exec
  have hb := B.bytes
  have hr := B.returns
  have hts := atoms_spec (ws := wsX5_kindOfWord) B.pre
  have hown : s.vm.findClass RX5 = some m.cls := findClass_of_methodNamed B.named
  have hlocks := B.notSynchronized
  subst hsz
  have hD := hD0.self (sz := s.heap.size)
  generalize hAe : va_A (cD g bD qD0 vD) s.heap.size = A at hD hG ⊢
  have hA : ∀ q : Nat, s.heap.size ≤ q → A q := fun q h => by rw [← hAe]; exact Or.inr h
  clear hAe hD0
  have hS : va_S A s.heap s.heap [] := va_S.rf
  have hl := lv_entry ([.ref (bD 0)]) (n := 1) (Nat.le_of_ble_eq_true rfl)
  rw [lg_entry_eq]
  generalize (lg_sl ([.ref (bD 0)]) ++ List.replicate (1 - (lg_sl ([.ref (bD 0)])).length) Slot.unset).toArray = ls at hl ⊢
  have hl : lv_has ls 1 [(0, .ref (bD 0))] := hl
  have htu : ∀ w ∈ UW, w.before _ s = true := fun w h => hts w (List.mem_cons_of_mem _ h)
  unfold f_X5_kindOfWord at hf
  obtain ⟨H, hH⟩ : ∃ z, z = s.heap := ⟨_, rfl⟩
  obtain ⟨locs, hlo⟩ : ∃ z : List Loc, z = [] := ⟨_, rfl⟩
  have hS : va_S A s.heap H locs := by rw [hH, hlo]; exact hS
  rw [← hH] at hP
  have hW : W p l e (headSpec wsX5_kindOfWord rmX5_kindOfWord).room s m ([.ref (bD 0)] : List Value).toArray below meth c H locs 0 0 (MQ below (qI g A (cD g bD qD0 vD) r) ([.ref (bD 0)] : List Value).toArray s 0 0 A) (F0 m 0 ls []) := by
    refine lv_aload_n hx hb dX5_kindOfWord_0 rfl (lv_at hl 0 rfl) ?_
    refine va_ldcS hx hb hown (tx := "and") (q := adK g 3) (hG.1.1 ("FaultTests$SetupReader", 172, "and", 3) (List.mem_of_getElem? (i := 13) rfl)) dX5_kindOfWord_1 ?_
    obtain ⟨r1, hg2, hf⟩ := o1_at hf
    refine k_viW ⟨hx, hb, hml, hown, htu⟩ hK hP hD hS hA hG (c_X5_isWord l g bD qD0 vD 3 (by decide) r1 hg2) (cwV 1 htu (gU_V mw_4_8 hcX5_isWord) rfl rfl rfl hdX5_isWord ⟨Nat.le_of_ble_eq_true rfl, Nat.le_of_ble_eq_true rfl⟩) (q0 := 0) (ci := 5) (fs := fcD bD qD0 vD) (q := (RX5, TX5, 10)) rfl rfl rfl (As := [.ref (adK g 3)]) (rest := []) rfl rfl hl.1 (Nat.le_of_ble_eq_true rfl) dX5_kindOfWord_3 (k1 := 0) (n1 := 0) rfl rfl ⟨Nat.zero_le _, Nat.zero_le _⟩ (fun H locs hP hD hS => ?_)
    refine lv_if_eq (tgt := 11) hx hb dX5_kindOfWord_6 (by decide) (fun c3 => ?_) (fun c3 => ?_)
    · have hf := it_t hf c3
      refine lv_aload_n hx hb dX5_kindOfWord_11 rfl (lv_at hl 0 rfl) ?_
      refine va_ldcS hx hb hown (tx := "or") (q := adK g 18) (hG.1.1 ("FaultTests$SetupReader", 174, "or", 18) (List.mem_of_getElem? (i := 14) rfl)) dX5_kindOfWord_12 ?_
      obtain ⟨r4, hg5, hf⟩ := o1_at hf
      refine k_viW ⟨hx, hb, hml, hown, htu⟩ hK hP hD hS hA hG (c_X5_isWord l g bD qD0 vD 18 (by decide) r4 hg5) (cwV 1 htu (gU_V mw_4_8 hcX5_isWord) rfl rfl rfl hdX5_isWord ⟨Nat.le_of_ble_eq_true rfl, Nat.le_of_ble_eq_true rfl⟩) (q0 := 0) (ci := 5) (fs := fcD bD qD0 vD) (q := (RX5, TX5, 10)) rfl rfl rfl (As := [.ref (adK g 18)]) (rest := []) rfl rfl hl.1 (Nat.le_of_ble_eq_true rfl) dX5_kindOfWord_14 (k1 := 0) (n1 := 0) rfl rfl ⟨Nat.zero_le _, Nat.zero_le _⟩ (fun H locs hP hD hS => ?_)
      refine lv_if_eq (tgt := 22) hx hb dX5_kindOfWord_17 (by decide) (fun c6 => ?_) (fun c6 => ?_)
      · have hf := it_t hf c6
        refine lv_aload_n hx hb dX5_kindOfWord_22 rfl (lv_at hl 0 rfl) ?_
        refine va_ldcS hx hb hown (tx := "nand") (q := adK g 14) (hG.1.1 ("FaultTests$SetupReader", 176, "nand", 14) (List.mem_of_getElem? (i := 15) rfl)) dX5_kindOfWord_23 ?_
        obtain ⟨r7, hg8, hf⟩ := o1_at hf
        refine k_viW ⟨hx, hb, hml, hown, htu⟩ hK hP hD hS hA hG (c_X5_isWord l g bD qD0 vD 14 (by decide) r7 hg8) (cwV 1 htu (gU_V mw_4_8 hcX5_isWord) rfl rfl rfl hdX5_isWord ⟨Nat.le_of_ble_eq_true rfl, Nat.le_of_ble_eq_true rfl⟩) (q0 := 0) (ci := 5) (fs := fcD bD qD0 vD) (q := (RX5, TX5, 10)) rfl rfl rfl (As := [.ref (adK g 14)]) (rest := []) rfl rfl hl.1 (Nat.le_of_ble_eq_true rfl) dX5_kindOfWord_25 (k1 := 0) (n1 := 0) rfl rfl ⟨Nat.zero_le _, Nat.zero_le _⟩ (fun H locs hP hD hS => ?_)
        refine lv_if_eq (tgt := 33) hx hb dX5_kindOfWord_28 (by decide) (fun c9 => ?_) (fun c9 => ?_)
        · have hf := it_t hf c9
          refine lv_aload_n hx hb dX5_kindOfWord_33 rfl (lv_at hl 0 rfl) ?_
          refine va_ldcS hx hb hown (tx := "nor") (q := adK g 15) (hG.1.1 ("FaultTests$SetupReader", 178, "nor", 15) (List.mem_of_getElem? (i := 16) rfl)) dX5_kindOfWord_34 ?_
          obtain ⟨r10, hg11, hf⟩ := o1_at hf
          refine k_viW ⟨hx, hb, hml, hown, htu⟩ hK hP hD hS hA hG (c_X5_isWord l g bD qD0 vD 15 (by decide) r10 hg11) (cwV 1 htu (gU_V mw_4_8 hcX5_isWord) rfl rfl rfl hdX5_isWord ⟨Nat.le_of_ble_eq_true rfl, Nat.le_of_ble_eq_true rfl⟩) (q0 := 0) (ci := 5) (fs := fcD bD qD0 vD) (q := (RX5, TX5, 10)) rfl rfl rfl (As := [.ref (adK g 15)]) (rest := []) rfl rfl hl.1 (Nat.le_of_ble_eq_true rfl) dX5_kindOfWord_36 (k1 := 0) (n1 := 0) rfl rfl ⟨Nat.zero_le _, Nat.zero_le _⟩ (fun H locs hP hD hS => ?_)
          refine lv_if_eq (tgt := 44) hx hb dX5_kindOfWord_39 (by decide) (fun c12 => ?_) (fun c12 => ?_)
          · have hf := it_t hf c12
            refine lv_aload_n hx hb dX5_kindOfWord_44 rfl (lv_at hl 0 rfl) ?_
            refine va_ldcS hx hb hown (tx := "xor") (q := adK g 26) (hG.1.1 ("FaultTests$SetupReader", 180, "xor", 26) (List.mem_of_getElem? (i := 17) rfl)) dX5_kindOfWord_45 ?_
            obtain ⟨r13, hg14, hf⟩ := o1_at hf
            refine k_viW ⟨hx, hb, hml, hown, htu⟩ hK hP hD hS hA hG (c_X5_isWord l g bD qD0 vD 26 (by decide) r13 hg14) (cwV 1 htu (gU_V mw_4_8 hcX5_isWord) rfl rfl rfl hdX5_isWord ⟨Nat.le_of_ble_eq_true rfl, Nat.le_of_ble_eq_true rfl⟩) (q0 := 0) (ci := 5) (fs := fcD bD qD0 vD) (q := (RX5, TX5, 10)) rfl rfl rfl (As := [.ref (adK g 26)]) (rest := []) rfl rfl hl.1 (Nat.le_of_ble_eq_true rfl) dX5_kindOfWord_47 (k1 := 0) (n1 := 0) rfl rfl ⟨Nat.zero_le _, Nat.zero_le _⟩ (fun H locs hP hD hS => ?_)
            refine lv_if_eq (tgt := 55) hx hb dX5_kindOfWord_50 (by decide) (fun c15 => ?_) (fun c15 => ?_)
            · have hf := it_t hf c15
              refine lv_aload_n hx hb dX5_kindOfWord_55 rfl (lv_at hl 0 rfl) ?_
              refine va_ldcS hx hb hown (tx := "xnor") (q := adK g 25) (hG.1.1 ("FaultTests$SetupReader", 182, "xnor", 25) (List.mem_of_getElem? (i := 18) rfl)) dX5_kindOfWord_56 ?_
              obtain ⟨r16, hg17, hf⟩ := o1_at hf
              refine k_viW ⟨hx, hb, hml, hown, htu⟩ hK hP hD hS hA hG (c_X5_isWord l g bD qD0 vD 25 (by decide) r16 hg17) (cwV 1 htu (gU_V mw_4_8 hcX5_isWord) rfl rfl rfl hdX5_isWord ⟨Nat.le_of_ble_eq_true rfl, Nat.le_of_ble_eq_true rfl⟩) (q0 := 0) (ci := 5) (fs := fcD bD qD0 vD) (q := (RX5, TX5, 10)) rfl rfl rfl (As := [.ref (adK g 25)]) (rest := []) rfl rfl hl.1 (Nat.le_of_ble_eq_true rfl) dX5_kindOfWord_58 (k1 := 0) (n1 := 0) rfl rfl ⟨Nat.zero_le _, Nat.zero_le _⟩ (fun H locs hP hD hS => ?_)
              refine lv_if_eq (tgt := 66) hx hb dX5_kindOfWord_61 (by decide) (fun c18 => ?_) (fun c18 => ?_)
              · have hf := it_t hf c18
                refine lv_aload_n hx hb dX5_kindOfWord_66 rfl (lv_at hl 0 rfl) ?_
                refine va_ldcS hx hb hown (tx := "not") (q := adK g 16) (hG.1.1 ("FaultTests$SetupReader", 184, "not", 16) (List.mem_of_getElem? (i := 19) rfl)) dX5_kindOfWord_67 ?_
                obtain ⟨r19, hg20, hf⟩ := o1_at hf
                refine k_viW ⟨hx, hb, hml, hown, htu⟩ hK hP hD hS hA hG (c_X5_isWord l g bD qD0 vD 16 (by decide) r19 hg20) (cwV 1 htu (gU_V mw_4_8 hcX5_isWord) rfl rfl rfl hdX5_isWord ⟨Nat.le_of_ble_eq_true rfl, Nat.le_of_ble_eq_true rfl⟩) (q0 := 0) (ci := 5) (fs := fcD bD qD0 vD) (q := (RX5, TX5, 10)) rfl rfl rfl (As := [.ref (adK g 16)]) (rest := []) rfl rfl hl.1 (Nat.le_of_ble_eq_true rfl) dX5_kindOfWord_69 (k1 := 0) (n1 := 0) rfl rfl ⟨Nat.zero_le _, Nat.zero_le _⟩ (fun H locs hP hD hS => ?_)
                refine lv_if_eq (tgt := 78) hx hb dX5_kindOfWord_72 (by decide) (fun c21 => ?_) (fun c21 => ?_)
                · have hf := it_t hf c21
                  refine lv_aload_n hx hb dX5_kindOfWord_78 rfl (lv_at hl 0 rfl) ?_
                  refine va_ldcS hx hb hown (tx := "buf") (q := adK g 6) (hG.1.1 ("FaultTests$SetupReader", 186, "buf", 6) (List.mem_of_getElem? (i := 20) rfl)) dX5_kindOfWord_79 ?_
                  obtain ⟨r22, hg23, hf⟩ := o1_at hf
                  refine k_viW ⟨hx, hb, hml, hown, htu⟩ hK hP hD hS hA hG (c_X5_isWord l g bD qD0 vD 6 (by decide) r22 hg23) (cwV 1 htu (gU_V mw_4_8 hcX5_isWord) rfl rfl rfl hdX5_isWord ⟨Nat.le_of_ble_eq_true rfl, Nat.le_of_ble_eq_true rfl⟩) (q0 := 0) (ci := 5) (fs := fcD bD qD0 vD) (q := (RX5, TX5, 10)) rfl rfl rfl (As := [.ref (adK g 6)]) (rest := []) rfl rfl hl.1 (Nat.le_of_ble_eq_true rfl) dX5_kindOfWord_81 (k1 := 0) (n1 := 0) rfl rfl ⟨Nat.zero_le _, Nat.zero_le _⟩ (fun H locs hP hD hS => ?_)
                  refine lv_if_eq (tgt := 90) hx hb dX5_kindOfWord_84 (by decide) (fun c24 => ?_) (fun c24 => ?_)
                  · have hf := it_t hf c24
                    refine lv_aload_n hx hb dX5_kindOfWord_90 rfl (lv_at hl 0 rfl) ?_
                    refine va_ldcS hx hb hown (tx := "mux") (q := adK g 13) (hG.1.1 ("FaultTests$SetupReader", 188, "mux", 13) (List.mem_of_getElem? (i := 21) rfl)) dX5_kindOfWord_91 ?_
                    obtain ⟨r25, hg26, hf⟩ := o1_at hf
                    refine k_viW ⟨hx, hb, hml, hown, htu⟩ hK hP hD hS hA hG (c_X5_isWord l g bD qD0 vD 13 (by decide) r25 hg26) (cwV 1 htu (gU_V mw_4_8 hcX5_isWord) rfl rfl rfl hdX5_isWord ⟨Nat.le_of_ble_eq_true rfl, Nat.le_of_ble_eq_true rfl⟩) (q0 := 0) (ci := 5) (fs := fcD bD qD0 vD) (q := (RX5, TX5, 10)) rfl rfl rfl (As := [.ref (adK g 13)]) (rest := []) rfl rfl hl.1 (Nat.le_of_ble_eq_true rfl) dX5_kindOfWord_93 (k1 := 0) (n1 := 0) rfl rfl ⟨Nat.zero_le _, Nat.zero_le _⟩ (fun H locs hP hD hS => ?_)
                    obtain ⟨k28, hk31, hf⟩ := jn_at hf
                    have hJ29 : ∀ (t27 : Int32), k28 t27 = some r → ∀ (H : Heap) (locs : List Loc), va_P g.1 vwCl (cD g bD qD0 vD) H → va_D A (cD g bD qD0 vD) → va_S A s.heap H locs → ∀ ls : Array Slot, lv_has ls 1 [] → W p l e (headSpec wsX5_kindOfWord rmX5_kindOfWord).room s m ([.ref (bD 0)] : List Value).toArray below meth c H locs 0 0 (MQ below (qI g A (cD g bD qD0 vD) r) ([.ref (bD 0)] : List Value).toArray s 0 0 A) (F0 m 105 ls [.int t27]) := by
                      intro t27 hf H locs hP hD hS ls hl
                      rw [hk31] at hf
                      dsimp only at hf
                      clear hk31
                      have e30 := Option.some.inj hf
                      exact k_iret hx hb hr hlocks hK hP hD hS e30 dX5_kindOfWord_105
                    refine lv_if_eq (tgt := 104) hx hb dX5_kindOfWord_96 (by decide) (fun c32 => ?_) (fun c32 => ?_)
                    · have hf := it_t hf c32
                      refine lv_iconst (v := (-1 : Int32)) hx hb dX5_kindOfWord_104 (by decide) ?_
                      exact hJ29 (-1 : Int32) hf H locs hP hD hS _ (lv_sub hl [] rfl)
                    · have hf := it_f hf c32
                      refine lv_bipush (v := (8 : Int32)) hx hb dX5_kindOfWord_99 (by decide) ?_
                      refine lv_goto (tgt := 105) hx hb dX5_kindOfWord_101 (by decide) ?_
                      exact hJ29 (8 : Int32) hf H locs hP hD hS _ (lv_sub hl [] rfl)
                  · have hf := it_f hf c24
                    refine lv_bipush (v := (7 : Int32)) hx hb dX5_kindOfWord_87 (by decide) ?_
                    have e33 := Option.some.inj hf
                    exact k_iret hx hb hr hlocks hK hP hD hS e33 dX5_kindOfWord_89
                · have hf := it_f hf c21
                  refine lv_bipush (v := (6 : Int32)) hx hb dX5_kindOfWord_75 (by decide) ?_
                  have e34 := Option.some.inj hf
                  exact k_iret hx hb hr hlocks hK hP hD hS e34 dX5_kindOfWord_77
              · have hf := it_f hf c18
                refine lv_iconst (v := (5 : Int32)) hx hb dX5_kindOfWord_64 (by decide) ?_
                have e35 := Option.some.inj hf
                exact k_iret hx hb hr hlocks hK hP hD hS e35 dX5_kindOfWord_65
            · have hf := it_f hf c15
              refine lv_iconst (v := (4 : Int32)) hx hb dX5_kindOfWord_53 (by decide) ?_
              have e36 := Option.some.inj hf
              exact k_iret hx hb hr hlocks hK hP hD hS e36 dX5_kindOfWord_54
          · have hf := it_f hf c12
            refine lv_iconst (v := (3 : Int32)) hx hb dX5_kindOfWord_42 (by decide) ?_
            have e37 := Option.some.inj hf
            exact k_iret hx hb hr hlocks hK hP hD hS e37 dX5_kindOfWord_43
        · have hf := it_f hf c9
          refine lv_iconst (v := (2 : Int32)) hx hb dX5_kindOfWord_31 (by decide) ?_
          have e38 := Option.some.inj hf
          exact k_iret hx hb hr hlocks hK hP hD hS e38 dX5_kindOfWord_32
      · have hf := it_f hf c6
        refine lv_iconst (v := (1 : Int32)) hx hb dX5_kindOfWord_20 (by decide) ?_
        have e39 := Option.some.inj hf
        exact k_iret hx hb hr hlocks hK hP hD hS e39 dX5_kindOfWord_21
    · have hf := it_f hf c3
      refine lv_iconst (v := (0 : Int32)) hx hb dX5_kindOfWord_9 (by decide) ?_
      have e40 := Option.some.inj hf
      exact k_iret hx hb hr hlocks hK hP hD hS e40 dX5_kindOfWord_10
  rw [hH, hlo] at hW
  exact hW
def f_X5_readSemicolon (vD : Vs) : Option (Int32 × Vs) :=
  if (vD.1 7) = (3 : Int32) then o1 (f_X5_advance vD) (fun (vD_2 : Vs) => gd (isB (1 : Int32)) (some ((1 : Int32), vD_2))) else o2 (f_X5_fail vD (-2 : Int32)) (fun (r7 : Int32) (vD_8 : Vs) => gd (isB r7) (some (r7, vD_8)))
abbrev wsX5_readSemicolon : List Cond := .code yX5_readSemicolon cX5_readSemicolon 1 (some .boolean) :: UW
abbrev rmX5_readSemicolon : Room := { frames := 2, cells := 0, slots := 0, locals := 44 }
set_option maxHeartbeats 4000000 in
set_option maxRecDepth 100000 in
theorem c_X5_readSemicolon (l : Launch) (g : Gx) (bD : Nat → Nat) (qD0 : Nat) (vD : Vs) (r : Int32) (vD1 : Vs) (hf : f_X5_readSemicolon vD = some (r, vD1)) : CtI l yX5_readSemicolon wsX5_readSemicolon rmX5_readSemicolon g [.ref (bD 0)] (cD g bD qD0 vD) (cD g bD qD0 vD1) r 0 0 := by
  unfold CtI
  intro sz
  refine Met.ofW (cc := cX5_readSemicolon) (maxL := 1) (ret := (some .boolean)) (by decide) rfl ?_
  intro p e s m args below meth c s₁ B hml hv
  obtain ⟨rfl, hsz, hP, hK, hD0, hG⟩ := hv
  have hx := B.exec
  have hb := B.bytes
  have hr := B.returns
  have hts := atoms_spec (ws := wsX5_readSemicolon) B.pre
  have hown : s.vm.findClass RX5 = some m.cls := findClass_of_methodNamed B.named
  have hlocks := B.notSynchronized
  subst hsz
  have hD := hD0.self (sz := s.heap.size)
  generalize hAe : va_A (cD g bD qD0 vD) s.heap.size = A at hD hG ⊢
  have hA : ∀ q : Nat, s.heap.size ≤ q → A q := fun q h => by rw [← hAe]; exact Or.inr h
  clear hAe hD0
  have hS : va_S A s.heap s.heap [] := va_S.rf
  have hl := lv_entry ([.ref (bD 0)]) (n := 1) (Nat.le_of_ble_eq_true rfl)
  rw [lg_entry_eq]
  generalize (lg_sl ([.ref (bD 0)]) ++ List.replicate (1 - (lg_sl ([.ref (bD 0)])).length) Slot.unset).toArray = ls at hl ⊢
  have hl : lv_has ls 1 [(0, .ref (bD 0))] := hl
  have htu : ∀ w ∈ UW, w.before _ s = true := fun w h => hts w (List.mem_cons_of_mem _ h)
  have k_1_166 := htu _ mw_1_166
  unfold f_X5_readSemicolon at hf
  obtain ⟨H, hH⟩ : ∃ z, z = s.heap := ⟨_, rfl⟩
  obtain ⟨locs, hlo⟩ : ∃ z : List Loc, z = [] := ⟨_, rfl⟩
  have hS : va_S A s.heap H locs := by rw [hH, hlo]; exact hS
  rw [← hH] at hP
  have hW : W p l e (headSpec wsX5_readSemicolon rmX5_readSemicolon).room s m ([.ref (bD 0)] : List Value).toArray below meth c H locs 0 0 (MQ below (qI g A (cD g bD qD0 vD1) r) ([.ref (bD 0)] : List Value).toArray s 0 0 A) (F0 m 0 ls []) := by
    refine lv_aload_n hx hb dX5_readSemicolon_0 rfl (lv_at hl 0 rfl) ?_
    refine va_get (D := g.1) (ci := 5) (fs := fcD bD qD0 vD) (v := .int (vD.1 7)) (C := RX5) (T := TX5) (N := 10) hx hb htu hinX5 hown hK hP 0 rfl rfl 7 (by decide) k_1_166 (fun _ h9 => h9) rfl dX5_readSemicolon_1 ?_
    refine lv_iconst (v := (3 : Int32)) hx hb dX5_readSemicolon_4 (by decide) ?_
    refine lv_icmp_eq (tgt := 15) hx hb dX5_readSemicolon_5 (by decide) (fun c1 => ?_) (fun c1 => ?_)
    · have hf := it_t hf c1
      refine lv_aload_n hx hb dX5_readSemicolon_15 rfl (lv_at hl 0 rfl) ?_
      obtain ⟨vD_2, hg3, hf⟩ := o1_at hf
      refine k_vvW ⟨hx, hb, hml, hown, htu⟩ hK hP hD hS hA hG (c_X5_advance l g bD qD0 vD vD_2 hg3) (cwV 0 htu (gU_V mw_3_232 hcX5_advance) rfl rfl rfl hdX5_advance ⟨Nat.le_of_ble_eq_true rfl, Nat.le_of_ble_eq_true rfl⟩) (q0 := 0) (ci := 5) (fs := fcD bD qD0 vD) (q := (RX5, TX5, 10)) rfl rfl rfl (As := []) (rest := []) rfl rfl hl.1 (Nat.le_of_ble_eq_true rfl) dX5_readSemicolon_16 (k1 := 0) (n1 := 0) rfl rfl ⟨Nat.zero_le _, Nat.zero_le _⟩ (fun H locs hP hD hS => ?_)
      refine lv_iconst (v := (1 : Int32)) hx hb dX5_readSemicolon_19 (by decide) ?_
      obtain ⟨h4, hf⟩ := gd_isB hf
      obtain ⟨e5, e6⟩ := kp_2 hf
      rw [e6] at hP hD
      exact k_zret hx hb hr hlocks hK hP hD hS e5 h4 dX5_readSemicolon_20
    · have hf := it_f hf c1
      refine lv_aload_n hx hb dX5_readSemicolon_8 rfl (lv_at hl 0 rfl) ?_
      refine lv_bipush (v := (-2 : Int32)) hx hb dX5_readSemicolon_9 (by decide) ?_
      obtain ⟨r7, vD_8, hg9, hf⟩ := o2_at hf
      refine k_viW ⟨hx, hb, hml, hown, htu⟩ hK hP hD hS hA hG (c_X5_fail l g bD qD0 vD (-2 : Int32) r7 vD_8 hg9) (cwV 1 htu (gU_V mw_4_14 hcX5_fail) rfl rfl rfl hdX5_fail ⟨Nat.le_of_ble_eq_true rfl, Nat.le_of_ble_eq_true rfl⟩) (q0 := 0) (ci := 5) (fs := fcD bD qD0 vD) (q := (RX5, TX5, 10)) rfl rfl rfl (As := [.int (-2 : Int32)]) (rest := []) rfl rfl hl.1 (Nat.le_of_ble_eq_true rfl) dX5_readSemicolon_11 (k1 := 0) (n1 := 0) rfl rfl ⟨Nat.zero_le _, Nat.zero_le _⟩ (fun H locs hP hD hS => ?_)
      obtain ⟨h10, hf⟩ := gd_isB hf
      obtain ⟨e11, e12⟩ := kp_2 hf
      rw [e12] at hP hD
      exact k_zret hx hb hr hlocks hK hP hD hS e11 h10 dX5_readSemicolon_14
  rw [hH, hlo] at hW
  exact hW
def f_X5_readGate_L56 (r6 : Int32) (self17 : Int32 → Int32 → Vs → Vs → Option (Int32 × Vs × Vs)) (x3_13 : Int32) (x4_14 : Int32) (vD_15 : Vs) (vC_16 : Vs) : Option (Int32 × Vs × Vs) :=
  gd (inb r6 9) (jn (gd (inb r6 9) (if (fewI (r6).toNatClampNeg) ≤ x3_13 then o1 (f_X0_endGate vC_16) (fun (vC_25 : Vs) => o2 (f_X5_readSemicolon vD_15) (fun (r27 : Int32) (vD_28 : Vs) => gd (isB r27) (some (r27, vD_28, vC_25)))) else o2 (f_X5_fail vD_15 (-2 : Int32)) (fun (r34 : Int32) (vD_35 : Vs) => gd (isB r34) (some (r34, vD_35, vC_16))))) (fun k21 => if (mostI (r6).toNatClampNeg) ≤ x4_14 then k21 else if (vD_15.1 7) = (2 : Int32) then if (vD_15.1 9) < (vC_16.1 1) then o1 (f_X0_putOperand vC_16 (vD_15.1 9)) (fun (vC_45 : Vs) => o1 (f_X5_advance vD_15) (fun (vD_47 : Vs) => self17 (x3_13 + (1 : Int32)) (x4_14 + (1 : Int32)) vD_47 vC_45)) else o2 (f_X5_fail vD_15 (-3 : Int32)) (fun (r49 : Int32) (vD_50 : Vs) => gd (isB r49) (some (r49, vD_50, vC_16))) else k21))
def f_X5_readGate (vD : Vs) (vC : Vs) (vT : Vs) : Option (Int32 × Vs × Vs) :=
  o1 (f_X0_isFullOfGates vC) (fun (r1 : Int32) => if r1 = 0 then o1 (f_X5_advance vD) (fun (vD_4 : Vs) => o1 (f_X5_kindOfWord vD_4) (fun (r6 : Int32) => if 0 ≤ r6 then o1 (f_X0_startGate vC r6) (fun (vC_9 : Vs) => o1 (f_X5_advance vD_4) (fun (vD_11 : Vs) => lp (f_X5_readGate_L56 r6) (fun _ _ _ _ => none) FU (0 : Int32) (0 : Int32) vD_11 vC_9)) else o2 (f_X5_fail vD_4 (-2 : Int32)) (fun (r56 : Int32) (vD_57 : Vs) => gd (isB r56) (some (r56, vD_57, vC))))) else o2 (f_X5_fail vD (-6 : Int32)) (fun (r63 : Int32) (vD_64 : Vs) => gd (isB r63) (some (r63, vD_64, vC))))
abbrev wsX5_readGate : List Cond := .code yX5_readGate cX5_readGate 5 (some .boolean) :: UW
abbrev rmX5_readGate : Room := { frames := 6, cells := 0, slots := 0, locals := 127 }
set_option maxHeartbeats 4000000 in
set_option maxRecDepth 100000 in
theorem c_X5_readGate (l : Launch) (g : Gx) (bD : Nat → Nat) (vD : Vs) (bS : Nat → Nat) (bC : Nat → Nat) (vC : Vs) (bT : Nat → Nat) (vT : Vs) (r : Int32) (vD1 : Vs) (vC1 : Vs) (hf : f_X5_readGate vD vC vT = some (r, vD1, vC1)) : CtI l yX5_readGate wsX5_readGate rmX5_readGate g [.ref (bD 0)] (cD g bD (bS 0) vD ++ (cS g bS (bC 0) (bT 0) ++ (cC g bC vC ++ (cT g bT vT)))) (cD g bD (bS 0) vD1 ++ (cS g bS (bC 0) (bT 0) ++ (cC g bC vC1 ++ (cT g bT vT)))) r 0 0 := by
  unfold CtI
  intro sz
  refine Met.ofW (cc := cX5_readGate) (maxL := 5) (ret := (some .boolean)) (by decide) rfl ?_
  intro p e s m args below meth c s₁ B hml hv
  obtain ⟨rfl, hsz, hP, hK, hD0, hG⟩ := hv
  have hx := B.exec
  have hb := B.bytes
  have hr := B.returns
  have hts := atoms_spec (ws := wsX5_readGate) B.pre
  have hown : s.vm.findClass RX5 = some m.cls := findClass_of_methodNamed B.named
  have hlocks := B.notSynchronized
  subst hsz
  have hD := hD0.self (sz := s.heap.size)
  generalize hAe : va_A (cD g bD (bS 0) vD ++ (cS g bS (bC 0) (bT 0) ++ (cC g bC vC ++ (cT g bT vT)))) s.heap.size = A at hD hG ⊢
  have hA : ∀ q : Nat, s.heap.size ≤ q → A q := fun q h => by rw [← hAe]; exact Or.inr h
  clear hAe hD0
  have hS : va_S A s.heap s.heap [] := va_S.rf
  have hl := lv_entry ([.ref (bD 0)]) (n := 5) (Nat.le_of_ble_eq_true rfl)
  rw [lg_entry_eq]
  generalize (lg_sl ([.ref (bD 0)]) ++ List.replicate (5 - (lg_sl ([.ref (bD 0)])).length) Slot.unset).toArray = ls at hl ⊢
  have hl : lv_has ls 5 [(0, .ref (bD 0))] := hl
  have htu : ∀ w ∈ UW, w.before _ s = true := fun w h => hts w (List.mem_cons_of_mem _ h)
  have k_1_157 := htu _ mw_1_157
  have k_1_148 := htu _ mw_1_148
  have k_1_166 := htu _ mw_1_166
  have k_1_168 := htu _ mw_1_168
  have k_1_66 := htu _ mw_1_66
  unfold f_X5_readGate at hf
  obtain ⟨H, hH⟩ : ∃ z, z = s.heap := ⟨_, rfl⟩
  obtain ⟨locs, hlo⟩ : ∃ z : List Loc, z = [] := ⟨_, rfl⟩
  have hS : va_S A s.heap H locs := by rw [hH, hlo]; exact hS
  rw [← hH] at hP
  have hW : W p l e (headSpec wsX5_readGate rmX5_readGate).room s m ([.ref (bD 0)] : List Value).toArray below meth c H locs 0 0 (MQ below (qI g A (cD g bD (bS 0) vD1 ++ (cS g bS (bC 0) (bT 0) ++ (cC g bC vC1 ++ (cT g bT vT)))) r) ([.ref (bD 0)] : List Value).toArray s 0 0 A) (F0 m 0 ls []) := by
    refine lv_aload_n hx hb dX5_readGate_0 rfl (lv_at hl 0 rfl) ?_
    refine va_get (D := g.1) (ci := 5) (fs := fcD bD (bS 0) vD) (v := .ref (bS 0)) (C := RX5) (T := TX5) (N := 10) hx hb htu hinX5 hown hK hP 0 rfl rfl 0 (by decide) k_1_157 (fun _ h9 => h9) rfl dX5_readGate_1 ?_
    refine va_get (D := g.1) (ci := 4) (fs := fcS bS (bC 0) (bT 0)) (v := .ref (bC 0)) (C := RX4) (T := TX4) (N := 2) hx hb htu hinX4 hown hK hP 2 rfl rfl 0 (by decide) k_1_148 (fun _ h9 => h9) rfl dX5_readGate_4 ?_
    refine lv_astore_n (lv' := [(1, .ref (bC 0)), (0, .ref (bD 0))]) hx hb dX5_readGate_7 rfl hl (by decide) rfl (fun ls hl => ?_)
    refine lv_aload_n hx hb dX5_readGate_8 rfl (lv_at hl 0 rfl) ?_
    obtain ⟨r1, hg2, hf⟩ := o1_at hf
    refine k_viP ⟨hx, hb, hml, hown, htu⟩ hK hP hD hS hA hG (c_X0_isFullOfGates l g bC vC r1 hg2) (cwV 0 htu (gU_V mw_4_31 hcX0_isFullOfGates) rfl rfl rfl hdX0_isFullOfGates ⟨Nat.le_of_ble_eq_true rfl, Nat.le_of_ble_eq_true rfl⟩) (q0 := 3) (ci := 0) (fs := fcC bC vC) (q := (RX0, TX0, 14)) rfl rfl rfl (wr := (cD g bD (bS 0) vD ++ (cS g bS (bC 0) (bT 0) ++ (cT g bT vT)))) (w2 := cD g bD (bS 0) vD ++ (cS g bS (bC 0) (bT 0) ++ (cC g bC vC ++ (cT g bT vT)))) [3, 4, 5, 6, 7, 8, 9, 10, 11, 12, 13] [0, 1, 2, 14, 15, 16, 17, 18] [0, 1, 2, 8, 9, 10, 11, 12, 13, 14, 15, 16, 17, 18, 3, 4, 5, 6, 7] rfl rfl (by decide) (by decide) (by decide) rfl rfl (by decide) (As := []) (rest := []) rfl rfl hl.1 (Nat.le_of_ble_eq_true rfl) dX5_readGate_9 (k1 := 0) (n1 := 0) rfl rfl ⟨Nat.zero_le _, Nat.zero_le _⟩ (fun H locs hP hD hS => ?_)
    refine lv_if_eq (tgt := 22) hx hb dX5_readGate_12 (by decide) (fun c3 => ?_) (fun c3 => ?_)
    · have hf := it_t hf c3
      refine lv_aload_n hx hb dX5_readGate_22 rfl (lv_at hl 1 rfl) ?_
      obtain ⟨vD_4, hg5, hf⟩ := o1_at hf
      refine k_vvP ⟨hx, hb, hml, hown, htu⟩ hK hP hD hS hA hG (c_X5_advance l g bD (bS 0) vD vD_4 hg5) (cwV 0 htu (gU_V mw_3_232 hcX5_advance) rfl rfl rfl hdX5_advance ⟨Nat.le_of_ble_eq_true rfl, Nat.le_of_ble_eq_true rfl⟩) (q0 := 0) (ci := 5) (fs := fcD bD (bS 0) vD) (q := (RX5, TX5, 10)) rfl rfl rfl (wr := (cS g bS (bC 0) (bT 0) ++ (cC g bC vC ++ (cT g bT vT)))) (w2 := cD g bD (bS 0) vD_4 ++ (cS g bS (bC 0) (bT 0) ++ (cC g bC vC ++ (cT g bT vT)))) [0, 1] [2, 3, 4, 5, 6, 7, 8, 9, 10, 11, 12, 13, 14, 15, 16, 17, 18] [17, 18, 0, 1, 2, 3, 4, 5, 6, 7, 8, 9, 10, 11, 12, 13, 14, 15, 16] rfl rfl (by decide) (by decide) (by decide) rfl rfl (by decide) (As := []) (rest := []) rfl rfl hl.1 (Nat.le_of_ble_eq_true rfl) dX5_readGate_23 (k1 := 0) (n1 := 0) rfl rfl ⟨Nat.zero_le _, Nat.zero_le _⟩ (fun H locs hP hD hS => ?_)
      refine lv_aload_n hx hb dX5_readGate_26 rfl (lv_at hl 1 rfl) ?_
      obtain ⟨r6, hg7, hf⟩ := o1_at hf
      refine k_viP ⟨hx, hb, hml, hown, htu⟩ hK hP hD hS hA hG (c_X5_kindOfWord l g bD (bS 0) vD_4 r6 hg7) (cwV 0 htu (gU_V mw_4_35 hcX5_kindOfWord) rfl rfl rfl hdX5_kindOfWord ⟨Nat.le_of_ble_eq_true rfl, Nat.le_of_ble_eq_true rfl⟩) (q0 := 0) (ci := 5) (fs := fcD bD (bS 0) vD_4) (q := (RX5, TX5, 10)) rfl rfl rfl (wr := (cS g bS (bC 0) (bT 0) ++ (cC g bC vC ++ (cT g bT vT)))) (w2 := cD g bD (bS 0) vD_4 ++ (cS g bS (bC 0) (bT 0) ++ (cC g bC vC ++ (cT g bT vT)))) [0, 1] [2, 3, 4, 5, 6, 7, 8, 9, 10, 11, 12, 13, 14, 15, 16, 17, 18] [17, 18, 0, 1, 2, 3, 4, 5, 6, 7, 8, 9, 10, 11, 12, 13, 14, 15, 16] rfl rfl (by decide) (by decide) (by decide) rfl rfl (by decide) (As := []) (rest := []) rfl rfl hl.1 (Nat.le_of_ble_eq_true rfl) dX5_readGate_27 (k1 := 0) (n1 := 0) rfl rfl ⟨Nat.zero_le _, Nat.zero_le _⟩ (fun H locs hP hD hS => ?_)
      refine lv_istore_n (lv' := [(2, .int r6), (1, .ref (bC 0)), (0, .ref (bD 0))]) hx hb dX5_readGate_30 rfl hl (by decide) rfl (fun ls hl => ?_)
      refine lv_iload_n hx hb dX5_readGate_31 rfl (lv_at hl 0 rfl) ?_
      refine lv_if_ge (tgt := 42) hx hb dX5_readGate_32 (by decide) (fun c8 => ?_) (fun c8 => ?_)
      · have hf := it_t hf c8
        refine lv_aload_n hx hb dX5_readGate_42 rfl (lv_at hl 1 rfl) ?_
        refine lv_iload_n hx hb dX5_readGate_43 rfl (lv_at hl 0 rfl) ?_
        obtain ⟨vC_9, hg10, hf⟩ := o1_at hf
        refine k_vvP ⟨hx, hb, hml, hown, htu⟩ hK hP hD hS hA hG (c_X0_startGate l g bC vC r6 vC_9 hg10) (cwV 1 htu (gU_V mw_4_48 hcX0_startGate) rfl rfl rfl hdX0_startGate ⟨Nat.le_of_ble_eq_true rfl, Nat.le_of_ble_eq_true rfl⟩) (q0 := 3) (ci := 0) (fs := fcC bC vC) (q := (RX0, TX0, 14)) rfl rfl rfl (wr := (cD g bD (bS 0) vD_4 ++ (cS g bS (bC 0) (bT 0) ++ (cT g bT vT)))) (w2 := cD g bD (bS 0) vD_4 ++ (cS g bS (bC 0) (bT 0) ++ (cC g bC vC_9 ++ (cT g bT vT)))) [3, 4, 5, 6, 7, 8, 9, 10, 11, 12, 13] [0, 1, 2, 14, 15, 16, 17, 18] [0, 1, 2, 8, 9, 10, 11, 12, 13, 14, 15, 16, 17, 18, 3, 4, 5, 6, 7] rfl rfl (by decide) (by decide) (by decide) rfl rfl (by decide) (As := [.int r6]) (rest := []) rfl rfl hl.1 (Nat.le_of_ble_eq_true rfl) dX5_readGate_44 (k1 := 0) (n1 := 0) rfl rfl ⟨Nat.zero_le _, Nat.zero_le _⟩ (fun H locs hP hD hS => ?_)
        refine lv_aload_n hx hb dX5_readGate_47 rfl (lv_at hl 2 rfl) ?_
        obtain ⟨vD_11, hg12, hf⟩ := o1_at hf
        refine k_vvP ⟨hx, hb, hml, hown, htu⟩ hK hP hD hS hA hG (c_X5_advance l g bD (bS 0) vD_4 vD_11 hg12) (cwV 0 htu (gU_V mw_3_232 hcX5_advance) rfl rfl rfl hdX5_advance ⟨Nat.le_of_ble_eq_true rfl, Nat.le_of_ble_eq_true rfl⟩) (q0 := 0) (ci := 5) (fs := fcD bD (bS 0) vD_4) (q := (RX5, TX5, 10)) rfl rfl rfl (wr := (cS g bS (bC 0) (bT 0) ++ (cC g bC vC_9 ++ (cT g bT vT)))) (w2 := cD g bD (bS 0) vD_11 ++ (cS g bS (bC 0) (bT 0) ++ (cC g bC vC_9 ++ (cT g bT vT)))) [0, 1] [2, 3, 4, 5, 6, 7, 8, 9, 10, 11, 12, 13, 14, 15, 16, 17, 18] [17, 18, 0, 1, 2, 3, 4, 5, 6, 7, 8, 9, 10, 11, 12, 13, 14, 15, 16] rfl rfl (by decide) (by decide) (by decide) rfl rfl (by decide) (As := []) (rest := []) rfl rfl hl.1 (Nat.le_of_ble_eq_true rfl) dX5_readGate_48 (k1 := 0) (n1 := 0) rfl rfl ⟨Nat.zero_le _, Nat.zero_le _⟩ (fun H locs hP hD hS => ?_)
        refine lv_iconst (v := (0 : Int32)) hx hb dX5_readGate_51 (by decide) ?_
        refine lv_istore_n (lv' := [(3, .int (0 : Int32)), (2, .int r6), (1, .ref (bC 0)), (0, .ref (bD 0))]) hx hb dX5_readGate_52 rfl hl (by decide) rfl (fun ls hl => ?_)
        refine lv_iconst (v := (0 : Int32)) hx hb dX5_readGate_53 (by decide) ?_
        refine lv_istore (lv' := [(4, .int (0 : Int32)), (3, .int (0 : Int32)), (2, .int r6), (1, .ref (bC 0)), (0, .ref (bD 0))]) hx hb dX5_readGate_54 hl (by decide) rfl (fun ls hl => ?_)
        have hL18 : ∀ (x3_13 : Int32) (x4_14 : Int32) (vD_15 : Vs) (vC_16 : Vs), lp (f_X5_readGate_L56 r6) (fun _ _ _ _ => none) FU x3_13 x4_14 vD_15 vC_16 = some (r, vD1, vC1) → ∀ (H : Heap) (locs : List Loc), va_P g.1 vwCl (cD g bD (bS 0) vD_15 ++ (cS g bS (bC 0) (bT 0) ++ (cC g bC vC_16 ++ (cT g bT vT)))) H → va_D A (cD g bD (bS 0) vD_15 ++ (cS g bS (bC 0) (bT 0) ++ (cC g bC vC_16 ++ (cT g bT vT)))) → va_S A s.heap H locs → ∀ ls : Array Slot, lv_has ls 5 [(0, .ref (bD 0)), (1, .ref (bC 0)), (2, .int r6), (3, .int x3_13), (4, .int x4_14)] → W p l e (headSpec wsX5_readGate rmX5_readGate).room s m ([.ref (bD 0)] : List Value).toArray below meth c H locs 0 0 (MQ below (qI g A (cD g bD (bS 0) vD1 ++ (cS g bS (bC 0) (bT 0) ++ (cC g bC vC1 ++ (cT g bT vT)))) r) ([.ref (bD 0)] : List Value).toArray s 0 0 A) (F0 m 56 ls []) := by
          refine lp_ind (T := Int32 → Int32 → Vs → Vs → Option (Int32 × Vs × Vs)) (fun self17 => ∀ (x3_13 : Int32) (x4_14 : Int32) (vD_15 : Vs) (vC_16 : Vs), self17 x3_13 x4_14 vD_15 vC_16 = some (r, vD1, vC1) → ∀ (H : Heap) (locs : List Loc), va_P g.1 vwCl (cD g bD (bS 0) vD_15 ++ (cS g bS (bC 0) (bT 0) ++ (cC g bC vC_16 ++ (cT g bT vT)))) H → va_D A (cD g bD (bS 0) vD_15 ++ (cS g bS (bC 0) (bT 0) ++ (cC g bC vC_16 ++ (cT g bT vT)))) → va_S A s.heap H locs → ∀ ls : Array Slot, lv_has ls 5 [(0, .ref (bD 0)), (1, .ref (bC 0)), (2, .int r6), (3, .int x3_13), (4, .int x4_14)] → W p l e (headSpec wsX5_readGate rmX5_readGate).room s m ([.ref (bD 0)] : List Value).toArray below meth c H locs 0 0 (MQ below (qI g A (cD g bD (bS 0) vD1 ++ (cS g bS (bC 0) (bT 0) ++ (cC g bC vC1 ++ (cT g bT vT)))) r) ([.ref (bD 0)] : List Value).toArray s 0 0 A) (F0 m 56 ls [])) ?_ ?_ FU
          · intro x3_13 x4_14 vD_15 vC_16 hf; cases hf
          · intro self17 ih19 x3_13 x4_14 vD_15 vC_16 hf H locs hP hD hS ls hl
            unfold f_X5_readGate_L56 at hf
            refine lv_iload hx hb dX5_readGate_56 (lv_at hl 4 rfl) ?_
            refine va_getsN (v := .ref (adS g 2)) hx hb hG.2.2.2.2.2.2.1 hS hown (va_Nw.use rfl (hG.1.2.1 _ (List.mem_of_getElem? (i := 7) rfl))) (fun _ h9 => h9) dX5_readGate_58 ?_
            refine lv_iload_n hx hb dX5_readGate_61 rfl (lv_at hl 2 rfl) ?_
            obtain ⟨h20, hf⟩ := gd_in hf
            refine va_ti (v := .int (mostI (r6).toNatClampNeg)) hx hb hG.2.2.2.2.2.2.2 hS h20 rfl dX5_readGate_62 ?_
            obtain ⟨k21, hk41, hf⟩ := jn_at hf
            have hJ22 : k21 = some (r, vD1, vC1) → ∀ (H : Heap) (locs : List Loc), va_P g.1 vwCl (cD g bD (bS 0) vD_15 ++ (cS g bS (bC 0) (bT 0) ++ (cC g bC vC_16 ++ (cT g bT vT)))) H → va_D A (cD g bD (bS 0) vD_15 ++ (cS g bS (bC 0) (bT 0) ++ (cC g bC vC_16 ++ (cT g bT vT)))) → va_S A s.heap H locs → ∀ ls : Array Slot, lv_has ls 5 [(0, .ref (bD 0)), (1, .ref (bC 0)), (2, .int r6), (3, .int x3_13)] → W p l e (headSpec wsX5_readGate rmX5_readGate).room s m ([.ref (bD 0)] : List Value).toArray below meth c H locs 0 0 (MQ below (qI g A (cD g bD (bS 0) vD1 ++ (cS g bS (bC 0) (bT 0) ++ (cC g bC vC1 ++ (cT g bT vT)))) r) ([.ref (bD 0)] : List Value).toArray s 0 0 A) (F0 m 113 ls []) := by
              intro hf H locs hP hD hS ls hl
              rw [hk41] at hf
              clear hk41
              refine lv_iload_n hx hb dX5_readGate_113 rfl (lv_at hl 3 rfl) ?_
              refine va_getsN (v := .ref (adS g 1)) hx hb hG.2.2.2.2.2.1.1 hS hown (va_Nw.use rfl (hG.1.2.1 _ (List.mem_of_getElem? (i := 8) rfl))) (fun _ h9 => h9) dX5_readGate_114 ?_
              refine lv_iload_n hx hb dX5_readGate_117 rfl (lv_at hl 2 rfl) ?_
              obtain ⟨h23, hf⟩ := gd_in hf
              refine va_ti (v := .int (fewI (r6).toNatClampNeg)) hx hb hG.2.2.2.2.2.1.2 hS h23 rfl dX5_readGate_118 ?_
              refine lv_icmp_ge (tgt := 129) hx hb dX5_readGate_119 (by decide) (fun c24 => ?_) (fun c24 => ?_)
              · have hf := it_t hf c24
                refine lv_aload_n hx hb dX5_readGate_129 rfl (lv_at hl 1 rfl) ?_
                obtain ⟨vC_25, hg26, hf⟩ := o1_at hf
                refine k_vvP ⟨hx, hb, hml, hown, htu⟩ hK hP hD hS hA hG (c_X0_endGate l g bC vC_16 vC_25 hg26) (cwV 0 htu (gU_V mw_4_60 hcX0_endGate) rfl rfl rfl hdX0_endGate ⟨Nat.le_of_ble_eq_true rfl, Nat.le_of_ble_eq_true rfl⟩) (q0 := 3) (ci := 0) (fs := fcC bC vC_16) (q := (RX0, TX0, 14)) rfl rfl rfl (wr := (cD g bD (bS 0) vD_15 ++ (cS g bS (bC 0) (bT 0) ++ (cT g bT vT)))) (w2 := cD g bD (bS 0) vD_15 ++ (cS g bS (bC 0) (bT 0) ++ (cC g bC vC_25 ++ (cT g bT vT)))) [3, 4, 5, 6, 7, 8, 9, 10, 11, 12, 13] [0, 1, 2, 14, 15, 16, 17, 18] [0, 1, 2, 8, 9, 10, 11, 12, 13, 14, 15, 16, 17, 18, 3, 4, 5, 6, 7] rfl rfl (by decide) (by decide) (by decide) rfl rfl (by decide) (As := []) (rest := []) rfl rfl hl.1 (Nat.le_of_ble_eq_true rfl) dX5_readGate_130 (k1 := 0) (n1 := 0) rfl rfl ⟨Nat.zero_le _, Nat.zero_le _⟩ (fun H locs hP hD hS => ?_)
                refine lv_aload_n hx hb dX5_readGate_133 rfl (lv_at hl 0 rfl) ?_
                obtain ⟨r27, vD_28, hg29, hf⟩ := o2_at hf
                refine k_viP ⟨hx, hb, hml, hown, htu⟩ hK hP hD hS hA hG (c_X5_readSemicolon l g bD (bS 0) vD_15 r27 vD_28 hg29) (cwV 0 htu (gU_V mw_4_18 hcX5_readSemicolon) rfl rfl rfl hdX5_readSemicolon ⟨Nat.le_of_ble_eq_true rfl, Nat.le_of_ble_eq_true rfl⟩) (q0 := 0) (ci := 5) (fs := fcD bD (bS 0) vD_15) (q := (RX5, TX5, 10)) rfl rfl rfl (wr := (cS g bS (bC 0) (bT 0) ++ (cC g bC vC_25 ++ (cT g bT vT)))) (w2 := cD g bD (bS 0) vD_28 ++ (cS g bS (bC 0) (bT 0) ++ (cC g bC vC_25 ++ (cT g bT vT)))) [0, 1] [2, 3, 4, 5, 6, 7, 8, 9, 10, 11, 12, 13, 14, 15, 16, 17, 18] [17, 18, 0, 1, 2, 3, 4, 5, 6, 7, 8, 9, 10, 11, 12, 13, 14, 15, 16] rfl rfl (by decide) (by decide) (by decide) rfl rfl (by decide) (As := []) (rest := []) rfl rfl hl.1 (Nat.le_of_ble_eq_true rfl) dX5_readGate_134 (k1 := 0) (n1 := 0) rfl rfl ⟨Nat.zero_le _, Nat.zero_le _⟩ (fun H locs hP hD hS => ?_)
                obtain ⟨h30, hf⟩ := gd_isB hf
                obtain ⟨e31, e32, e33⟩ := kp_3 hf
                rw [e32] at hP hD
                rw [e33] at hP hD
                exact k_zret hx hb hr hlocks hK hP hD hS e31 h30 dX5_readGate_137
              · have hf := it_f hf c24
                refine lv_aload_n hx hb dX5_readGate_122 rfl (lv_at hl 0 rfl) ?_
                refine lv_bipush (v := (-2 : Int32)) hx hb dX5_readGate_123 (by decide) ?_
                obtain ⟨r34, vD_35, hg36, hf⟩ := o2_at hf
                refine k_viP ⟨hx, hb, hml, hown, htu⟩ hK hP hD hS hA hG (c_X5_fail l g bD (bS 0) vD_15 (-2 : Int32) r34 vD_35 hg36) (cwV 1 htu (gU_V mw_4_14 hcX5_fail) rfl rfl rfl hdX5_fail ⟨Nat.le_of_ble_eq_true rfl, Nat.le_of_ble_eq_true rfl⟩) (q0 := 0) (ci := 5) (fs := fcD bD (bS 0) vD_15) (q := (RX5, TX5, 10)) rfl rfl rfl (wr := (cS g bS (bC 0) (bT 0) ++ (cC g bC vC_16 ++ (cT g bT vT)))) (w2 := cD g bD (bS 0) vD_35 ++ (cS g bS (bC 0) (bT 0) ++ (cC g bC vC_16 ++ (cT g bT vT)))) [0, 1] [2, 3, 4, 5, 6, 7, 8, 9, 10, 11, 12, 13, 14, 15, 16, 17, 18] [17, 18, 0, 1, 2, 3, 4, 5, 6, 7, 8, 9, 10, 11, 12, 13, 14, 15, 16] rfl rfl (by decide) (by decide) (by decide) rfl rfl (by decide) (As := [.int (-2 : Int32)]) (rest := []) rfl rfl hl.1 (Nat.le_of_ble_eq_true rfl) dX5_readGate_125 (k1 := 0) (n1 := 0) rfl rfl ⟨Nat.zero_le _, Nat.zero_le _⟩ (fun H locs hP hD hS => ?_)
                obtain ⟨h37, hf⟩ := gd_isB hf
                obtain ⟨e38, e39, e40⟩ := kp_3 hf
                rw [e39] at hP hD
                rw [e40] at hP hD
                exact k_zret hx hb hr hlocks hK hP hD hS e38 h37 dX5_readGate_128
            refine lv_icmp_ge (tgt := 113) hx hb dX5_readGate_63 (by decide) (fun c42 => ?_) (fun c42 => ?_)
            · have hf := it_t hf c42
              exact hJ22 hf H locs hP hD hS _ (lv_sub hl [0, 1, 2, 3] rfl)
            · have hf := it_f hf c42
              refine lv_aload_n hx hb dX5_readGate_66 rfl (lv_at hl 0 rfl) ?_
              refine va_get (D := g.1) (ci := 5) (fs := fcD bD (bS 0) vD_15) (v := .int (vD_15.1 7)) (C := RX5) (T := TX5) (N := 10) hx hb htu hinX5 hown hK hP 0 rfl rfl 7 (by decide) k_1_166 (fun _ h9 => h9) rfl dX5_readGate_67 ?_
              refine lv_iconst (v := (2 : Int32)) hx hb dX5_readGate_70 (by decide) ?_
              refine lv_icmp_ne (tgt := 113) hx hb dX5_readGate_71 (by decide) (fun c43 => ?_) (fun c43 => ?_)
              · have hf := it_f hf c43
                exact hJ22 hf H locs hP hD hS _ (lv_sub hl [0, 1, 2, 3] rfl)
              · have hf := it_t hf c43
                refine lv_aload_n hx hb dX5_readGate_74 rfl (lv_at hl 0 rfl) ?_
                refine va_get (D := g.1) (ci := 5) (fs := fcD bD (bS 0) vD_15) (v := .int (vD_15.1 9)) (C := RX5) (T := TX5) (N := 10) hx hb htu hinX5 hown hK hP 0 rfl rfl 9 (by decide) k_1_168 (fun _ h9 => h9) rfl dX5_readGate_75 ?_
                refine lv_aload_n hx hb dX5_readGate_78 rfl (lv_at hl 1 rfl) ?_
                refine va_get (D := g.1) (ci := 0) (fs := fcC bC vC_16) (v := .int (vC_16.1 1)) (C := RX0) (T := TX0) (N := 14) hx hb htu hinX0 hown hK hP 3 rfl rfl 1 (by decide) k_1_66 (fun _ h9 => h9) rfl dX5_readGate_79 ?_
                refine lv_icmp_lt (tgt := 92) hx hb dX5_readGate_82 (by decide) (fun c44 => ?_) (fun c44 => ?_)
                · have hf := it_t hf c44
                  refine lv_aload_n hx hb dX5_readGate_92 rfl (lv_at hl 1 rfl) ?_
                  refine lv_aload_n hx hb dX5_readGate_93 rfl (lv_at hl 0 rfl) ?_
                  refine va_get (D := g.1) (ci := 5) (fs := fcD bD (bS 0) vD_15) (v := .int (vD_15.1 9)) (C := RX5) (T := TX5) (N := 10) hx hb htu hinX5 hown hK hP 0 rfl rfl 9 (by decide) k_1_168 (fun _ h9 => h9) rfl dX5_readGate_94 ?_
                  obtain ⟨vC_45, hg46, hf⟩ := o1_at hf
                  refine k_vvP ⟨hx, hb, hml, hown, htu⟩ hK hP hD hS hA hG (c_X0_putOperand l g bC vC_16 (vD_15.1 9) vC_45 hg46) (cwV 1 htu (gU_V mw_4_54 hcX0_putOperand) rfl rfl rfl hdX0_putOperand ⟨Nat.le_of_ble_eq_true rfl, Nat.le_of_ble_eq_true rfl⟩) (q0 := 3) (ci := 0) (fs := fcC bC vC_16) (q := (RX0, TX0, 14)) rfl rfl rfl (wr := (cD g bD (bS 0) vD_15 ++ (cS g bS (bC 0) (bT 0) ++ (cT g bT vT)))) (w2 := cD g bD (bS 0) vD_15 ++ (cS g bS (bC 0) (bT 0) ++ (cC g bC vC_45 ++ (cT g bT vT)))) [3, 4, 5, 6, 7, 8, 9, 10, 11, 12, 13] [0, 1, 2, 14, 15, 16, 17, 18] [0, 1, 2, 8, 9, 10, 11, 12, 13, 14, 15, 16, 17, 18, 3, 4, 5, 6, 7] rfl rfl (by decide) (by decide) (by decide) rfl rfl (by decide) (As := [.int (vD_15.1 9)]) (rest := []) rfl rfl hl.1 (Nat.le_of_ble_eq_true rfl) dX5_readGate_97 (k1 := 0) (n1 := 0) rfl rfl ⟨Nat.zero_le _, Nat.zero_le _⟩ (fun H locs hP hD hS => ?_)
                  refine lv_iinc (v := (x3_13 + (1 : Int32))) (lv' := [(3, .int (x3_13 + (1 : Int32))), (0, .ref (bD 0)), (1, .ref (bC 0)), (2, .int r6), (4, .int x4_14)]) hx hb dX5_readGate_100 hl (k := 3) rfl rfl (by decide) rfl (fun ls hl => ?_)
                  refine lv_aload_n hx hb dX5_readGate_103 rfl (lv_at hl 1 rfl) ?_
                  obtain ⟨vD_47, hg48, hf⟩ := o1_at hf
                  refine k_vvP ⟨hx, hb, hml, hown, htu⟩ hK hP hD hS hA hG (c_X5_advance l g bD (bS 0) vD_15 vD_47 hg48) (cwV 0 htu (gU_V mw_3_232 hcX5_advance) rfl rfl rfl hdX5_advance ⟨Nat.le_of_ble_eq_true rfl, Nat.le_of_ble_eq_true rfl⟩) (q0 := 0) (ci := 5) (fs := fcD bD (bS 0) vD_15) (q := (RX5, TX5, 10)) rfl rfl rfl (wr := (cS g bS (bC 0) (bT 0) ++ (cC g bC vC_45 ++ (cT g bT vT)))) (w2 := cD g bD (bS 0) vD_47 ++ (cS g bS (bC 0) (bT 0) ++ (cC g bC vC_45 ++ (cT g bT vT)))) [0, 1] [2, 3, 4, 5, 6, 7, 8, 9, 10, 11, 12, 13, 14, 15, 16, 17, 18] [17, 18, 0, 1, 2, 3, 4, 5, 6, 7, 8, 9, 10, 11, 12, 13, 14, 15, 16] rfl rfl (by decide) (by decide) (by decide) rfl rfl (by decide) (As := []) (rest := []) rfl rfl hl.1 (Nat.le_of_ble_eq_true rfl) dX5_readGate_104 (k1 := 0) (n1 := 0) rfl rfl ⟨Nat.zero_le _, Nat.zero_le _⟩ (fun H locs hP hD hS => ?_)
                  refine lv_iinc (v := (x4_14 + (1 : Int32))) (lv' := [(4, .int (x4_14 + (1 : Int32))), (3, .int (x3_13 + (1 : Int32))), (0, .ref (bD 0)), (1, .ref (bC 0)), (2, .int r6)]) hx hb dX5_readGate_107 hl (k := 4) rfl rfl (by decide) rfl (fun ls hl => ?_)
                  refine lv_goto (tgt := 56) hx hb dX5_readGate_110 (by decide) ?_
                  exact ih19 (x3_13 + (1 : Int32)) (x4_14 + (1 : Int32)) vD_47 vC_45 hf H locs hP hD hS _ (lv_sub hl [2, 3, 4, 1, 0] rfl)
                · have hf := it_f hf c44
                  refine lv_aload_n hx hb dX5_readGate_85 rfl (lv_at hl 0 rfl) ?_
                  refine lv_bipush (v := (-3 : Int32)) hx hb dX5_readGate_86 (by decide) ?_
                  obtain ⟨r49, vD_50, hg51, hf⟩ := o2_at hf
                  refine k_viP ⟨hx, hb, hml, hown, htu⟩ hK hP hD hS hA hG (c_X5_fail l g bD (bS 0) vD_15 (-3 : Int32) r49 vD_50 hg51) (cwV 1 htu (gU_V mw_4_14 hcX5_fail) rfl rfl rfl hdX5_fail ⟨Nat.le_of_ble_eq_true rfl, Nat.le_of_ble_eq_true rfl⟩) (q0 := 0) (ci := 5) (fs := fcD bD (bS 0) vD_15) (q := (RX5, TX5, 10)) rfl rfl rfl (wr := (cS g bS (bC 0) (bT 0) ++ (cC g bC vC_16 ++ (cT g bT vT)))) (w2 := cD g bD (bS 0) vD_50 ++ (cS g bS (bC 0) (bT 0) ++ (cC g bC vC_16 ++ (cT g bT vT)))) [0, 1] [2, 3, 4, 5, 6, 7, 8, 9, 10, 11, 12, 13, 14, 15, 16, 17, 18] [17, 18, 0, 1, 2, 3, 4, 5, 6, 7, 8, 9, 10, 11, 12, 13, 14, 15, 16] rfl rfl (by decide) (by decide) (by decide) rfl rfl (by decide) (As := [.int (-3 : Int32)]) (rest := []) rfl rfl hl.1 (Nat.le_of_ble_eq_true rfl) dX5_readGate_88 (k1 := 0) (n1 := 0) rfl rfl ⟨Nat.zero_le _, Nat.zero_le _⟩ (fun H locs hP hD hS => ?_)
                  obtain ⟨h52, hf⟩ := gd_isB hf
                  obtain ⟨e53, e54, e55⟩ := kp_3 hf
                  rw [e54] at hP hD
                  rw [e55] at hP hD
                  exact k_zret hx hb hr hlocks hK hP hD hS e53 h52 dX5_readGate_91
        exact hL18 (0 : Int32) (0 : Int32) vD_11 vC_9 hf H locs hP hD hS _ (lv_sub hl [4, 3, 2, 1, 0] rfl)
      · have hf := it_f hf c8
        refine lv_aload_n hx hb dX5_readGate_35 rfl (lv_at hl 2 rfl) ?_
        refine lv_bipush (v := (-2 : Int32)) hx hb dX5_readGate_36 (by decide) ?_
        obtain ⟨r56, vD_57, hg58, hf⟩ := o2_at hf
        refine k_viP ⟨hx, hb, hml, hown, htu⟩ hK hP hD hS hA hG (c_X5_fail l g bD (bS 0) vD_4 (-2 : Int32) r56 vD_57 hg58) (cwV 1 htu (gU_V mw_4_14 hcX5_fail) rfl rfl rfl hdX5_fail ⟨Nat.le_of_ble_eq_true rfl, Nat.le_of_ble_eq_true rfl⟩) (q0 := 0) (ci := 5) (fs := fcD bD (bS 0) vD_4) (q := (RX5, TX5, 10)) rfl rfl rfl (wr := (cS g bS (bC 0) (bT 0) ++ (cC g bC vC ++ (cT g bT vT)))) (w2 := cD g bD (bS 0) vD_57 ++ (cS g bS (bC 0) (bT 0) ++ (cC g bC vC ++ (cT g bT vT)))) [0, 1] [2, 3, 4, 5, 6, 7, 8, 9, 10, 11, 12, 13, 14, 15, 16, 17, 18] [17, 18, 0, 1, 2, 3, 4, 5, 6, 7, 8, 9, 10, 11, 12, 13, 14, 15, 16] rfl rfl (by decide) (by decide) (by decide) rfl rfl (by decide) (As := [.int (-2 : Int32)]) (rest := []) rfl rfl hl.1 (Nat.le_of_ble_eq_true rfl) dX5_readGate_38 (k1 := 0) (n1 := 0) rfl rfl ⟨Nat.zero_le _, Nat.zero_le _⟩ (fun H locs hP hD hS => ?_)
        obtain ⟨h59, hf⟩ := gd_isB hf
        obtain ⟨e60, e61, e62⟩ := kp_3 hf
        rw [e61] at hP hD
        rw [e62] at hP hD
        exact k_zret hx hb hr hlocks hK hP hD hS e60 h59 dX5_readGate_41
    · have hf := it_f hf c3
      refine lv_aload_n hx hb dX5_readGate_15 rfl (lv_at hl 1 rfl) ?_
      refine lv_bipush (v := (-6 : Int32)) hx hb dX5_readGate_16 (by decide) ?_
      obtain ⟨r63, vD_64, hg65, hf⟩ := o2_at hf
      refine k_viP ⟨hx, hb, hml, hown, htu⟩ hK hP hD hS hA hG (c_X5_fail l g bD (bS 0) vD (-6 : Int32) r63 vD_64 hg65) (cwV 1 htu (gU_V mw_4_14 hcX5_fail) rfl rfl rfl hdX5_fail ⟨Nat.le_of_ble_eq_true rfl, Nat.le_of_ble_eq_true rfl⟩) (q0 := 0) (ci := 5) (fs := fcD bD (bS 0) vD) (q := (RX5, TX5, 10)) rfl rfl rfl (wr := (cS g bS (bC 0) (bT 0) ++ (cC g bC vC ++ (cT g bT vT)))) (w2 := cD g bD (bS 0) vD_64 ++ (cS g bS (bC 0) (bT 0) ++ (cC g bC vC ++ (cT g bT vT)))) [0, 1] [2, 3, 4, 5, 6, 7, 8, 9, 10, 11, 12, 13, 14, 15, 16, 17, 18] [17, 18, 0, 1, 2, 3, 4, 5, 6, 7, 8, 9, 10, 11, 12, 13, 14, 15, 16] rfl rfl (by decide) (by decide) (by decide) rfl rfl (by decide) (As := [.int (-6 : Int32)]) (rest := []) rfl rfl hl.1 (Nat.le_of_ble_eq_true rfl) dX5_readGate_18 (k1 := 0) (n1 := 0) rfl rfl ⟨Nat.zero_le _, Nat.zero_le _⟩ (fun H locs hP hD hS => ?_)
      obtain ⟨h66, hf⟩ := gd_isB hf
      obtain ⟨e67, e68, e69⟩ := kp_3 hf
      rw [e68] at hP hD
      rw [e69] at hP hD
      exact k_zret hx hb hr hlocks hK hP hD hS e67 h66 dX5_readGate_21
  rw [hH, hlo] at hW
  exact hW
def f_X5_readOutputs_L29 (self7 : Int32 → Vs → Vs → Option (Int32 × Vs × Vs)) (x2_4 : Int32) (vD_5 : Vs) (vC_6 : Vs) : Option (Int32 × Vs × Vs) :=
  jn (o2 (f_X5_readSemicolon vD_5) (fun (r12 : Int32) (vD_13 : Vs) => gd (isB r12) (some (r12, vD_13, vC_6)))) (fun k10 => if (6 : Int32) < x2_4 then k10 else if (vD_5.1 7) = (2 : Int32) then if (vD_5.1 9) < (vC_6.1 1) then o1 (f_X0_outputOf vC_6 (vD_5.1 9)) (fun (r23 : Int32) => if r23 < 0 then o1 (f_X0_isFullOfOutputs vC_6) (fun (r26 : Int32) => if r26 = 0 then o1 (f_X0_putOutput vC_6 (vD_5.1 9)) (fun (vC_29 : Vs) => o1 (f_X5_advance vD_5) (fun (vD_31 : Vs) => self7 (x2_4 + (1 : Int32)) vD_31 vC_29)) else o2 (f_X5_fail vD_5 (-6 : Int32)) (fun (r33 : Int32) (vD_34 : Vs) => gd (isB r33) (some (r33, vD_34, vC_6)))) else o2 (f_X5_fail vD_5 (-4 : Int32)) (fun (r40 : Int32) (vD_41 : Vs) => gd (isB r40) (some (r40, vD_41, vC_6)))) else o2 (f_X5_fail vD_5 (-3 : Int32)) (fun (r47 : Int32) (vD_48 : Vs) => gd (isB r47) (some (r47, vD_48, vC_6))) else k10)
def f_X5_readOutputs (vD : Vs) (vC : Vs) (vT : Vs) : Option (Int32 × Vs × Vs) :=
  o1 (f_X5_advance vD) (fun (vD_1 : Vs) => if (vD_1.1 7) = (2 : Int32) then lp f_X5_readOutputs_L29 (fun _ _ _ => none) FU (0 : Int32) vD_1 vC else o2 (f_X5_fail vD_1 (-2 : Int32)) (fun (r54 : Int32) (vD_55 : Vs) => gd (isB r54) (some (r54, vD_55, vC))))
abbrev wsX5_readOutputs : List Cond := .code yX5_readOutputs cX5_readOutputs 3 (some .boolean) :: UW
abbrev rmX5_readOutputs : Room := { frames := 3, cells := 0, slots := 0, locals := 64 }
set_option maxHeartbeats 4000000 in
set_option maxRecDepth 100000 in
theorem c_X5_readOutputs (l : Launch) (g : Gx) (bD : Nat → Nat) (vD : Vs) (bS : Nat → Nat) (bC : Nat → Nat) (vC : Vs) (bT : Nat → Nat) (vT : Vs) (r : Int32) (vD1 : Vs) (vC1 : Vs) (hf : f_X5_readOutputs vD vC vT = some (r, vD1, vC1)) : CtI l yX5_readOutputs wsX5_readOutputs rmX5_readOutputs g [.ref (bD 0)] (cD g bD (bS 0) vD ++ (cS g bS (bC 0) (bT 0) ++ (cC g bC vC ++ (cT g bT vT)))) (cD g bD (bS 0) vD1 ++ (cS g bS (bC 0) (bT 0) ++ (cC g bC vC1 ++ (cT g bT vT)))) r 0 0 := by
  unfold CtI
  intro sz
  refine Met.ofW (cc := cX5_readOutputs) (maxL := 3) (ret := (some .boolean)) (by decide) rfl ?_
  intro p e s m args below meth c s₁ B hml hv
  obtain ⟨rfl, hsz, hP, hK, hD0, hG⟩ := hv
  have hx := B.exec
  have hb := B.bytes
  have hr := B.returns
  have hts := atoms_spec (ws := wsX5_readOutputs) B.pre
  have hown : s.vm.findClass RX5 = some m.cls := findClass_of_methodNamed B.named
  have hlocks := B.notSynchronized
  subst hsz
  have hD := hD0.self (sz := s.heap.size)
  generalize hAe : va_A (cD g bD (bS 0) vD ++ (cS g bS (bC 0) (bT 0) ++ (cC g bC vC ++ (cT g bT vT)))) s.heap.size = A at hD hG ⊢
  have hA : ∀ q : Nat, s.heap.size ≤ q → A q := fun q h => by rw [← hAe]; exact Or.inr h
  clear hAe hD0
  have hS : va_S A s.heap s.heap [] := va_S.rf
  have hl := lv_entry ([.ref (bD 0)]) (n := 3) (Nat.le_of_ble_eq_true rfl)
  rw [lg_entry_eq]
  generalize (lg_sl ([.ref (bD 0)]) ++ List.replicate (3 - (lg_sl ([.ref (bD 0)])).length) Slot.unset).toArray = ls at hl ⊢
  have hl : lv_has ls 3 [(0, .ref (bD 0))] := hl
  have htu : ∀ w ∈ UW, w.before _ s = true := fun w h => hts w (List.mem_cons_of_mem _ h)
  have k_1_157 := htu _ mw_1_157
  have k_1_148 := htu _ mw_1_148
  have k_1_166 := htu _ mw_1_166
  have k_1_168 := htu _ mw_1_168
  have k_1_66 := htu _ mw_1_66
  unfold f_X5_readOutputs at hf
  obtain ⟨H, hH⟩ : ∃ z, z = s.heap := ⟨_, rfl⟩
  obtain ⟨locs, hlo⟩ : ∃ z : List Loc, z = [] := ⟨_, rfl⟩
  have hS : va_S A s.heap H locs := by rw [hH, hlo]; exact hS
  rw [← hH] at hP
  have hW : W p l e (headSpec wsX5_readOutputs rmX5_readOutputs).room s m ([.ref (bD 0)] : List Value).toArray below meth c H locs 0 0 (MQ below (qI g A (cD g bD (bS 0) vD1 ++ (cS g bS (bC 0) (bT 0) ++ (cC g bC vC1 ++ (cT g bT vT)))) r) ([.ref (bD 0)] : List Value).toArray s 0 0 A) (F0 m 0 ls []) := by
    refine lv_aload_n hx hb dX5_readOutputs_0 rfl (lv_at hl 0 rfl) ?_
    refine va_get (D := g.1) (ci := 5) (fs := fcD bD (bS 0) vD) (v := .ref (bS 0)) (C := RX5) (T := TX5) (N := 10) hx hb htu hinX5 hown hK hP 0 rfl rfl 0 (by decide) k_1_157 (fun _ h9 => h9) rfl dX5_readOutputs_1 ?_
    refine va_get (D := g.1) (ci := 4) (fs := fcS bS (bC 0) (bT 0)) (v := .ref (bC 0)) (C := RX4) (T := TX4) (N := 2) hx hb htu hinX4 hown hK hP 2 rfl rfl 0 (by decide) k_1_148 (fun _ h9 => h9) rfl dX5_readOutputs_4 ?_
    refine lv_astore_n (lv' := [(1, .ref (bC 0)), (0, .ref (bD 0))]) hx hb dX5_readOutputs_7 rfl hl (by decide) rfl (fun ls hl => ?_)
    refine lv_aload_n hx hb dX5_readOutputs_8 rfl (lv_at hl 1 rfl) ?_
    obtain ⟨vD_1, hg2, hf⟩ := o1_at hf
    refine k_vvP ⟨hx, hb, hml, hown, htu⟩ hK hP hD hS hA hG (c_X5_advance l g bD (bS 0) vD vD_1 hg2) (cwV 0 htu (gU_V mw_3_232 hcX5_advance) rfl rfl rfl hdX5_advance ⟨Nat.le_of_ble_eq_true rfl, Nat.le_of_ble_eq_true rfl⟩) (q0 := 0) (ci := 5) (fs := fcD bD (bS 0) vD) (q := (RX5, TX5, 10)) rfl rfl rfl (wr := (cS g bS (bC 0) (bT 0) ++ (cC g bC vC ++ (cT g bT vT)))) (w2 := cD g bD (bS 0) vD_1 ++ (cS g bS (bC 0) (bT 0) ++ (cC g bC vC ++ (cT g bT vT)))) [0, 1] [2, 3, 4, 5, 6, 7, 8, 9, 10, 11, 12, 13, 14, 15, 16, 17, 18] [17, 18, 0, 1, 2, 3, 4, 5, 6, 7, 8, 9, 10, 11, 12, 13, 14, 15, 16] rfl rfl (by decide) (by decide) (by decide) rfl rfl (by decide) (As := []) (rest := []) rfl rfl hl.1 (Nat.le_of_ble_eq_true rfl) dX5_readOutputs_9 (k1 := 0) (n1 := 0) rfl rfl ⟨Nat.zero_le _, Nat.zero_le _⟩ (fun H locs hP hD hS => ?_)
    refine lv_aload_n hx hb dX5_readOutputs_12 rfl (lv_at hl 1 rfl) ?_
    refine va_get (D := g.1) (ci := 5) (fs := fcD bD (bS 0) vD_1) (v := .int (vD_1.1 7)) (C := RX5) (T := TX5) (N := 10) hx hb htu hinX5 hown hK hP 0 rfl rfl 7 (by decide) k_1_166 (fun _ h9 => h9) rfl dX5_readOutputs_13 ?_
    refine lv_iconst (v := (2 : Int32)) hx hb dX5_readOutputs_16 (by decide) ?_
    refine lv_icmp_eq (tgt := 27) hx hb dX5_readOutputs_17 (by decide) (fun c3 => ?_) (fun c3 => ?_)
    · have hf := it_t hf c3
      refine lv_iconst (v := (0 : Int32)) hx hb dX5_readOutputs_27 (by decide) ?_
      refine lv_istore_n (lv' := [(2, .int (0 : Int32)), (1, .ref (bC 0)), (0, .ref (bD 0))]) hx hb dX5_readOutputs_28 rfl hl (by decide) rfl (fun ls hl => ?_)
      have hL8 : ∀ (x2_4 : Int32) (vD_5 : Vs) (vC_6 : Vs), lp f_X5_readOutputs_L29 (fun _ _ _ => none) FU x2_4 vD_5 vC_6 = some (r, vD1, vC1) → ∀ (H : Heap) (locs : List Loc), va_P g.1 vwCl (cD g bD (bS 0) vD_5 ++ (cS g bS (bC 0) (bT 0) ++ (cC g bC vC_6 ++ (cT g bT vT)))) H → va_D A (cD g bD (bS 0) vD_5 ++ (cS g bS (bC 0) (bT 0) ++ (cC g bC vC_6 ++ (cT g bT vT)))) → va_S A s.heap H locs → ∀ ls : Array Slot, lv_has ls 3 [(0, .ref (bD 0)), (1, .ref (bC 0)), (2, .int x2_4)] → W p l e (headSpec wsX5_readOutputs rmX5_readOutputs).room s m ([.ref (bD 0)] : List Value).toArray below meth c H locs 0 0 (MQ below (qI g A (cD g bD (bS 0) vD1 ++ (cS g bS (bC 0) (bT 0) ++ (cC g bC vC1 ++ (cT g bT vT)))) r) ([.ref (bD 0)] : List Value).toArray s 0 0 A) (F0 m 29 ls []) := by
        refine lp_ind (T := Int32 → Vs → Vs → Option (Int32 × Vs × Vs)) (fun self7 => ∀ (x2_4 : Int32) (vD_5 : Vs) (vC_6 : Vs), self7 x2_4 vD_5 vC_6 = some (r, vD1, vC1) → ∀ (H : Heap) (locs : List Loc), va_P g.1 vwCl (cD g bD (bS 0) vD_5 ++ (cS g bS (bC 0) (bT 0) ++ (cC g bC vC_6 ++ (cT g bT vT)))) H → va_D A (cD g bD (bS 0) vD_5 ++ (cS g bS (bC 0) (bT 0) ++ (cC g bC vC_6 ++ (cT g bT vT)))) → va_S A s.heap H locs → ∀ ls : Array Slot, lv_has ls 3 [(0, .ref (bD 0)), (1, .ref (bC 0)), (2, .int x2_4)] → W p l e (headSpec wsX5_readOutputs rmX5_readOutputs).room s m ([.ref (bD 0)] : List Value).toArray below meth c H locs 0 0 (MQ below (qI g A (cD g bD (bS 0) vD1 ++ (cS g bS (bC 0) (bT 0) ++ (cC g bC vC1 ++ (cT g bT vT)))) r) ([.ref (bD 0)] : List Value).toArray s 0 0 A) (F0 m 29 ls [])) ?_ ?_ FU
        · intro x2_4 vD_5 vC_6 hf; cases hf
        · intro self7 ih9 x2_4 vD_5 vC_6 hf H locs hP hD hS ls hl
          unfold f_X5_readOutputs_L29 at hf
          refine lv_iload_n hx hb dX5_readOutputs_29 rfl (lv_at hl 2 rfl) ?_
          refine lv_bipush (v := (6 : Int32)) hx hb dX5_readOutputs_30 (by decide) ?_
          obtain ⟨k10, hk19, hf⟩ := jn_at hf
          have hJ11 : k10 = some (r, vD1, vC1) → ∀ (H : Heap) (locs : List Loc), va_P g.1 vwCl (cD g bD (bS 0) vD_5 ++ (cS g bS (bC 0) (bT 0) ++ (cC g bC vC_6 ++ (cT g bT vT)))) H → va_D A (cD g bD (bS 0) vD_5 ++ (cS g bS (bC 0) (bT 0) ++ (cC g bC vC_6 ++ (cT g bT vT)))) → va_S A s.heap H locs → ∀ ls : Array Slot, lv_has ls 3 [(0, .ref (bD 0))] → W p l e (headSpec wsX5_readOutputs rmX5_readOutputs).room s m ([.ref (bD 0)] : List Value).toArray below meth c H locs 0 0 (MQ below (qI g A (cD g bD (bS 0) vD1 ++ (cS g bS (bC 0) (bT 0) ++ (cC g bC vC1 ++ (cT g bT vT)))) r) ([.ref (bD 0)] : List Value).toArray s 0 0 A) (F0 m 111 ls []) := by
            intro hf H locs hP hD hS ls hl
            rw [hk19] at hf
            clear hk19
            refine lv_aload_n hx hb dX5_readOutputs_111 rfl (lv_at hl 0 rfl) ?_
            obtain ⟨r12, vD_13, hg14, hf⟩ := o2_at hf
            refine k_viP ⟨hx, hb, hml, hown, htu⟩ hK hP hD hS hA hG (c_X5_readSemicolon l g bD (bS 0) vD_5 r12 vD_13 hg14) (cwV 0 htu (gU_V mw_4_18 hcX5_readSemicolon) rfl rfl rfl hdX5_readSemicolon ⟨Nat.le_of_ble_eq_true rfl, Nat.le_of_ble_eq_true rfl⟩) (q0 := 0) (ci := 5) (fs := fcD bD (bS 0) vD_5) (q := (RX5, TX5, 10)) rfl rfl rfl (wr := (cS g bS (bC 0) (bT 0) ++ (cC g bC vC_6 ++ (cT g bT vT)))) (w2 := cD g bD (bS 0) vD_13 ++ (cS g bS (bC 0) (bT 0) ++ (cC g bC vC_6 ++ (cT g bT vT)))) [0, 1] [2, 3, 4, 5, 6, 7, 8, 9, 10, 11, 12, 13, 14, 15, 16, 17, 18] [17, 18, 0, 1, 2, 3, 4, 5, 6, 7, 8, 9, 10, 11, 12, 13, 14, 15, 16] rfl rfl (by decide) (by decide) (by decide) rfl rfl (by decide) (As := []) (rest := []) rfl rfl hl.1 (Nat.le_of_ble_eq_true rfl) dX5_readOutputs_112 (k1 := 0) (n1 := 0) rfl rfl ⟨Nat.zero_le _, Nat.zero_le _⟩ (fun H locs hP hD hS => ?_)
            obtain ⟨h15, hf⟩ := gd_isB hf
            obtain ⟨e16, e17, e18⟩ := kp_3 hf
            rw [e17] at hP hD
            rw [e18] at hP hD
            exact k_zret hx hb hr hlocks hK hP hD hS e16 h15 dX5_readOutputs_115
          refine lv_icmp_gt (tgt := 111) hx hb dX5_readOutputs_32 (by decide) (fun c20 => ?_) (fun c20 => ?_)
          · have hf := it_t hf c20
            exact hJ11 hf H locs hP hD hS _ (lv_sub hl [0] rfl)
          · have hf := it_f hf c20
            refine lv_aload_n hx hb dX5_readOutputs_35 rfl (lv_at hl 0 rfl) ?_
            refine va_get (D := g.1) (ci := 5) (fs := fcD bD (bS 0) vD_5) (v := .int (vD_5.1 7)) (C := RX5) (T := TX5) (N := 10) hx hb htu hinX5 hown hK hP 0 rfl rfl 7 (by decide) k_1_166 (fun _ h9 => h9) rfl dX5_readOutputs_36 ?_
            refine lv_iconst (v := (2 : Int32)) hx hb dX5_readOutputs_39 (by decide) ?_
            refine lv_icmp_ne (tgt := 111) hx hb dX5_readOutputs_40 (by decide) (fun c21 => ?_) (fun c21 => ?_)
            · have hf := it_f hf c21
              exact hJ11 hf H locs hP hD hS _ (lv_sub hl [0] rfl)
            · have hf := it_t hf c21
              refine lv_aload_n hx hb dX5_readOutputs_43 rfl (lv_at hl 0 rfl) ?_
              refine va_get (D := g.1) (ci := 5) (fs := fcD bD (bS 0) vD_5) (v := .int (vD_5.1 9)) (C := RX5) (T := TX5) (N := 10) hx hb htu hinX5 hown hK hP 0 rfl rfl 9 (by decide) k_1_168 (fun _ h9 => h9) rfl dX5_readOutputs_44 ?_
              refine lv_aload_n hx hb dX5_readOutputs_47 rfl (lv_at hl 1 rfl) ?_
              refine va_get (D := g.1) (ci := 0) (fs := fcC bC vC_6) (v := .int (vC_6.1 1)) (C := RX0) (T := TX0) (N := 14) hx hb htu hinX0 hown hK hP 3 rfl rfl 1 (by decide) k_1_66 (fun _ h9 => h9) rfl dX5_readOutputs_48 ?_
              refine lv_icmp_lt (tgt := 61) hx hb dX5_readOutputs_51 (by decide) (fun c22 => ?_) (fun c22 => ?_)
              · have hf := it_t hf c22
                refine lv_aload_n hx hb dX5_readOutputs_61 rfl (lv_at hl 1 rfl) ?_
                refine lv_aload_n hx hb dX5_readOutputs_62 rfl (lv_at hl 0 rfl) ?_
                refine va_get (D := g.1) (ci := 5) (fs := fcD bD (bS 0) vD_5) (v := .int (vD_5.1 9)) (C := RX5) (T := TX5) (N := 10) hx hb htu hinX5 hown hK hP 0 rfl rfl 9 (by decide) k_1_168 (fun _ h9 => h9) rfl dX5_readOutputs_63 ?_
                obtain ⟨r23, hg24, hf⟩ := o1_at hf
                refine k_viP ⟨hx, hb, hml, hown, htu⟩ hK hP hD hS hA hG (c_X0_outputOf l g bC vC_6 (vD_5.1 9) r23 hg24) (cwV 1 htu (gU_V mw_4_69 hcX0_outputOf) rfl rfl rfl hdX0_outputOf ⟨Nat.le_of_ble_eq_true rfl, Nat.le_of_ble_eq_true rfl⟩) (q0 := 3) (ci := 0) (fs := fcC bC vC_6) (q := (RX0, TX0, 14)) rfl rfl rfl (wr := (cD g bD (bS 0) vD_5 ++ (cS g bS (bC 0) (bT 0) ++ (cT g bT vT)))) (w2 := cD g bD (bS 0) vD_5 ++ (cS g bS (bC 0) (bT 0) ++ (cC g bC vC_6 ++ (cT g bT vT)))) [3, 4, 5, 6, 7, 8, 9, 10, 11, 12, 13] [0, 1, 2, 14, 15, 16, 17, 18] [0, 1, 2, 8, 9, 10, 11, 12, 13, 14, 15, 16, 17, 18, 3, 4, 5, 6, 7] rfl rfl (by decide) (by decide) (by decide) rfl rfl (by decide) (As := [.int (vD_5.1 9)]) (rest := []) rfl rfl hl.1 (Nat.le_of_ble_eq_true rfl) dX5_readOutputs_66 (k1 := 0) (n1 := 0) rfl rfl ⟨Nat.zero_le _, Nat.zero_le _⟩ (fun H locs hP hD hS => ?_)
                refine lv_if_lt (tgt := 79) hx hb dX5_readOutputs_69 (by decide) (fun c25 => ?_) (fun c25 => ?_)
                · have hf := it_t hf c25
                  refine lv_aload_n hx hb dX5_readOutputs_79 rfl (lv_at hl 1 rfl) ?_
                  obtain ⟨r26, hg27, hf⟩ := o1_at hf
                  refine k_viP ⟨hx, hb, hml, hown, htu⟩ hK hP hD hS hA hG (c_X0_isFullOfOutputs l g bC vC_6 r26 hg27) (cwV 0 htu (gU_V mw_4_73 hcX0_isFullOfOutputs) rfl rfl rfl hdX0_isFullOfOutputs ⟨Nat.le_of_ble_eq_true rfl, Nat.le_of_ble_eq_true rfl⟩) (q0 := 3) (ci := 0) (fs := fcC bC vC_6) (q := (RX0, TX0, 14)) rfl rfl rfl (wr := (cD g bD (bS 0) vD_5 ++ (cS g bS (bC 0) (bT 0) ++ (cT g bT vT)))) (w2 := cD g bD (bS 0) vD_5 ++ (cS g bS (bC 0) (bT 0) ++ (cC g bC vC_6 ++ (cT g bT vT)))) [3, 4, 5, 6, 7, 8, 9, 10, 11, 12, 13] [0, 1, 2, 14, 15, 16, 17, 18] [0, 1, 2, 8, 9, 10, 11, 12, 13, 14, 15, 16, 17, 18, 3, 4, 5, 6, 7] rfl rfl (by decide) (by decide) (by decide) rfl rfl (by decide) (As := []) (rest := []) rfl rfl hl.1 (Nat.le_of_ble_eq_true rfl) dX5_readOutputs_80 (k1 := 0) (n1 := 0) rfl rfl ⟨Nat.zero_le _, Nat.zero_le _⟩ (fun H locs hP hD hS => ?_)
                  refine lv_if_eq (tgt := 93) hx hb dX5_readOutputs_83 (by decide) (fun c28 => ?_) (fun c28 => ?_)
                  · have hf := it_t hf c28
                    refine lv_aload_n hx hb dX5_readOutputs_93 rfl (lv_at hl 1 rfl) ?_
                    refine lv_aload_n hx hb dX5_readOutputs_94 rfl (lv_at hl 0 rfl) ?_
                    refine va_get (D := g.1) (ci := 5) (fs := fcD bD (bS 0) vD_5) (v := .int (vD_5.1 9)) (C := RX5) (T := TX5) (N := 10) hx hb htu hinX5 hown hK hP 0 rfl rfl 9 (by decide) k_1_168 (fun _ h9 => h9) rfl dX5_readOutputs_95 ?_
                    obtain ⟨vC_29, hg30, hf⟩ := o1_at hf
                    refine k_vvP ⟨hx, hb, hml, hown, htu⟩ hK hP hD hS hA hG (c_X0_putOutput l g bC vC_6 (vD_5.1 9) vC_29 hg30) (cwV 1 htu (gU_V mw_4_77 hcX0_putOutput) rfl rfl rfl hdX0_putOutput ⟨Nat.le_of_ble_eq_true rfl, Nat.le_of_ble_eq_true rfl⟩) (q0 := 3) (ci := 0) (fs := fcC bC vC_6) (q := (RX0, TX0, 14)) rfl rfl rfl (wr := (cD g bD (bS 0) vD_5 ++ (cS g bS (bC 0) (bT 0) ++ (cT g bT vT)))) (w2 := cD g bD (bS 0) vD_5 ++ (cS g bS (bC 0) (bT 0) ++ (cC g bC vC_29 ++ (cT g bT vT)))) [3, 4, 5, 6, 7, 8, 9, 10, 11, 12, 13] [0, 1, 2, 14, 15, 16, 17, 18] [0, 1, 2, 8, 9, 10, 11, 12, 13, 14, 15, 16, 17, 18, 3, 4, 5, 6, 7] rfl rfl (by decide) (by decide) (by decide) rfl rfl (by decide) (As := [.int (vD_5.1 9)]) (rest := []) rfl rfl hl.1 (Nat.le_of_ble_eq_true rfl) dX5_readOutputs_98 (k1 := 0) (n1 := 0) rfl rfl ⟨Nat.zero_le _, Nat.zero_le _⟩ (fun H locs hP hD hS => ?_)
                    refine lv_aload_n hx hb dX5_readOutputs_101 rfl (lv_at hl 0 rfl) ?_
                    obtain ⟨vD_31, hg32, hf⟩ := o1_at hf
                    refine k_vvP ⟨hx, hb, hml, hown, htu⟩ hK hP hD hS hA hG (c_X5_advance l g bD (bS 0) vD_5 vD_31 hg32) (cwV 0 htu (gU_V mw_3_232 hcX5_advance) rfl rfl rfl hdX5_advance ⟨Nat.le_of_ble_eq_true rfl, Nat.le_of_ble_eq_true rfl⟩) (q0 := 0) (ci := 5) (fs := fcD bD (bS 0) vD_5) (q := (RX5, TX5, 10)) rfl rfl rfl (wr := (cS g bS (bC 0) (bT 0) ++ (cC g bC vC_29 ++ (cT g bT vT)))) (w2 := cD g bD (bS 0) vD_31 ++ (cS g bS (bC 0) (bT 0) ++ (cC g bC vC_29 ++ (cT g bT vT)))) [0, 1] [2, 3, 4, 5, 6, 7, 8, 9, 10, 11, 12, 13, 14, 15, 16, 17, 18] [17, 18, 0, 1, 2, 3, 4, 5, 6, 7, 8, 9, 10, 11, 12, 13, 14, 15, 16] rfl rfl (by decide) (by decide) (by decide) rfl rfl (by decide) (As := []) (rest := []) rfl rfl hl.1 (Nat.le_of_ble_eq_true rfl) dX5_readOutputs_102 (k1 := 0) (n1 := 0) rfl rfl ⟨Nat.zero_le _, Nat.zero_le _⟩ (fun H locs hP hD hS => ?_)
                    refine lv_iinc (v := (x2_4 + (1 : Int32))) (lv' := [(2, .int (x2_4 + (1 : Int32))), (0, .ref (bD 0)), (1, .ref (bC 0))]) hx hb dX5_readOutputs_105 hl (k := 2) rfl rfl (by decide) rfl (fun ls hl => ?_)
                    refine lv_goto (tgt := 29) hx hb dX5_readOutputs_108 (by decide) ?_
                    exact ih9 (x2_4 + (1 : Int32)) vD_31 vC_29 hf H locs hP hD hS _ (lv_sub hl [1, 2, 0] rfl)
                  · have hf := it_f hf c28
                    refine lv_aload_n hx hb dX5_readOutputs_86 rfl (lv_at hl 0 rfl) ?_
                    refine lv_bipush (v := (-6 : Int32)) hx hb dX5_readOutputs_87 (by decide) ?_
                    obtain ⟨r33, vD_34, hg35, hf⟩ := o2_at hf
                    refine k_viP ⟨hx, hb, hml, hown, htu⟩ hK hP hD hS hA hG (c_X5_fail l g bD (bS 0) vD_5 (-6 : Int32) r33 vD_34 hg35) (cwV 1 htu (gU_V mw_4_14 hcX5_fail) rfl rfl rfl hdX5_fail ⟨Nat.le_of_ble_eq_true rfl, Nat.le_of_ble_eq_true rfl⟩) (q0 := 0) (ci := 5) (fs := fcD bD (bS 0) vD_5) (q := (RX5, TX5, 10)) rfl rfl rfl (wr := (cS g bS (bC 0) (bT 0) ++ (cC g bC vC_6 ++ (cT g bT vT)))) (w2 := cD g bD (bS 0) vD_34 ++ (cS g bS (bC 0) (bT 0) ++ (cC g bC vC_6 ++ (cT g bT vT)))) [0, 1] [2, 3, 4, 5, 6, 7, 8, 9, 10, 11, 12, 13, 14, 15, 16, 17, 18] [17, 18, 0, 1, 2, 3, 4, 5, 6, 7, 8, 9, 10, 11, 12, 13, 14, 15, 16] rfl rfl (by decide) (by decide) (by decide) rfl rfl (by decide) (As := [.int (-6 : Int32)]) (rest := []) rfl rfl hl.1 (Nat.le_of_ble_eq_true rfl) dX5_readOutputs_89 (k1 := 0) (n1 := 0) rfl rfl ⟨Nat.zero_le _, Nat.zero_le _⟩ (fun H locs hP hD hS => ?_)
                    obtain ⟨h36, hf⟩ := gd_isB hf
                    obtain ⟨e37, e38, e39⟩ := kp_3 hf
                    rw [e38] at hP hD
                    rw [e39] at hP hD
                    exact k_zret hx hb hr hlocks hK hP hD hS e37 h36 dX5_readOutputs_92
                · have hf := it_f hf c25
                  refine lv_aload_n hx hb dX5_readOutputs_72 rfl (lv_at hl 0 rfl) ?_
                  refine lv_bipush (v := (-4 : Int32)) hx hb dX5_readOutputs_73 (by decide) ?_
                  obtain ⟨r40, vD_41, hg42, hf⟩ := o2_at hf
                  refine k_viP ⟨hx, hb, hml, hown, htu⟩ hK hP hD hS hA hG (c_X5_fail l g bD (bS 0) vD_5 (-4 : Int32) r40 vD_41 hg42) (cwV 1 htu (gU_V mw_4_14 hcX5_fail) rfl rfl rfl hdX5_fail ⟨Nat.le_of_ble_eq_true rfl, Nat.le_of_ble_eq_true rfl⟩) (q0 := 0) (ci := 5) (fs := fcD bD (bS 0) vD_5) (q := (RX5, TX5, 10)) rfl rfl rfl (wr := (cS g bS (bC 0) (bT 0) ++ (cC g bC vC_6 ++ (cT g bT vT)))) (w2 := cD g bD (bS 0) vD_41 ++ (cS g bS (bC 0) (bT 0) ++ (cC g bC vC_6 ++ (cT g bT vT)))) [0, 1] [2, 3, 4, 5, 6, 7, 8, 9, 10, 11, 12, 13, 14, 15, 16, 17, 18] [17, 18, 0, 1, 2, 3, 4, 5, 6, 7, 8, 9, 10, 11, 12, 13, 14, 15, 16] rfl rfl (by decide) (by decide) (by decide) rfl rfl (by decide) (As := [.int (-4 : Int32)]) (rest := []) rfl rfl hl.1 (Nat.le_of_ble_eq_true rfl) dX5_readOutputs_75 (k1 := 0) (n1 := 0) rfl rfl ⟨Nat.zero_le _, Nat.zero_le _⟩ (fun H locs hP hD hS => ?_)
                  obtain ⟨h43, hf⟩ := gd_isB hf
                  obtain ⟨e44, e45, e46⟩ := kp_3 hf
                  rw [e45] at hP hD
                  rw [e46] at hP hD
                  exact k_zret hx hb hr hlocks hK hP hD hS e44 h43 dX5_readOutputs_78
              · have hf := it_f hf c22
                refine lv_aload_n hx hb dX5_readOutputs_54 rfl (lv_at hl 0 rfl) ?_
                refine lv_bipush (v := (-3 : Int32)) hx hb dX5_readOutputs_55 (by decide) ?_
                obtain ⟨r47, vD_48, hg49, hf⟩ := o2_at hf
                refine k_viP ⟨hx, hb, hml, hown, htu⟩ hK hP hD hS hA hG (c_X5_fail l g bD (bS 0) vD_5 (-3 : Int32) r47 vD_48 hg49) (cwV 1 htu (gU_V mw_4_14 hcX5_fail) rfl rfl rfl hdX5_fail ⟨Nat.le_of_ble_eq_true rfl, Nat.le_of_ble_eq_true rfl⟩) (q0 := 0) (ci := 5) (fs := fcD bD (bS 0) vD_5) (q := (RX5, TX5, 10)) rfl rfl rfl (wr := (cS g bS (bC 0) (bT 0) ++ (cC g bC vC_6 ++ (cT g bT vT)))) (w2 := cD g bD (bS 0) vD_48 ++ (cS g bS (bC 0) (bT 0) ++ (cC g bC vC_6 ++ (cT g bT vT)))) [0, 1] [2, 3, 4, 5, 6, 7, 8, 9, 10, 11, 12, 13, 14, 15, 16, 17, 18] [17, 18, 0, 1, 2, 3, 4, 5, 6, 7, 8, 9, 10, 11, 12, 13, 14, 15, 16] rfl rfl (by decide) (by decide) (by decide) rfl rfl (by decide) (As := [.int (-3 : Int32)]) (rest := []) rfl rfl hl.1 (Nat.le_of_ble_eq_true rfl) dX5_readOutputs_57 (k1 := 0) (n1 := 0) rfl rfl ⟨Nat.zero_le _, Nat.zero_le _⟩ (fun H locs hP hD hS => ?_)
                obtain ⟨h50, hf⟩ := gd_isB hf
                obtain ⟨e51, e52, e53⟩ := kp_3 hf
                rw [e52] at hP hD
                rw [e53] at hP hD
                exact k_zret hx hb hr hlocks hK hP hD hS e51 h50 dX5_readOutputs_60
      exact hL8 (0 : Int32) vD_1 vC hf H locs hP hD hS _ (lv_sub hl [2, 1, 0] rfl)
    · have hf := it_f hf c3
      refine lv_aload_n hx hb dX5_readOutputs_20 rfl (lv_at hl 1 rfl) ?_
      refine lv_bipush (v := (-2 : Int32)) hx hb dX5_readOutputs_21 (by decide) ?_
      obtain ⟨r54, vD_55, hg56, hf⟩ := o2_at hf
      refine k_viP ⟨hx, hb, hml, hown, htu⟩ hK hP hD hS hA hG (c_X5_fail l g bD (bS 0) vD_1 (-2 : Int32) r54 vD_55 hg56) (cwV 1 htu (gU_V mw_4_14 hcX5_fail) rfl rfl rfl hdX5_fail ⟨Nat.le_of_ble_eq_true rfl, Nat.le_of_ble_eq_true rfl⟩) (q0 := 0) (ci := 5) (fs := fcD bD (bS 0) vD_1) (q := (RX5, TX5, 10)) rfl rfl rfl (wr := (cS g bS (bC 0) (bT 0) ++ (cC g bC vC ++ (cT g bT vT)))) (w2 := cD g bD (bS 0) vD_55 ++ (cS g bS (bC 0) (bT 0) ++ (cC g bC vC ++ (cT g bT vT)))) [0, 1] [2, 3, 4, 5, 6, 7, 8, 9, 10, 11, 12, 13, 14, 15, 16, 17, 18] [17, 18, 0, 1, 2, 3, 4, 5, 6, 7, 8, 9, 10, 11, 12, 13, 14, 15, 16] rfl rfl (by decide) (by decide) (by decide) rfl rfl (by decide) (As := [.int (-2 : Int32)]) (rest := []) rfl rfl hl.1 (Nat.le_of_ble_eq_true rfl) dX5_readOutputs_23 (k1 := 0) (n1 := 0) rfl rfl ⟨Nat.zero_le _, Nat.zero_le _⟩ (fun H locs hP hD hS => ?_)
      obtain ⟨h57, hf⟩ := gd_isB hf
      obtain ⟨e58, e59, e60⟩ := kp_3 hf
      rw [e59] at hP hD
      rw [e60] at hP hD
      exact k_zret hx hb hr hlocks hK hP hD hS e58 h57 dX5_readOutputs_26
  rw [hH, hlo] at hW
  exact hW
def f_X5_isKnownWire (vD : Vs) (vC : Vs) (vT : Vs) : Option (Int32 × Vs) :=
  if (vD.1 7) = (2 : Int32) then if (vD.1 9) < (vC.1 1) then gd (isB (1 : Int32)) (some ((1 : Int32), vD)) else o2 (f_X5_fail vD (-3 : Int32)) (fun (r6 : Int32) (vD_7 : Vs) => gd (isB r6) (some (r6, vD_7))) else o2 (f_X5_fail vD (-2 : Int32)) (fun (r12 : Int32) (vD_13 : Vs) => gd (isB r12) (some (r12, vD_13)))
abbrev wsX5_isKnownWire : List Cond := .code yX5_isKnownWire cX5_isKnownWire 1 (some .boolean) :: UW
abbrev rmX5_isKnownWire : Room := { frames := 1, cells := 0, slots := 0, locals := 21 }
set_option maxHeartbeats 4000000 in
set_option maxRecDepth 100000 in
theorem c_X5_isKnownWire (l : Launch) (g : Gx) (bD : Nat → Nat) (vD : Vs) (bS : Nat → Nat) (bC : Nat → Nat) (vC : Vs) (bT : Nat → Nat) (vT : Vs) (r : Int32) (vD1 : Vs) (hf : f_X5_isKnownWire vD vC vT = some (r, vD1)) : CtI l yX5_isKnownWire wsX5_isKnownWire rmX5_isKnownWire g [.ref (bD 0)] (cD g bD (bS 0) vD ++ (cS g bS (bC 0) (bT 0) ++ (cC g bC vC ++ (cT g bT vT)))) (cD g bD (bS 0) vD1 ++ (cS g bS (bC 0) (bT 0) ++ (cC g bC vC ++ (cT g bT vT)))) r 0 0 := by
  unfold CtI
  intro sz
  refine Met.ofW (cc := cX5_isKnownWire) (maxL := 1) (ret := (some .boolean)) (by decide) rfl ?_
  intro p e s m args below meth c s₁ B hml hv
  obtain ⟨rfl, hsz, hP, hK, hD0, hG⟩ := hv
  have hx := B.exec
  have hb := B.bytes
  have hr := B.returns
  have hts := atoms_spec (ws := wsX5_isKnownWire) B.pre
  have hown : s.vm.findClass RX5 = some m.cls := findClass_of_methodNamed B.named
  have hlocks := B.notSynchronized
  subst hsz
  have hD := hD0.self (sz := s.heap.size)
  generalize hAe : va_A (cD g bD (bS 0) vD ++ (cS g bS (bC 0) (bT 0) ++ (cC g bC vC ++ (cT g bT vT)))) s.heap.size = A at hD hG ⊢
  have hA : ∀ q : Nat, s.heap.size ≤ q → A q := fun q h => by rw [← hAe]; exact Or.inr h
  clear hAe hD0
  have hS : va_S A s.heap s.heap [] := va_S.rf
  have hl := lv_entry ([.ref (bD 0)]) (n := 1) (Nat.le_of_ble_eq_true rfl)
  rw [lg_entry_eq]
  generalize (lg_sl ([.ref (bD 0)]) ++ List.replicate (1 - (lg_sl ([.ref (bD 0)])).length) Slot.unset).toArray = ls at hl ⊢
  have hl : lv_has ls 1 [(0, .ref (bD 0))] := hl
  have htu : ∀ w ∈ UW, w.before _ s = true := fun w h => hts w (List.mem_cons_of_mem _ h)
  have k_1_166 := htu _ mw_1_166
  have k_1_168 := htu _ mw_1_168
  have k_1_157 := htu _ mw_1_157
  have k_1_148 := htu _ mw_1_148
  have k_1_66 := htu _ mw_1_66
  unfold f_X5_isKnownWire at hf
  obtain ⟨H, hH⟩ : ∃ z, z = s.heap := ⟨_, rfl⟩
  obtain ⟨locs, hlo⟩ : ∃ z : List Loc, z = [] := ⟨_, rfl⟩
  have hS : va_S A s.heap H locs := by rw [hH, hlo]; exact hS
  rw [← hH] at hP
  have hW : W p l e (headSpec wsX5_isKnownWire rmX5_isKnownWire).room s m ([.ref (bD 0)] : List Value).toArray below meth c H locs 0 0 (MQ below (qI g A (cD g bD (bS 0) vD1 ++ (cS g bS (bC 0) (bT 0) ++ (cC g bC vC ++ (cT g bT vT)))) r) ([.ref (bD 0)] : List Value).toArray s 0 0 A) (F0 m 0 ls []) := by
    refine lv_aload_n hx hb dX5_isKnownWire_0 rfl (lv_at hl 0 rfl) ?_
    refine va_get (D := g.1) (ci := 5) (fs := fcD bD (bS 0) vD) (v := .int (vD.1 7)) (C := RX5) (T := TX5) (N := 10) hx hb htu hinX5 hown hK hP 0 rfl rfl 7 (by decide) k_1_166 (fun _ h9 => h9) rfl dX5_isKnownWire_1 ?_
    refine lv_iconst (v := (2 : Int32)) hx hb dX5_isKnownWire_4 (by decide) ?_
    refine lv_icmp_eq (tgt := 15) hx hb dX5_isKnownWire_5 (by decide) (fun c1 => ?_) (fun c1 => ?_)
    · have hf := it_t hf c1
      refine lv_aload_n hx hb dX5_isKnownWire_15 rfl (lv_at hl 0 rfl) ?_
      refine va_get (D := g.1) (ci := 5) (fs := fcD bD (bS 0) vD) (v := .int (vD.1 9)) (C := RX5) (T := TX5) (N := 10) hx hb htu hinX5 hown hK hP 0 rfl rfl 9 (by decide) k_1_168 (fun _ h9 => h9) rfl dX5_isKnownWire_16 ?_
      refine lv_aload_n hx hb dX5_isKnownWire_19 rfl (lv_at hl 0 rfl) ?_
      refine va_get (D := g.1) (ci := 5) (fs := fcD bD (bS 0) vD) (v := .ref (bS 0)) (C := RX5) (T := TX5) (N := 10) hx hb htu hinX5 hown hK hP 0 rfl rfl 0 (by decide) k_1_157 (fun _ h9 => h9) rfl dX5_isKnownWire_20 ?_
      refine va_get (D := g.1) (ci := 4) (fs := fcS bS (bC 0) (bT 0)) (v := .ref (bC 0)) (C := RX4) (T := TX4) (N := 2) hx hb htu hinX4 hown hK hP 2 rfl rfl 0 (by decide) k_1_148 (fun _ h9 => h9) rfl dX5_isKnownWire_23 ?_
      refine va_get (D := g.1) (ci := 0) (fs := fcC bC vC) (v := .int (vC.1 1)) (C := RX0) (T := TX0) (N := 14) hx hb htu hinX0 hown hK hP 3 rfl rfl 1 (by decide) k_1_66 (fun _ h9 => h9) rfl dX5_isKnownWire_26 ?_
      refine lv_icmp_lt (tgt := 39) hx hb dX5_isKnownWire_29 (by decide) (fun c2 => ?_) (fun c2 => ?_)
      · have hf := it_t hf c2
        refine lv_iconst (v := (1 : Int32)) hx hb dX5_isKnownWire_39 (by decide) ?_
        obtain ⟨h3, hf⟩ := gd_isB hf
        obtain ⟨e4, e5⟩ := kp_2 hf
        rw [e5] at hP hD
        exact k_zret hx hb hr hlocks hK hP hD hS e4 h3 dX5_isKnownWire_40
      · have hf := it_f hf c2
        refine lv_aload_n hx hb dX5_isKnownWire_32 rfl (lv_at hl 0 rfl) ?_
        refine lv_bipush (v := (-3 : Int32)) hx hb dX5_isKnownWire_33 (by decide) ?_
        obtain ⟨r6, vD_7, hg8, hf⟩ := o2_at hf
        refine k_viP ⟨hx, hb, hml, hown, htu⟩ hK hP hD hS hA hG (c_X5_fail l g bD (bS 0) vD (-3 : Int32) r6 vD_7 hg8) (cwV 1 htu (gU_V mw_4_14 hcX5_fail) rfl rfl rfl hdX5_fail ⟨Nat.le_of_ble_eq_true rfl, Nat.le_of_ble_eq_true rfl⟩) (q0 := 0) (ci := 5) (fs := fcD bD (bS 0) vD) (q := (RX5, TX5, 10)) rfl rfl rfl (wr := (cS g bS (bC 0) (bT 0) ++ (cC g bC vC ++ (cT g bT vT)))) (w2 := cD g bD (bS 0) vD_7 ++ (cS g bS (bC 0) (bT 0) ++ (cC g bC vC ++ (cT g bT vT)))) [0, 1] [2, 3, 4, 5, 6, 7, 8, 9, 10, 11, 12, 13, 14, 15, 16, 17, 18] [17, 18, 0, 1, 2, 3, 4, 5, 6, 7, 8, 9, 10, 11, 12, 13, 14, 15, 16] rfl rfl (by decide) (by decide) (by decide) rfl rfl (by decide) (As := [.int (-3 : Int32)]) (rest := []) rfl rfl hl.1 (Nat.le_of_ble_eq_true rfl) dX5_isKnownWire_35 (k1 := 0) (n1 := 0) rfl rfl ⟨Nat.zero_le _, Nat.zero_le _⟩ (fun H locs hP hD hS => ?_)
        obtain ⟨h9, hf⟩ := gd_isB hf
        obtain ⟨e10, e11⟩ := kp_2 hf
        rw [e11] at hP hD
        exact k_zret hx hb hr hlocks hK hP hD hS e10 h9 dX5_isKnownWire_38
    · have hf := it_f hf c1
      refine lv_aload_n hx hb dX5_isKnownWire_8 rfl (lv_at hl 0 rfl) ?_
      refine lv_bipush (v := (-2 : Int32)) hx hb dX5_isKnownWire_9 (by decide) ?_
      obtain ⟨r12, vD_13, hg14, hf⟩ := o2_at hf
      refine k_viP ⟨hx, hb, hml, hown, htu⟩ hK hP hD hS hA hG (c_X5_fail l g bD (bS 0) vD (-2 : Int32) r12 vD_13 hg14) (cwV 1 htu (gU_V mw_4_14 hcX5_fail) rfl rfl rfl hdX5_fail ⟨Nat.le_of_ble_eq_true rfl, Nat.le_of_ble_eq_true rfl⟩) (q0 := 0) (ci := 5) (fs := fcD bD (bS 0) vD) (q := (RX5, TX5, 10)) rfl rfl rfl (wr := (cS g bS (bC 0) (bT 0) ++ (cC g bC vC ++ (cT g bT vT)))) (w2 := cD g bD (bS 0) vD_13 ++ (cS g bS (bC 0) (bT 0) ++ (cC g bC vC ++ (cT g bT vT)))) [0, 1] [2, 3, 4, 5, 6, 7, 8, 9, 10, 11, 12, 13, 14, 15, 16, 17, 18] [17, 18, 0, 1, 2, 3, 4, 5, 6, 7, 8, 9, 10, 11, 12, 13, 14, 15, 16] rfl rfl (by decide) (by decide) (by decide) rfl rfl (by decide) (As := [.int (-2 : Int32)]) (rest := []) rfl rfl hl.1 (Nat.le_of_ble_eq_true rfl) dX5_isKnownWire_11 (k1 := 0) (n1 := 0) rfl rfl ⟨Nat.zero_le _, Nat.zero_le _⟩ (fun H locs hP hD hS => ?_)
      obtain ⟨h15, hf⟩ := gd_isB hf
      obtain ⟨e16, e17⟩ := kp_2 hf
      rw [e17] at hP hD
      exact k_zret hx hb hr hlocks hK hP hD hS e16 h15 dX5_isKnownWire_14
  rw [hH, hlo] at hW
  exact hW
def f_X5_readBridge (vD : Vs) (vC : Vs) (vT : Vs) : Option (Int32 × Vs × Vs) :=
  o1 (f_X0_isFullOfBridges vC) (fun (r1 : Int32) => if r1 = 0 then o1 (f_X5_advance vD) (fun (vD_4 : Vs) => o1 (f_X5_kindOfWord vD_4) (fun (r6 : Int32) => jn (o1 (f_X5_advance vD_4) (fun (vD_10 : Vs) => o2 (f_X5_isKnownWire vD_10 vC vT) (fun (r12 : Int32) (vD_13 : Vs) => if r12 = 0 then gd (isB (0 : Int32)) (some ((0 : Int32), vD_13, vC)) else o1 (f_X5_advance vD_13) (fun (vD_16 : Vs) => o2 (f_X5_isKnownWire vD_16 vC vT) (fun (r18 : Int32) (vD_19 : Vs) => if r18 = 0 then gd (isB (0 : Int32)) (some ((0 : Int32), vD_19, vC)) else o1 (f_X0_wouldLoop vC (vD_13.1 9) (vD_19.1 9)) (fun (r22 : Int32) => if r22 = 0 then o1 (f_X0_putBridge vC r6 (vD_13.1 9) (vD_19.1 9)) (fun (vC_25 : Vs) => o1 (f_X5_advance vD_19) (fun (vD_27 : Vs) => o2 (f_X5_readSemicolon vD_27) (fun (r29 : Int32) (vD_30 : Vs) => gd (isB r29) (some (r29, vD_30, vC_25))))) else o2 (f_X5_fail vD_19 (-5 : Int32)) (fun (r36 : Int32) (vD_37 : Vs) => gd (isB r36) (some (r36, vD_37, vC))))))))) (fun k8 => if r6 = 0 then k8 else if r6 = (1 : Int32) then k8 else o2 (f_X5_fail vD_4 (-2 : Int32)) (fun (r54 : Int32) (vD_55 : Vs) => gd (isB r54) (some (r54, vD_55, vC)))))) else o2 (f_X5_fail vD (-6 : Int32)) (fun (r61 : Int32) (vD_62 : Vs) => gd (isB r61) (some (r61, vD_62, vC))))
abbrev wsX5_readBridge : List Cond := .code yX5_readBridge cX5_readBridge 4 (some .boolean) :: UW
abbrev rmX5_readBridge : Room := { frames := 6, cells := 0, slots := 0, locals := 127 }
set_option maxHeartbeats 4000000 in
set_option maxRecDepth 100000 in
theorem c_X5_readBridge (l : Launch) (g : Gx) (bD : Nat → Nat) (vD : Vs) (bS : Nat → Nat) (bC : Nat → Nat) (vC : Vs) (bT : Nat → Nat) (vT : Vs) (r : Int32) (vD1 : Vs) (vC1 : Vs) (hf : f_X5_readBridge vD vC vT = some (r, vD1, vC1)) : CtI l yX5_readBridge wsX5_readBridge rmX5_readBridge g [.ref (bD 0)] (cD g bD (bS 0) vD ++ (cS g bS (bC 0) (bT 0) ++ (cC g bC vC ++ (cT g bT vT)))) (cD g bD (bS 0) vD1 ++ (cS g bS (bC 0) (bT 0) ++ (cC g bC vC1 ++ (cT g bT vT)))) r 0 0 := by
  unfold CtI
  intro sz
  refine Met.ofW (cc := cX5_readBridge) (maxL := 4) (ret := (some .boolean)) (by decide) rfl ?_
  intro p e s m args below meth c s₁ B hml hv
  obtain ⟨rfl, hsz, hP, hK, hD0, hG⟩ := hv
  have hx := B.exec
  have hb := B.bytes
  have hr := B.returns
  have hts := atoms_spec (ws := wsX5_readBridge) B.pre
  have hown : s.vm.findClass RX5 = some m.cls := findClass_of_methodNamed B.named
  have hlocks := B.notSynchronized
  subst hsz
  have hD := hD0.self (sz := s.heap.size)
  generalize hAe : va_A (cD g bD (bS 0) vD ++ (cS g bS (bC 0) (bT 0) ++ (cC g bC vC ++ (cT g bT vT)))) s.heap.size = A at hD hG ⊢
  have hA : ∀ q : Nat, s.heap.size ≤ q → A q := fun q h => by rw [← hAe]; exact Or.inr h
  clear hAe hD0
  have hS : va_S A s.heap s.heap [] := va_S.rf
  have hl := lv_entry ([.ref (bD 0)]) (n := 4) (Nat.le_of_ble_eq_true rfl)
  rw [lg_entry_eq]
  generalize (lg_sl ([.ref (bD 0)]) ++ List.replicate (4 - (lg_sl ([.ref (bD 0)])).length) Slot.unset).toArray = ls at hl ⊢
  have hl : lv_has ls 4 [(0, .ref (bD 0))] := hl
  have htu : ∀ w ∈ UW, w.before _ s = true := fun w h => hts w (List.mem_cons_of_mem _ h)
  have k_1_157 := htu _ mw_1_157
  have k_1_148 := htu _ mw_1_148
  have k_1_168 := htu _ mw_1_168
  unfold f_X5_readBridge at hf
  obtain ⟨H, hH⟩ : ∃ z, z = s.heap := ⟨_, rfl⟩
  obtain ⟨locs, hlo⟩ : ∃ z : List Loc, z = [] := ⟨_, rfl⟩
  have hS : va_S A s.heap H locs := by rw [hH, hlo]; exact hS
  rw [← hH] at hP
  have hW : W p l e (headSpec wsX5_readBridge rmX5_readBridge).room s m ([.ref (bD 0)] : List Value).toArray below meth c H locs 0 0 (MQ below (qI g A (cD g bD (bS 0) vD1 ++ (cS g bS (bC 0) (bT 0) ++ (cC g bC vC1 ++ (cT g bT vT)))) r) ([.ref (bD 0)] : List Value).toArray s 0 0 A) (F0 m 0 ls []) := by
    refine lv_aload_n hx hb dX5_readBridge_0 rfl (lv_at hl 0 rfl) ?_
    refine va_get (D := g.1) (ci := 5) (fs := fcD bD (bS 0) vD) (v := .ref (bS 0)) (C := RX5) (T := TX5) (N := 10) hx hb htu hinX5 hown hK hP 0 rfl rfl 0 (by decide) k_1_157 (fun _ h9 => h9) rfl dX5_readBridge_1 ?_
    refine va_get (D := g.1) (ci := 4) (fs := fcS bS (bC 0) (bT 0)) (v := .ref (bC 0)) (C := RX4) (T := TX4) (N := 2) hx hb htu hinX4 hown hK hP 2 rfl rfl 0 (by decide) k_1_148 (fun _ h9 => h9) rfl dX5_readBridge_4 ?_
    refine lv_astore_n (lv' := [(1, .ref (bC 0)), (0, .ref (bD 0))]) hx hb dX5_readBridge_7 rfl hl (by decide) rfl (fun ls hl => ?_)
    refine lv_aload_n hx hb dX5_readBridge_8 rfl (lv_at hl 0 rfl) ?_
    obtain ⟨r1, hg2, hf⟩ := o1_at hf
    refine k_viP ⟨hx, hb, hml, hown, htu⟩ hK hP hD hS hA hG (c_X0_isFullOfBridges l g bC vC r1 hg2) (cwV 0 htu (gU_V mw_4_86 hcX0_isFullOfBridges) rfl rfl rfl hdX0_isFullOfBridges ⟨Nat.le_of_ble_eq_true rfl, Nat.le_of_ble_eq_true rfl⟩) (q0 := 3) (ci := 0) (fs := fcC bC vC) (q := (RX0, TX0, 14)) rfl rfl rfl (wr := (cD g bD (bS 0) vD ++ (cS g bS (bC 0) (bT 0) ++ (cT g bT vT)))) (w2 := cD g bD (bS 0) vD ++ (cS g bS (bC 0) (bT 0) ++ (cC g bC vC ++ (cT g bT vT)))) [3, 4, 5, 6, 7, 8, 9, 10, 11, 12, 13] [0, 1, 2, 14, 15, 16, 17, 18] [0, 1, 2, 8, 9, 10, 11, 12, 13, 14, 15, 16, 17, 18, 3, 4, 5, 6, 7] rfl rfl (by decide) (by decide) (by decide) rfl rfl (by decide) (As := []) (rest := []) rfl rfl hl.1 (Nat.le_of_ble_eq_true rfl) dX5_readBridge_9 (k1 := 0) (n1 := 0) rfl rfl ⟨Nat.zero_le _, Nat.zero_le _⟩ (fun H locs hP hD hS => ?_)
    refine lv_if_eq (tgt := 22) hx hb dX5_readBridge_12 (by decide) (fun c3 => ?_) (fun c3 => ?_)
    · have hf := it_t hf c3
      refine lv_aload_n hx hb dX5_readBridge_22 rfl (lv_at hl 1 rfl) ?_
      obtain ⟨vD_4, hg5, hf⟩ := o1_at hf
      refine k_vvP ⟨hx, hb, hml, hown, htu⟩ hK hP hD hS hA hG (c_X5_advance l g bD (bS 0) vD vD_4 hg5) (cwV 0 htu (gU_V mw_3_232 hcX5_advance) rfl rfl rfl hdX5_advance ⟨Nat.le_of_ble_eq_true rfl, Nat.le_of_ble_eq_true rfl⟩) (q0 := 0) (ci := 5) (fs := fcD bD (bS 0) vD) (q := (RX5, TX5, 10)) rfl rfl rfl (wr := (cS g bS (bC 0) (bT 0) ++ (cC g bC vC ++ (cT g bT vT)))) (w2 := cD g bD (bS 0) vD_4 ++ (cS g bS (bC 0) (bT 0) ++ (cC g bC vC ++ (cT g bT vT)))) [0, 1] [2, 3, 4, 5, 6, 7, 8, 9, 10, 11, 12, 13, 14, 15, 16, 17, 18] [17, 18, 0, 1, 2, 3, 4, 5, 6, 7, 8, 9, 10, 11, 12, 13, 14, 15, 16] rfl rfl (by decide) (by decide) (by decide) rfl rfl (by decide) (As := []) (rest := []) rfl rfl hl.1 (Nat.le_of_ble_eq_true rfl) dX5_readBridge_23 (k1 := 0) (n1 := 0) rfl rfl ⟨Nat.zero_le _, Nat.zero_le _⟩ (fun H locs hP hD hS => ?_)
      refine lv_aload_n hx hb dX5_readBridge_26 rfl (lv_at hl 1 rfl) ?_
      obtain ⟨r6, hg7, hf⟩ := o1_at hf
      refine k_viP ⟨hx, hb, hml, hown, htu⟩ hK hP hD hS hA hG (c_X5_kindOfWord l g bD (bS 0) vD_4 r6 hg7) (cwV 0 htu (gU_V mw_4_35 hcX5_kindOfWord) rfl rfl rfl hdX5_kindOfWord ⟨Nat.le_of_ble_eq_true rfl, Nat.le_of_ble_eq_true rfl⟩) (q0 := 0) (ci := 5) (fs := fcD bD (bS 0) vD_4) (q := (RX5, TX5, 10)) rfl rfl rfl (wr := (cS g bS (bC 0) (bT 0) ++ (cC g bC vC ++ (cT g bT vT)))) (w2 := cD g bD (bS 0) vD_4 ++ (cS g bS (bC 0) (bT 0) ++ (cC g bC vC ++ (cT g bT vT)))) [0, 1] [2, 3, 4, 5, 6, 7, 8, 9, 10, 11, 12, 13, 14, 15, 16, 17, 18] [17, 18, 0, 1, 2, 3, 4, 5, 6, 7, 8, 9, 10, 11, 12, 13, 14, 15, 16] rfl rfl (by decide) (by decide) (by decide) rfl rfl (by decide) (As := []) (rest := []) rfl rfl hl.1 (Nat.le_of_ble_eq_true rfl) dX5_readBridge_27 (k1 := 0) (n1 := 0) rfl rfl ⟨Nat.zero_le _, Nat.zero_le _⟩ (fun H locs hP hD hS => ?_)
      refine lv_istore_n (lv' := [(2, .int r6), (1, .ref (bC 0)), (0, .ref (bD 0))]) hx hb dX5_readBridge_30 rfl hl (by decide) rfl (fun ls hl => ?_)
      refine lv_iload_n hx hb dX5_readBridge_31 rfl (lv_at hl 0 rfl) ?_
      obtain ⟨k8, hk51, hf⟩ := jn_at hf
      have hJ9 : k8 = some (r, vD1, vC1) → ∀ (H : Heap) (locs : List Loc), va_P g.1 vwCl (cD g bD (bS 0) vD_4 ++ (cS g bS (bC 0) (bT 0) ++ (cC g bC vC ++ (cT g bT vT)))) H → va_D A (cD g bD (bS 0) vD_4 ++ (cS g bS (bC 0) (bT 0) ++ (cC g bC vC ++ (cT g bT vT)))) → va_S A s.heap H locs → ∀ ls : Array Slot, lv_has ls 4 [(0, .ref (bD 0)), (1, .ref (bC 0)), (2, .int r6)] → W p l e (headSpec wsX5_readBridge rmX5_readBridge).room s m ([.ref (bD 0)] : List Value).toArray below meth c H locs 0 0 (MQ below (qI g A (cD g bD (bS 0) vD1 ++ (cS g bS (bC 0) (bT 0) ++ (cC g bC vC1 ++ (cT g bT vT)))) r) ([.ref (bD 0)] : List Value).toArray s 0 0 A) (F0 m 47 ls []) := by
        intro hf H locs hP hD hS ls hl
        rw [hk51] at hf
        clear hk51
        refine lv_aload_n hx hb dX5_readBridge_47 rfl (lv_at hl 0 rfl) ?_
        obtain ⟨vD_10, hg11, hf⟩ := o1_at hf
        refine k_vvP ⟨hx, hb, hml, hown, htu⟩ hK hP hD hS hA hG (c_X5_advance l g bD (bS 0) vD_4 vD_10 hg11) (cwV 0 htu (gU_V mw_3_232 hcX5_advance) rfl rfl rfl hdX5_advance ⟨Nat.le_of_ble_eq_true rfl, Nat.le_of_ble_eq_true rfl⟩) (q0 := 0) (ci := 5) (fs := fcD bD (bS 0) vD_4) (q := (RX5, TX5, 10)) rfl rfl rfl (wr := (cS g bS (bC 0) (bT 0) ++ (cC g bC vC ++ (cT g bT vT)))) (w2 := cD g bD (bS 0) vD_10 ++ (cS g bS (bC 0) (bT 0) ++ (cC g bC vC ++ (cT g bT vT)))) [0, 1] [2, 3, 4, 5, 6, 7, 8, 9, 10, 11, 12, 13, 14, 15, 16, 17, 18] [17, 18, 0, 1, 2, 3, 4, 5, 6, 7, 8, 9, 10, 11, 12, 13, 14, 15, 16] rfl rfl (by decide) (by decide) (by decide) rfl rfl (by decide) (As := []) (rest := []) rfl rfl hl.1 (Nat.le_of_ble_eq_true rfl) dX5_readBridge_48 (k1 := 0) (n1 := 0) rfl rfl ⟨Nat.zero_le _, Nat.zero_le _⟩ (fun H locs hP hD hS => ?_)
        refine lv_aload_n hx hb dX5_readBridge_51 rfl (lv_at hl 0 rfl) ?_
        obtain ⟨r12, vD_13, hg14, hf⟩ := o2_at hf
        refine k_viW ⟨hx, hb, hml, hown, htu⟩ hK hP hD hS hA hG (c_X5_isKnownWire l g bD vD_10 bS bC vC bT vT r12 vD_13 hg14) (cwV 0 htu (gU_V mw_4_90 hcX5_isKnownWire) rfl rfl rfl hdX5_isKnownWire ⟨Nat.le_of_ble_eq_true rfl, Nat.le_of_ble_eq_true rfl⟩) (q0 := 0) (ci := 5) (fs := fcD bD (bS 0) vD_10) (q := (RX5, TX5, 10)) rfl rfl rfl (As := []) (rest := []) rfl rfl hl.1 (Nat.le_of_ble_eq_true rfl) dX5_readBridge_52 (k1 := 0) (n1 := 0) rfl rfl ⟨Nat.zero_le _, Nat.zero_le _⟩ (fun H locs hP hD hS => ?_)
        refine lv_if_ne (tgt := 60) hx hb dX5_readBridge_55 (by decide) (fun c15 => ?_) (fun c15 => ?_)
        · have hf := it_f hf c15
          refine lv_aload_n hx hb dX5_readBridge_60 rfl (lv_at hl 0 rfl) ?_
          refine va_get (D := g.1) (ci := 5) (fs := fcD bD (bS 0) vD_13) (v := .int (vD_13.1 9)) (C := RX5) (T := TX5) (N := 10) hx hb htu hinX5 hown hK hP 0 rfl rfl 9 (by decide) k_1_168 (fun _ h9 => h9) rfl dX5_readBridge_61 ?_
          refine lv_istore_n (lv' := [(3, .int (vD_13.1 9)), (0, .ref (bD 0)), (1, .ref (bC 0)), (2, .int r6)]) hx hb dX5_readBridge_64 rfl hl (by decide) rfl (fun ls hl => ?_)
          refine lv_aload_n hx hb dX5_readBridge_65 rfl (lv_at hl 1 rfl) ?_
          obtain ⟨vD_16, hg17, hf⟩ := o1_at hf
          refine k_vvP ⟨hx, hb, hml, hown, htu⟩ hK hP hD hS hA hG (c_X5_advance l g bD (bS 0) vD_13 vD_16 hg17) (cwV 0 htu (gU_V mw_3_232 hcX5_advance) rfl rfl rfl hdX5_advance ⟨Nat.le_of_ble_eq_true rfl, Nat.le_of_ble_eq_true rfl⟩) (q0 := 0) (ci := 5) (fs := fcD bD (bS 0) vD_13) (q := (RX5, TX5, 10)) rfl rfl rfl (wr := (cS g bS (bC 0) (bT 0) ++ (cC g bC vC ++ (cT g bT vT)))) (w2 := cD g bD (bS 0) vD_16 ++ (cS g bS (bC 0) (bT 0) ++ (cC g bC vC ++ (cT g bT vT)))) [0, 1] [2, 3, 4, 5, 6, 7, 8, 9, 10, 11, 12, 13, 14, 15, 16, 17, 18] [17, 18, 0, 1, 2, 3, 4, 5, 6, 7, 8, 9, 10, 11, 12, 13, 14, 15, 16] rfl rfl (by decide) (by decide) (by decide) rfl rfl (by decide) (As := []) (rest := []) rfl rfl hl.1 (Nat.le_of_ble_eq_true rfl) dX5_readBridge_66 (k1 := 0) (n1 := 0) rfl rfl ⟨Nat.zero_le _, Nat.zero_le _⟩ (fun H locs hP hD hS => ?_)
          refine lv_aload_n hx hb dX5_readBridge_69 rfl (lv_at hl 1 rfl) ?_
          obtain ⟨r18, vD_19, hg20, hf⟩ := o2_at hf
          refine k_viW ⟨hx, hb, hml, hown, htu⟩ hK hP hD hS hA hG (c_X5_isKnownWire l g bD vD_16 bS bC vC bT vT r18 vD_19 hg20) (cwV 0 htu (gU_V mw_4_90 hcX5_isKnownWire) rfl rfl rfl hdX5_isKnownWire ⟨Nat.le_of_ble_eq_true rfl, Nat.le_of_ble_eq_true rfl⟩) (q0 := 0) (ci := 5) (fs := fcD bD (bS 0) vD_16) (q := (RX5, TX5, 10)) rfl rfl rfl (As := []) (rest := []) rfl rfl hl.1 (Nat.le_of_ble_eq_true rfl) dX5_readBridge_70 (k1 := 0) (n1 := 0) rfl rfl ⟨Nat.zero_le _, Nat.zero_le _⟩ (fun H locs hP hD hS => ?_)
          refine lv_if_ne (tgt := 78) hx hb dX5_readBridge_73 (by decide) (fun c21 => ?_) (fun c21 => ?_)
          · have hf := it_f hf c21
            refine lv_aload_n hx hb dX5_readBridge_78 rfl (lv_at hl 2 rfl) ?_
            refine lv_iload_n hx hb dX5_readBridge_79 rfl (lv_at hl 0 rfl) ?_
            refine lv_aload_n hx hb dX5_readBridge_80 rfl (lv_at hl 1 rfl) ?_
            refine va_get (D := g.1) (ci := 5) (fs := fcD bD (bS 0) vD_19) (v := .int (vD_19.1 9)) (C := RX5) (T := TX5) (N := 10) hx hb htu hinX5 hown hK hP 0 rfl rfl 9 (by decide) k_1_168 (fun _ h9 => h9) rfl dX5_readBridge_81 ?_
            obtain ⟨r22, hg23, hf⟩ := o1_at hf
            refine k_viP ⟨hx, hb, hml, hown, htu⟩ hK hP hD hS hA hG (c_X0_wouldLoop l g bC vC (vD_13.1 9) (vD_19.1 9) r22 hg23) (cwV 2 htu (gU_V mw_4_94 hcX0_wouldLoop) rfl rfl rfl hdX0_wouldLoop ⟨Nat.le_of_ble_eq_true rfl, Nat.le_of_ble_eq_true rfl⟩) (q0 := 3) (ci := 0) (fs := fcC bC vC) (q := (RX0, TX0, 14)) rfl rfl rfl (wr := (cD g bD (bS 0) vD_19 ++ (cS g bS (bC 0) (bT 0) ++ (cT g bT vT)))) (w2 := cD g bD (bS 0) vD_19 ++ (cS g bS (bC 0) (bT 0) ++ (cC g bC vC ++ (cT g bT vT)))) [3, 4, 5, 6, 7, 8, 9, 10, 11, 12, 13] [0, 1, 2, 14, 15, 16, 17, 18] [0, 1, 2, 8, 9, 10, 11, 12, 13, 14, 15, 16, 17, 18, 3, 4, 5, 6, 7] rfl rfl (by decide) (by decide) (by decide) rfl rfl (by decide) (As := [.int (vD_13.1 9), .int (vD_19.1 9)]) (rest := []) rfl rfl hl.1 (Nat.le_of_ble_eq_true rfl) dX5_readBridge_84 (k1 := 0) (n1 := 0) rfl rfl ⟨Nat.zero_le _, Nat.zero_le _⟩ (fun H locs hP hD hS => ?_)
            refine lv_if_eq (tgt := 97) hx hb dX5_readBridge_87 (by decide) (fun c24 => ?_) (fun c24 => ?_)
            · have hf := it_t hf c24
              refine lv_aload_n hx hb dX5_readBridge_97 rfl (lv_at hl 2 rfl) ?_
              refine lv_iload_n hx hb dX5_readBridge_98 rfl (lv_at hl 3 rfl) ?_
              refine lv_iload_n hx hb dX5_readBridge_99 rfl (lv_at hl 0 rfl) ?_
              refine lv_aload_n hx hb dX5_readBridge_100 rfl (lv_at hl 1 rfl) ?_
              refine va_get (D := g.1) (ci := 5) (fs := fcD bD (bS 0) vD_19) (v := .int (vD_19.1 9)) (C := RX5) (T := TX5) (N := 10) hx hb htu hinX5 hown hK hP 0 rfl rfl 9 (by decide) k_1_168 (fun _ h9 => h9) rfl dX5_readBridge_101 ?_
              obtain ⟨vC_25, hg26, hf⟩ := o1_at hf
              refine k_vvP ⟨hx, hb, hml, hown, htu⟩ hK hP hD hS hA hG (c_X0_putBridge l g bC vC r6 (vD_13.1 9) (vD_19.1 9) vC_25 hg26) (cwV 3 htu (gU_V mw_4_99 hcX0_putBridge) rfl rfl rfl hdX0_putBridge ⟨Nat.le_of_ble_eq_true rfl, Nat.le_of_ble_eq_true rfl⟩) (q0 := 3) (ci := 0) (fs := fcC bC vC) (q := (RX0, TX0, 14)) rfl rfl rfl (wr := (cD g bD (bS 0) vD_19 ++ (cS g bS (bC 0) (bT 0) ++ (cT g bT vT)))) (w2 := cD g bD (bS 0) vD_19 ++ (cS g bS (bC 0) (bT 0) ++ (cC g bC vC_25 ++ (cT g bT vT)))) [3, 4, 5, 6, 7, 8, 9, 10, 11, 12, 13] [0, 1, 2, 14, 15, 16, 17, 18] [0, 1, 2, 8, 9, 10, 11, 12, 13, 14, 15, 16, 17, 18, 3, 4, 5, 6, 7] rfl rfl (by decide) (by decide) (by decide) rfl rfl (by decide) (As := [.int r6, .int (vD_13.1 9), .int (vD_19.1 9)]) (rest := []) rfl rfl hl.1 (Nat.le_of_ble_eq_true rfl) dX5_readBridge_104 (k1 := 0) (n1 := 0) rfl rfl ⟨Nat.zero_le _, Nat.zero_le _⟩ (fun H locs hP hD hS => ?_)
              refine lv_aload_n hx hb dX5_readBridge_107 rfl (lv_at hl 1 rfl) ?_
              obtain ⟨vD_27, hg28, hf⟩ := o1_at hf
              refine k_vvP ⟨hx, hb, hml, hown, htu⟩ hK hP hD hS hA hG (c_X5_advance l g bD (bS 0) vD_19 vD_27 hg28) (cwV 0 htu (gU_V mw_3_232 hcX5_advance) rfl rfl rfl hdX5_advance ⟨Nat.le_of_ble_eq_true rfl, Nat.le_of_ble_eq_true rfl⟩) (q0 := 0) (ci := 5) (fs := fcD bD (bS 0) vD_19) (q := (RX5, TX5, 10)) rfl rfl rfl (wr := (cS g bS (bC 0) (bT 0) ++ (cC g bC vC_25 ++ (cT g bT vT)))) (w2 := cD g bD (bS 0) vD_27 ++ (cS g bS (bC 0) (bT 0) ++ (cC g bC vC_25 ++ (cT g bT vT)))) [0, 1] [2, 3, 4, 5, 6, 7, 8, 9, 10, 11, 12, 13, 14, 15, 16, 17, 18] [17, 18, 0, 1, 2, 3, 4, 5, 6, 7, 8, 9, 10, 11, 12, 13, 14, 15, 16] rfl rfl (by decide) (by decide) (by decide) rfl rfl (by decide) (As := []) (rest := []) rfl rfl hl.1 (Nat.le_of_ble_eq_true rfl) dX5_readBridge_108 (k1 := 0) (n1 := 0) rfl rfl ⟨Nat.zero_le _, Nat.zero_le _⟩ (fun H locs hP hD hS => ?_)
              refine lv_aload_n hx hb dX5_readBridge_111 rfl (lv_at hl 1 rfl) ?_
              obtain ⟨r29, vD_30, hg31, hf⟩ := o2_at hf
              refine k_viP ⟨hx, hb, hml, hown, htu⟩ hK hP hD hS hA hG (c_X5_readSemicolon l g bD (bS 0) vD_27 r29 vD_30 hg31) (cwV 0 htu (gU_V mw_4_18 hcX5_readSemicolon) rfl rfl rfl hdX5_readSemicolon ⟨Nat.le_of_ble_eq_true rfl, Nat.le_of_ble_eq_true rfl⟩) (q0 := 0) (ci := 5) (fs := fcD bD (bS 0) vD_27) (q := (RX5, TX5, 10)) rfl rfl rfl (wr := (cS g bS (bC 0) (bT 0) ++ (cC g bC vC_25 ++ (cT g bT vT)))) (w2 := cD g bD (bS 0) vD_30 ++ (cS g bS (bC 0) (bT 0) ++ (cC g bC vC_25 ++ (cT g bT vT)))) [0, 1] [2, 3, 4, 5, 6, 7, 8, 9, 10, 11, 12, 13, 14, 15, 16, 17, 18] [17, 18, 0, 1, 2, 3, 4, 5, 6, 7, 8, 9, 10, 11, 12, 13, 14, 15, 16] rfl rfl (by decide) (by decide) (by decide) rfl rfl (by decide) (As := []) (rest := []) rfl rfl hl.1 (Nat.le_of_ble_eq_true rfl) dX5_readBridge_112 (k1 := 0) (n1 := 0) rfl rfl ⟨Nat.zero_le _, Nat.zero_le _⟩ (fun H locs hP hD hS => ?_)
              obtain ⟨h32, hf⟩ := gd_isB hf
              obtain ⟨e33, e34, e35⟩ := kp_3 hf
              rw [e34] at hP hD
              rw [e35] at hP hD
              exact k_zret hx hb hr hlocks hK hP hD hS e33 h32 dX5_readBridge_115
            · have hf := it_f hf c24
              refine lv_aload_n hx hb dX5_readBridge_90 rfl (lv_at hl 1 rfl) ?_
              refine lv_bipush (v := (-5 : Int32)) hx hb dX5_readBridge_91 (by decide) ?_
              obtain ⟨r36, vD_37, hg38, hf⟩ := o2_at hf
              refine k_viP ⟨hx, hb, hml, hown, htu⟩ hK hP hD hS hA hG (c_X5_fail l g bD (bS 0) vD_19 (-5 : Int32) r36 vD_37 hg38) (cwV 1 htu (gU_V mw_4_14 hcX5_fail) rfl rfl rfl hdX5_fail ⟨Nat.le_of_ble_eq_true rfl, Nat.le_of_ble_eq_true rfl⟩) (q0 := 0) (ci := 5) (fs := fcD bD (bS 0) vD_19) (q := (RX5, TX5, 10)) rfl rfl rfl (wr := (cS g bS (bC 0) (bT 0) ++ (cC g bC vC ++ (cT g bT vT)))) (w2 := cD g bD (bS 0) vD_37 ++ (cS g bS (bC 0) (bT 0) ++ (cC g bC vC ++ (cT g bT vT)))) [0, 1] [2, 3, 4, 5, 6, 7, 8, 9, 10, 11, 12, 13, 14, 15, 16, 17, 18] [17, 18, 0, 1, 2, 3, 4, 5, 6, 7, 8, 9, 10, 11, 12, 13, 14, 15, 16] rfl rfl (by decide) (by decide) (by decide) rfl rfl (by decide) (As := [.int (-5 : Int32)]) (rest := []) rfl rfl hl.1 (Nat.le_of_ble_eq_true rfl) dX5_readBridge_93 (k1 := 0) (n1 := 0) rfl rfl ⟨Nat.zero_le _, Nat.zero_le _⟩ (fun H locs hP hD hS => ?_)
              obtain ⟨h39, hf⟩ := gd_isB hf
              obtain ⟨e40, e41, e42⟩ := kp_3 hf
              rw [e41] at hP hD
              rw [e42] at hP hD
              exact k_zret hx hb hr hlocks hK hP hD hS e40 h39 dX5_readBridge_96
          · have hf := it_t hf c21
            refine lv_iconst (v := (0 : Int32)) hx hb dX5_readBridge_76 (by decide) ?_
            obtain ⟨h43, hf⟩ := gd_isB hf
            obtain ⟨e44, e45, e46⟩ := kp_3 hf
            rw [e45] at hP hD
            rw [e46] at hP hD
            exact k_zret hx hb hr hlocks hK hP hD hS e44 h43 dX5_readBridge_77
        · have hf := it_t hf c15
          refine lv_iconst (v := (0 : Int32)) hx hb dX5_readBridge_58 (by decide) ?_
          obtain ⟨h47, hf⟩ := gd_isB hf
          obtain ⟨e48, e49, e50⟩ := kp_3 hf
          rw [e49] at hP hD
          rw [e50] at hP hD
          exact k_zret hx hb hr hlocks hK hP hD hS e48 h47 dX5_readBridge_59
      refine lv_if_eq (tgt := 47) hx hb dX5_readBridge_32 (by decide) (fun c52 => ?_) (fun c52 => ?_)
      · have hf := it_t hf c52
        exact hJ9 hf H locs hP hD hS _ (lv_sub hl [2, 1, 0] rfl)
      · have hf := it_f hf c52
        refine lv_iload_n hx hb dX5_readBridge_35 rfl (lv_at hl 0 rfl) ?_
        refine lv_iconst (v := (1 : Int32)) hx hb dX5_readBridge_36 (by decide) ?_
        refine lv_icmp_eq (tgt := 47) hx hb dX5_readBridge_37 (by decide) (fun c53 => ?_) (fun c53 => ?_)
        · have hf := it_t hf c53
          exact hJ9 hf H locs hP hD hS _ (lv_sub hl [2, 1, 0] rfl)
        · have hf := it_f hf c53
          refine lv_aload_n hx hb dX5_readBridge_40 rfl (lv_at hl 2 rfl) ?_
          refine lv_bipush (v := (-2 : Int32)) hx hb dX5_readBridge_41 (by decide) ?_
          obtain ⟨r54, vD_55, hg56, hf⟩ := o2_at hf
          refine k_viP ⟨hx, hb, hml, hown, htu⟩ hK hP hD hS hA hG (c_X5_fail l g bD (bS 0) vD_4 (-2 : Int32) r54 vD_55 hg56) (cwV 1 htu (gU_V mw_4_14 hcX5_fail) rfl rfl rfl hdX5_fail ⟨Nat.le_of_ble_eq_true rfl, Nat.le_of_ble_eq_true rfl⟩) (q0 := 0) (ci := 5) (fs := fcD bD (bS 0) vD_4) (q := (RX5, TX5, 10)) rfl rfl rfl (wr := (cS g bS (bC 0) (bT 0) ++ (cC g bC vC ++ (cT g bT vT)))) (w2 := cD g bD (bS 0) vD_55 ++ (cS g bS (bC 0) (bT 0) ++ (cC g bC vC ++ (cT g bT vT)))) [0, 1] [2, 3, 4, 5, 6, 7, 8, 9, 10, 11, 12, 13, 14, 15, 16, 17, 18] [17, 18, 0, 1, 2, 3, 4, 5, 6, 7, 8, 9, 10, 11, 12, 13, 14, 15, 16] rfl rfl (by decide) (by decide) (by decide) rfl rfl (by decide) (As := [.int (-2 : Int32)]) (rest := []) rfl rfl hl.1 (Nat.le_of_ble_eq_true rfl) dX5_readBridge_43 (k1 := 0) (n1 := 0) rfl rfl ⟨Nat.zero_le _, Nat.zero_le _⟩ (fun H locs hP hD hS => ?_)
          obtain ⟨h57, hf⟩ := gd_isB hf
          obtain ⟨e58, e59, e60⟩ := kp_3 hf
          rw [e59] at hP hD
          rw [e60] at hP hD
          exact k_zret hx hb hr hlocks hK hP hD hS e58 h57 dX5_readBridge_46
    · have hf := it_f hf c3
      refine lv_aload_n hx hb dX5_readBridge_15 rfl (lv_at hl 1 rfl) ?_
      refine lv_bipush (v := (-6 : Int32)) hx hb dX5_readBridge_16 (by decide) ?_
      obtain ⟨r61, vD_62, hg63, hf⟩ := o2_at hf
      refine k_viP ⟨hx, hb, hml, hown, htu⟩ hK hP hD hS hA hG (c_X5_fail l g bD (bS 0) vD (-6 : Int32) r61 vD_62 hg63) (cwV 1 htu (gU_V mw_4_14 hcX5_fail) rfl rfl rfl hdX5_fail ⟨Nat.le_of_ble_eq_true rfl, Nat.le_of_ble_eq_true rfl⟩) (q0 := 0) (ci := 5) (fs := fcD bD (bS 0) vD) (q := (RX5, TX5, 10)) rfl rfl rfl (wr := (cS g bS (bC 0) (bT 0) ++ (cC g bC vC ++ (cT g bT vT)))) (w2 := cD g bD (bS 0) vD_62 ++ (cS g bS (bC 0) (bT 0) ++ (cC g bC vC ++ (cT g bT vT)))) [0, 1] [2, 3, 4, 5, 6, 7, 8, 9, 10, 11, 12, 13, 14, 15, 16, 17, 18] [17, 18, 0, 1, 2, 3, 4, 5, 6, 7, 8, 9, 10, 11, 12, 13, 14, 15, 16] rfl rfl (by decide) (by decide) (by decide) rfl rfl (by decide) (As := [.int (-6 : Int32)]) (rest := []) rfl rfl hl.1 (Nat.le_of_ble_eq_true rfl) dX5_readBridge_18 (k1 := 0) (n1 := 0) rfl rfl ⟨Nat.zero_le _, Nat.zero_le _⟩ (fun H locs hP hD hS => ?_)
      obtain ⟨h64, hf⟩ := gd_isB hf
      obtain ⟨e65, e66, e67⟩ := kp_3 hf
      rw [e66] at hP hD
      rw [e67] at hP hD
      exact k_zret hx hb hr hlocks hK hP hD hS e65 h64 dX5_readBridge_21
  rw [hH, hlo] at hW
  exact hW
def f_X5_readTest_L30 (vC : Vs) (vT : Vs) (self10 : Int32 → Int32 → Int32 → Vs → Option (Int32 × Vs × Vs)) (x1_6 : Int32) (x2_7 : Int32) (x3_8 : Int32) (vD_9 : Vs) : Option (Int32 × Vs × Vs) :=
  if (vC.1 0) ≤ x3_8 then o1 (f_X6_put vT x1_6 x2_7) (fun (vT_14 : Vs) => o2 (f_X5_readSemicolon vD_9) (fun (r16 : Int32) (vD_17 : Vs) => gd (isB r16) (some (r16, vD_17, vT_14)))) else o1 (f_X5_isWord vD_9 24) (fun (r23 : Int32) => jn (fun (x1_25 : Int32) (x2_26 : Int32) => o1 (f_X5_advance vD_9) (fun (vD_29 : Vs) => self10 x1_25 x2_26 (x3_8 + (1 : Int32)) vD_29)) (fun k27 => if r23 = 0 then if (vD_9.1 7) = (2 : Int32) then if (vD_9.1 9) ≤ (1 : Int32) then k27 (x1_6 ||| ((vD_9.1 9) <<< (x3_8 &&& 31))) x2_7 else o2 (f_X5_fail vD_9 (-3 : Int32)) (fun (r35 : Int32) (vD_36 : Vs) => gd (isB r35) (some (r35, vD_36, vT))) else o2 (f_X5_fail vD_9 (-2 : Int32)) (fun (r42 : Int32) (vD_43 : Vs) => gd (isB r42) (some (r42, vD_43, vT))) else k27 x1_6 (x2_7 ||| ((1 : Int32) <<< (x3_8 &&& 31)))))
def f_X5_readTest (vD : Vs) (vC : Vs) (vT : Vs) : Option (Int32 × Vs × Vs) :=
  o1 (f_X6_isFull vT) (fun (r1 : Int32) => if r1 = 0 then o1 (f_X5_advance vD) (fun (vD_4 : Vs) => lp (f_X5_readTest_L30 vC vT) (fun _ _ _ _ => none) FU (0 : Int32) (0 : Int32) (0 : Int32) vD_4) else o2 (f_X5_fail vD (-6 : Int32)) (fun (r49 : Int32) (vD_50 : Vs) => gd (isB r49) (some (r49, vD_50, vT))))
abbrev wsX5_readTest : List Cond := .code yX5_readTest cX5_readTest 4 (some .boolean) :: UW
abbrev rmX5_readTest : Room := { frames := 5, cells := 0, slots := 0, locals := 107 }
set_option maxHeartbeats 4000000 in
set_option maxRecDepth 100000 in
theorem c_X5_readTest (l : Launch) (g : Gx) (bD : Nat → Nat) (vD : Vs) (bS : Nat → Nat) (bC : Nat → Nat) (vC : Vs) (bT : Nat → Nat) (vT : Vs) (r : Int32) (vD1 : Vs) (vT1 : Vs) (hf : f_X5_readTest vD vC vT = some (r, vD1, vT1)) : CtI l yX5_readTest wsX5_readTest rmX5_readTest g [.ref (bD 0)] (cD g bD (bS 0) vD ++ (cS g bS (bC 0) (bT 0) ++ (cC g bC vC ++ (cT g bT vT)))) (cD g bD (bS 0) vD1 ++ (cS g bS (bC 0) (bT 0) ++ (cC g bC vC ++ (cT g bT vT1)))) r 0 0 := by
  unfold CtI
  intro sz
  refine Met.ofW (cc := cX5_readTest) (maxL := 4) (ret := (some .boolean)) (by decide) rfl ?_
  intro p e s m args below meth c s₁ B hml hv
  obtain ⟨rfl, hsz, hP, hK, hD0, hG⟩ := hv
  have hx := B.exec
  have hb := B.bytes
  have hr := B.returns
  have hts := atoms_spec (ws := wsX5_readTest) B.pre
  have hown : s.vm.findClass RX5 = some m.cls := findClass_of_methodNamed B.named
  have hlocks := B.notSynchronized
  subst hsz
  have hD := hD0.self (sz := s.heap.size)
  generalize hAe : va_A (cD g bD (bS 0) vD ++ (cS g bS (bC 0) (bT 0) ++ (cC g bC vC ++ (cT g bT vT)))) s.heap.size = A at hD hG ⊢
  have hA : ∀ q : Nat, s.heap.size ≤ q → A q := fun q h => by rw [← hAe]; exact Or.inr h
  clear hAe hD0
  have hS : va_S A s.heap s.heap [] := va_S.rf
  have hl := lv_entry ([.ref (bD 0)]) (n := 4) (Nat.le_of_ble_eq_true rfl)
  rw [lg_entry_eq]
  generalize (lg_sl ([.ref (bD 0)]) ++ List.replicate (4 - (lg_sl ([.ref (bD 0)])).length) Slot.unset).toArray = ls at hl ⊢
  have hl : lv_has ls 4 [(0, .ref (bD 0))] := hl
  have htu : ∀ w ∈ UW, w.before _ s = true := fun w h => hts w (List.mem_cons_of_mem _ h)
  have k_1_157 := htu _ mw_1_157
  have k_1_151 := htu _ mw_1_151
  have k_1_148 := htu _ mw_1_148
  have k_1_62 := htu _ mw_1_62
  have k_1_166 := htu _ mw_1_166
  have k_1_168 := htu _ mw_1_168
  unfold f_X5_readTest at hf
  obtain ⟨H, hH⟩ : ∃ z, z = s.heap := ⟨_, rfl⟩
  obtain ⟨locs, hlo⟩ : ∃ z : List Loc, z = [] := ⟨_, rfl⟩
  have hS : va_S A s.heap H locs := by rw [hH, hlo]; exact hS
  rw [← hH] at hP
  have hW : W p l e (headSpec wsX5_readTest rmX5_readTest).room s m ([.ref (bD 0)] : List Value).toArray below meth c H locs 0 0 (MQ below (qI g A (cD g bD (bS 0) vD1 ++ (cS g bS (bC 0) (bT 0) ++ (cC g bC vC ++ (cT g bT vT1)))) r) ([.ref (bD 0)] : List Value).toArray s 0 0 A) (F0 m 0 ls []) := by
    refine lv_aload_n hx hb dX5_readTest_0 rfl (lv_at hl 0 rfl) ?_
    refine va_get (D := g.1) (ci := 5) (fs := fcD bD (bS 0) vD) (v := .ref (bS 0)) (C := RX5) (T := TX5) (N := 10) hx hb htu hinX5 hown hK hP 0 rfl rfl 0 (by decide) k_1_157 (fun _ h9 => h9) rfl dX5_readTest_1 ?_
    refine va_get (D := g.1) (ci := 4) (fs := fcS bS (bC 0) (bT 0)) (v := .ref (bT 0)) (C := RX4) (T := TX4) (N := 2) hx hb htu hinX4 hown hK hP 2 rfl rfl 1 (by decide) k_1_151 (fun _ h9 => h9) rfl dX5_readTest_4 ?_
    obtain ⟨r1, hg2, hf⟩ := o1_at hf
    refine k_viP ⟨hx, hb, hml, hown, htu⟩ hK hP hD hS hA hG (c_X6_isFull l g bT vT r1 hg2) (cwV 0 htu (gU_V mw_4_108 hcX6_isFull) rfl rfl rfl hdX6_isFull ⟨Nat.le_of_ble_eq_true rfl, Nat.le_of_ble_eq_true rfl⟩) (q0 := 14) (ci := 6) (fs := fcT bT vT) (q := (RX6, TX6, 5)) rfl rfl rfl (wr := (cD g bD (bS 0) vD ++ (cS g bS (bC 0) (bT 0) ++ (cC g bC vC)))) (w2 := cD g bD (bS 0) vD ++ (cS g bS (bC 0) (bT 0) ++ (cC g bC vC ++ (cT g bT vT)))) [14, 15, 16, 17, 18] [0, 1, 2, 3, 4, 5, 6, 7, 8, 9, 10, 11, 12, 13] [0, 1, 2, 3, 4, 5, 6, 7, 8, 9, 10, 11, 12, 13, 14, 15, 16, 17, 18] rfl rfl (by decide) (by decide) (by decide) rfl rfl (by decide) (As := []) (rest := []) rfl rfl hl.1 (Nat.le_of_ble_eq_true rfl) dX5_readTest_7 (k1 := 0) (n1 := 0) rfl rfl ⟨Nat.zero_le _, Nat.zero_le _⟩ (fun H locs hP hD hS => ?_)
    refine lv_if_eq (tgt := 20) hx hb dX5_readTest_10 (by decide) (fun c3 => ?_) (fun c3 => ?_)
    · have hf := it_t hf c3
      refine lv_aload_n hx hb dX5_readTest_20 rfl (lv_at hl 0 rfl) ?_
      obtain ⟨vD_4, hg5, hf⟩ := o1_at hf
      refine k_vvP ⟨hx, hb, hml, hown, htu⟩ hK hP hD hS hA hG (c_X5_advance l g bD (bS 0) vD vD_4 hg5) (cwV 0 htu (gU_V mw_3_232 hcX5_advance) rfl rfl rfl hdX5_advance ⟨Nat.le_of_ble_eq_true rfl, Nat.le_of_ble_eq_true rfl⟩) (q0 := 0) (ci := 5) (fs := fcD bD (bS 0) vD) (q := (RX5, TX5, 10)) rfl rfl rfl (wr := (cS g bS (bC 0) (bT 0) ++ (cC g bC vC ++ (cT g bT vT)))) (w2 := cD g bD (bS 0) vD_4 ++ (cS g bS (bC 0) (bT 0) ++ (cC g bC vC ++ (cT g bT vT)))) [0, 1] [2, 3, 4, 5, 6, 7, 8, 9, 10, 11, 12, 13, 14, 15, 16, 17, 18] [17, 18, 0, 1, 2, 3, 4, 5, 6, 7, 8, 9, 10, 11, 12, 13, 14, 15, 16] rfl rfl (by decide) (by decide) (by decide) rfl rfl (by decide) (As := []) (rest := []) rfl rfl hl.1 (Nat.le_of_ble_eq_true rfl) dX5_readTest_21 (k1 := 0) (n1 := 0) rfl rfl ⟨Nat.zero_le _, Nat.zero_le _⟩ (fun H locs hP hD hS => ?_)
      refine lv_iconst (v := (0 : Int32)) hx hb dX5_readTest_24 (by decide) ?_
      refine lv_istore_n (lv' := [(1, .int (0 : Int32)), (0, .ref (bD 0))]) hx hb dX5_readTest_25 rfl hl (by decide) rfl (fun ls hl => ?_)
      refine lv_iconst (v := (0 : Int32)) hx hb dX5_readTest_26 (by decide) ?_
      refine lv_istore_n (lv' := [(2, .int (0 : Int32)), (1, .int (0 : Int32)), (0, .ref (bD 0))]) hx hb dX5_readTest_27 rfl hl (by decide) rfl (fun ls hl => ?_)
      refine lv_iconst (v := (0 : Int32)) hx hb dX5_readTest_28 (by decide) ?_
      refine lv_istore_n (lv' := [(3, .int (0 : Int32)), (2, .int (0 : Int32)), (1, .int (0 : Int32)), (0, .ref (bD 0))]) hx hb dX5_readTest_29 rfl hl (by decide) rfl (fun ls hl => ?_)
      have hL11 : ∀ (x1_6 : Int32) (x2_7 : Int32) (x3_8 : Int32) (vD_9 : Vs), lp (f_X5_readTest_L30 vC vT) (fun _ _ _ _ => none) FU x1_6 x2_7 x3_8 vD_9 = some (r, vD1, vT1) → ∀ (H : Heap) (locs : List Loc), va_P g.1 vwCl (cD g bD (bS 0) vD_9 ++ (cS g bS (bC 0) (bT 0) ++ (cC g bC vC ++ (cT g bT vT)))) H → va_D A (cD g bD (bS 0) vD_9 ++ (cS g bS (bC 0) (bT 0) ++ (cC g bC vC ++ (cT g bT vT)))) → va_S A s.heap H locs → ∀ ls : Array Slot, lv_has ls 4 [(0, .ref (bD 0)), (1, .int x1_6), (2, .int x2_7), (3, .int x3_8)] → W p l e (headSpec wsX5_readTest rmX5_readTest).room s m ([.ref (bD 0)] : List Value).toArray below meth c H locs 0 0 (MQ below (qI g A (cD g bD (bS 0) vD1 ++ (cS g bS (bC 0) (bT 0) ++ (cC g bC vC ++ (cT g bT vT1)))) r) ([.ref (bD 0)] : List Value).toArray s 0 0 A) (F0 m 30 ls []) := by
        refine lp_ind (T := Int32 → Int32 → Int32 → Vs → Option (Int32 × Vs × Vs)) (fun self10 => ∀ (x1_6 : Int32) (x2_7 : Int32) (x3_8 : Int32) (vD_9 : Vs), self10 x1_6 x2_7 x3_8 vD_9 = some (r, vD1, vT1) → ∀ (H : Heap) (locs : List Loc), va_P g.1 vwCl (cD g bD (bS 0) vD_9 ++ (cS g bS (bC 0) (bT 0) ++ (cC g bC vC ++ (cT g bT vT)))) H → va_D A (cD g bD (bS 0) vD_9 ++ (cS g bS (bC 0) (bT 0) ++ (cC g bC vC ++ (cT g bT vT)))) → va_S A s.heap H locs → ∀ ls : Array Slot, lv_has ls 4 [(0, .ref (bD 0)), (1, .int x1_6), (2, .int x2_7), (3, .int x3_8)] → W p l e (headSpec wsX5_readTest rmX5_readTest).room s m ([.ref (bD 0)] : List Value).toArray below meth c H locs 0 0 (MQ below (qI g A (cD g bD (bS 0) vD1 ++ (cS g bS (bC 0) (bT 0) ++ (cC g bC vC ++ (cT g bT vT1)))) r) ([.ref (bD 0)] : List Value).toArray s 0 0 A) (F0 m 30 ls [])) ?_ ?_ FU
        · intro x1_6 x2_7 x3_8 vD_9 hf; cases hf
        · intro self10 ih12 x1_6 x2_7 x3_8 vD_9 hf H locs hP hD hS ls hl
          unfold f_X5_readTest_L30 at hf
          refine lv_iload_n hx hb dX5_readTest_30 rfl (lv_at hl 3 rfl) ?_
          refine lv_aload_n hx hb dX5_readTest_31 rfl (lv_at hl 0 rfl) ?_
          refine va_get (D := g.1) (ci := 5) (fs := fcD bD (bS 0) vD_9) (v := .ref (bS 0)) (C := RX5) (T := TX5) (N := 10) hx hb htu hinX5 hown hK hP 0 rfl rfl 0 (by decide) k_1_157 (fun _ h9 => h9) rfl dX5_readTest_32 ?_
          refine va_get (D := g.1) (ci := 4) (fs := fcS bS (bC 0) (bT 0)) (v := .ref (bC 0)) (C := RX4) (T := TX4) (N := 2) hx hb htu hinX4 hown hK hP 2 rfl rfl 0 (by decide) k_1_148 (fun _ h9 => h9) rfl dX5_readTest_35 ?_
          refine va_get (D := g.1) (ci := 0) (fs := fcC bC vC) (v := .int (vC.1 0)) (C := RX0) (T := TX0) (N := 14) hx hb htu hinX0 hown hK hP 3 rfl rfl 0 (by decide) k_1_62 (fun _ h9 => h9) rfl dX5_readTest_38 ?_
          refine lv_icmp_ge (tgt := 111) hx hb dX5_readTest_41 (by decide) (fun c13 => ?_) (fun c13 => ?_)
          · have hf := it_t hf c13
            refine lv_aload_n hx hb dX5_readTest_111 rfl (lv_at hl 0 rfl) ?_
            refine va_get (D := g.1) (ci := 5) (fs := fcD bD (bS 0) vD_9) (v := .ref (bS 0)) (C := RX5) (T := TX5) (N := 10) hx hb htu hinX5 hown hK hP 0 rfl rfl 0 (by decide) k_1_157 (fun _ h9 => h9) rfl dX5_readTest_112 ?_
            refine va_get (D := g.1) (ci := 4) (fs := fcS bS (bC 0) (bT 0)) (v := .ref (bT 0)) (C := RX4) (T := TX4) (N := 2) hx hb htu hinX4 hown hK hP 2 rfl rfl 1 (by decide) k_1_151 (fun _ h9 => h9) rfl dX5_readTest_115 ?_
            refine lv_iload_n hx hb dX5_readTest_118 rfl (lv_at hl 1 rfl) ?_
            refine lv_iload_n hx hb dX5_readTest_119 rfl (lv_at hl 2 rfl) ?_
            obtain ⟨vT_14, hg15, hf⟩ := o1_at hf
            refine k_vvP ⟨hx, hb, hml, hown, htu⟩ hK hP hD hS hA hG (c_X6_put l g bT vT x1_6 x2_7 vT_14 hg15) (cwV 2 htu (gU_V mw_4_113 hcX6_put) rfl rfl rfl hdX6_put ⟨Nat.le_of_ble_eq_true rfl, Nat.le_of_ble_eq_true rfl⟩) (q0 := 14) (ci := 6) (fs := fcT bT vT) (q := (RX6, TX6, 5)) rfl rfl rfl (wr := (cD g bD (bS 0) vD_9 ++ (cS g bS (bC 0) (bT 0) ++ (cC g bC vC)))) (w2 := cD g bD (bS 0) vD_9 ++ (cS g bS (bC 0) (bT 0) ++ (cC g bC vC ++ (cT g bT vT_14)))) [14, 15, 16, 17, 18] [0, 1, 2, 3, 4, 5, 6, 7, 8, 9, 10, 11, 12, 13] [0, 1, 2, 3, 4, 5, 6, 7, 8, 9, 10, 11, 12, 13, 14, 15, 16, 17, 18] rfl rfl (by decide) (by decide) (by decide) rfl rfl (by decide) (As := [.int x1_6, .int x2_7]) (rest := []) rfl rfl hl.1 (Nat.le_of_ble_eq_true rfl) dX5_readTest_120 (k1 := 0) (n1 := 0) rfl rfl ⟨Nat.zero_le _, Nat.zero_le _⟩ (fun H locs hP hD hS => ?_)
            refine lv_aload_n hx hb dX5_readTest_123 rfl (lv_at hl 0 rfl) ?_
            obtain ⟨r16, vD_17, hg18, hf⟩ := o2_at hf
            refine k_viP ⟨hx, hb, hml, hown, htu⟩ hK hP hD hS hA hG (c_X5_readSemicolon l g bD (bS 0) vD_9 r16 vD_17 hg18) (cwV 0 htu (gU_V mw_4_18 hcX5_readSemicolon) rfl rfl rfl hdX5_readSemicolon ⟨Nat.le_of_ble_eq_true rfl, Nat.le_of_ble_eq_true rfl⟩) (q0 := 0) (ci := 5) (fs := fcD bD (bS 0) vD_9) (q := (RX5, TX5, 10)) rfl rfl rfl (wr := (cS g bS (bC 0) (bT 0) ++ (cC g bC vC ++ (cT g bT vT_14)))) (w2 := cD g bD (bS 0) vD_17 ++ (cS g bS (bC 0) (bT 0) ++ (cC g bC vC ++ (cT g bT vT_14)))) [0, 1] [2, 3, 4, 5, 6, 7, 8, 9, 10, 11, 12, 13, 14, 15, 16, 17, 18] [17, 18, 0, 1, 2, 3, 4, 5, 6, 7, 8, 9, 10, 11, 12, 13, 14, 15, 16] rfl rfl (by decide) (by decide) (by decide) rfl rfl (by decide) (As := []) (rest := []) rfl rfl hl.1 (Nat.le_of_ble_eq_true rfl) dX5_readTest_124 (k1 := 0) (n1 := 0) rfl rfl ⟨Nat.zero_le _, Nat.zero_le _⟩ (fun H locs hP hD hS => ?_)
            obtain ⟨h19, hf⟩ := gd_isB hf
            obtain ⟨e20, e21, e22⟩ := kp_3 hf
            rw [e21] at hP hD
            rw [e22] at hP hD
            exact k_zret hx hb hr hlocks hK hP hD hS e20 h19 dX5_readTest_127
          · have hf := it_f hf c13
            refine lv_aload_n hx hb dX5_readTest_44 rfl (lv_at hl 0 rfl) ?_
            refine va_ldcS hx hb hown (tx := "x") (q := adK g 24) (hG.1.1 ("FaultTests$SetupReader", 166, "x", 24) (List.mem_of_getElem? (i := 12) rfl)) dX5_readTest_45 ?_
            obtain ⟨r23, hg24, hf⟩ := o1_at hf
            refine k_viP ⟨hx, hb, hml, hown, htu⟩ hK hP hD hS hA hG (c_X5_isWord l g bD (bS 0) vD_9 24 (by decide) r23 hg24) (cwV 1 htu (gU_V mw_4_8 hcX5_isWord) rfl rfl rfl hdX5_isWord ⟨Nat.le_of_ble_eq_true rfl, Nat.le_of_ble_eq_true rfl⟩) (q0 := 0) (ci := 5) (fs := fcD bD (bS 0) vD_9) (q := (RX5, TX5, 10)) rfl rfl rfl (wr := (cS g bS (bC 0) (bT 0) ++ (cC g bC vC ++ (cT g bT vT)))) (w2 := cD g bD (bS 0) vD_9 ++ (cS g bS (bC 0) (bT 0) ++ (cC g bC vC ++ (cT g bT vT)))) [0, 1] [2, 3, 4, 5, 6, 7, 8, 9, 10, 11, 12, 13, 14, 15, 16, 17, 18] [17, 18, 0, 1, 2, 3, 4, 5, 6, 7, 8, 9, 10, 11, 12, 13, 14, 15, 16] rfl rfl (by decide) (by decide) (by decide) rfl rfl (by decide) (As := [.ref (adK g 24)]) (rest := []) rfl rfl hl.1 (Nat.le_of_ble_eq_true rfl) dX5_readTest_47 (k1 := 0) (n1 := 0) rfl rfl ⟨Nat.zero_le _, Nat.zero_le _⟩ (fun H locs hP hD hS => ?_)
            obtain ⟨k27, hk31, hf⟩ := jn_at hf
            have hJ28 : ∀ (x1_25 : Int32) (x2_26 : Int32), k27 x1_25 x2_26 = some (r, vD1, vT1) → ∀ (H : Heap) (locs : List Loc), va_P g.1 vwCl (cD g bD (bS 0) vD_9 ++ (cS g bS (bC 0) (bT 0) ++ (cC g bC vC ++ (cT g bT vT)))) H → va_D A (cD g bD (bS 0) vD_9 ++ (cS g bS (bC 0) (bT 0) ++ (cC g bC vC ++ (cT g bT vT)))) → va_S A s.heap H locs → ∀ ls : Array Slot, lv_has ls 4 [(0, .ref (bD 0)), (1, .int x1_25), (2, .int x2_26), (3, .int x3_8)] → W p l e (headSpec wsX5_readTest rmX5_readTest).room s m ([.ref (bD 0)] : List Value).toArray below meth c H locs 0 0 (MQ below (qI g A (cD g bD (bS 0) vD1 ++ (cS g bS (bC 0) (bT 0) ++ (cC g bC vC ++ (cT g bT vT1)))) r) ([.ref (bD 0)] : List Value).toArray s 0 0 A) (F0 m 101 ls []) := by
              intro x1_25 x2_26 hf H locs hP hD hS ls hl
              rw [hk31] at hf
              dsimp only at hf
              clear hk31
              refine lv_aload_n hx hb dX5_readTest_101 rfl (lv_at hl 0 rfl) ?_
              obtain ⟨vD_29, hg30, hf⟩ := o1_at hf
              refine k_vvP ⟨hx, hb, hml, hown, htu⟩ hK hP hD hS hA hG (c_X5_advance l g bD (bS 0) vD_9 vD_29 hg30) (cwV 0 htu (gU_V mw_3_232 hcX5_advance) rfl rfl rfl hdX5_advance ⟨Nat.le_of_ble_eq_true rfl, Nat.le_of_ble_eq_true rfl⟩) (q0 := 0) (ci := 5) (fs := fcD bD (bS 0) vD_9) (q := (RX5, TX5, 10)) rfl rfl rfl (wr := (cS g bS (bC 0) (bT 0) ++ (cC g bC vC ++ (cT g bT vT)))) (w2 := cD g bD (bS 0) vD_29 ++ (cS g bS (bC 0) (bT 0) ++ (cC g bC vC ++ (cT g bT vT)))) [0, 1] [2, 3, 4, 5, 6, 7, 8, 9, 10, 11, 12, 13, 14, 15, 16, 17, 18] [17, 18, 0, 1, 2, 3, 4, 5, 6, 7, 8, 9, 10, 11, 12, 13, 14, 15, 16] rfl rfl (by decide) (by decide) (by decide) rfl rfl (by decide) (As := []) (rest := []) rfl rfl hl.1 (Nat.le_of_ble_eq_true rfl) dX5_readTest_102 (k1 := 0) (n1 := 0) rfl rfl ⟨Nat.zero_le _, Nat.zero_le _⟩ (fun H locs hP hD hS => ?_)
              refine lv_iinc (v := (x3_8 + (1 : Int32))) (lv' := [(3, .int (x3_8 + (1 : Int32))), (0, .ref (bD 0)), (1, .int x1_25), (2, .int x2_26)]) hx hb dX5_readTest_105 hl (k := 3) rfl rfl (by decide) rfl (fun ls hl => ?_)
              refine lv_goto (tgt := 30) hx hb dX5_readTest_108 (by decide) ?_
              exact ih12 x1_25 x2_26 (x3_8 + (1 : Int32)) vD_29 hf H locs hP hD hS _ (lv_sub hl [1, 2, 3, 0] rfl)
            refine lv_if_eq (tgt := 62) hx hb dX5_readTest_50 (by decide) (fun c32 => ?_) (fun c32 => ?_)
            · have hf := it_t hf c32
              refine lv_aload_n hx hb dX5_readTest_62 rfl (lv_at hl 0 rfl) ?_
              refine va_get (D := g.1) (ci := 5) (fs := fcD bD (bS 0) vD_9) (v := .int (vD_9.1 7)) (C := RX5) (T := TX5) (N := 10) hx hb htu hinX5 hown hK hP 0 rfl rfl 7 (by decide) k_1_166 (fun _ h9 => h9) rfl dX5_readTest_63 ?_
              refine lv_iconst (v := (2 : Int32)) hx hb dX5_readTest_66 (by decide) ?_
              refine lv_icmp_eq (tgt := 77) hx hb dX5_readTest_67 (by decide) (fun c33 => ?_) (fun c33 => ?_)
              · have hf := it_t hf c33
                refine lv_aload_n hx hb dX5_readTest_77 rfl (lv_at hl 0 rfl) ?_
                refine va_get (D := g.1) (ci := 5) (fs := fcD bD (bS 0) vD_9) (v := .int (vD_9.1 9)) (C := RX5) (T := TX5) (N := 10) hx hb htu hinX5 hown hK hP 0 rfl rfl 9 (by decide) k_1_168 (fun _ h9 => h9) rfl dX5_readTest_78 ?_
                refine lv_iconst (v := (1 : Int32)) hx hb dX5_readTest_81 (by decide) ?_
                refine lv_icmp_le (tgt := 92) hx hb dX5_readTest_82 (by decide) (fun c34 => ?_) (fun c34 => ?_)
                · have hf := it_t hf c34
                  refine lv_iload_n hx hb dX5_readTest_92 rfl (lv_at hl 1 rfl) ?_
                  refine lv_aload_n hx hb dX5_readTest_93 rfl (lv_at hl 0 rfl) ?_
                  refine va_get (D := g.1) (ci := 5) (fs := fcD bD (bS 0) vD_9) (v := .int (vD_9.1 9)) (C := RX5) (T := TX5) (N := 10) hx hb htu hinX5 hown hK hP 0 rfl rfl 9 (by decide) k_1_168 (fun _ h9 => h9) rfl dX5_readTest_94 ?_
                  refine lv_iload_n hx hb dX5_readTest_97 rfl (lv_at hl 3 rfl) ?_
                  refine lv_ishl hx hb dX5_readTest_98 ?_
                  refine lv_ior hx hb dX5_readTest_99 ?_
                  refine lv_istore_n (lv' := [(1, .int (x1_6 ||| ((vD_9.1 9) <<< (x3_8 &&& 31)))), (0, .ref (bD 0)), (2, .int x2_7), (3, .int x3_8)]) hx hb dX5_readTest_100 rfl hl (by decide) rfl (fun ls hl => ?_)
                  exact hJ28 (x1_6 ||| ((vD_9.1 9) <<< (x3_8 &&& 31))) x2_7 hf H locs hP hD hS _ (lv_sub hl [1, 0, 2, 3] rfl)
                · have hf := it_f hf c34
                  refine lv_aload_n hx hb dX5_readTest_85 rfl (lv_at hl 0 rfl) ?_
                  refine lv_bipush (v := (-3 : Int32)) hx hb dX5_readTest_86 (by decide) ?_
                  obtain ⟨r35, vD_36, hg37, hf⟩ := o2_at hf
                  refine k_viP ⟨hx, hb, hml, hown, htu⟩ hK hP hD hS hA hG (c_X5_fail l g bD (bS 0) vD_9 (-3 : Int32) r35 vD_36 hg37) (cwV 1 htu (gU_V mw_4_14 hcX5_fail) rfl rfl rfl hdX5_fail ⟨Nat.le_of_ble_eq_true rfl, Nat.le_of_ble_eq_true rfl⟩) (q0 := 0) (ci := 5) (fs := fcD bD (bS 0) vD_9) (q := (RX5, TX5, 10)) rfl rfl rfl (wr := (cS g bS (bC 0) (bT 0) ++ (cC g bC vC ++ (cT g bT vT)))) (w2 := cD g bD (bS 0) vD_36 ++ (cS g bS (bC 0) (bT 0) ++ (cC g bC vC ++ (cT g bT vT)))) [0, 1] [2, 3, 4, 5, 6, 7, 8, 9, 10, 11, 12, 13, 14, 15, 16, 17, 18] [17, 18, 0, 1, 2, 3, 4, 5, 6, 7, 8, 9, 10, 11, 12, 13, 14, 15, 16] rfl rfl (by decide) (by decide) (by decide) rfl rfl (by decide) (As := [.int (-3 : Int32)]) (rest := []) rfl rfl hl.1 (Nat.le_of_ble_eq_true rfl) dX5_readTest_88 (k1 := 0) (n1 := 0) rfl rfl ⟨Nat.zero_le _, Nat.zero_le _⟩ (fun H locs hP hD hS => ?_)
                  obtain ⟨h38, hf⟩ := gd_isB hf
                  obtain ⟨e39, e40, e41⟩ := kp_3 hf
                  rw [e40] at hP hD
                  rw [e41] at hP hD
                  exact k_zret hx hb hr hlocks hK hP hD hS e39 h38 dX5_readTest_91
              · have hf := it_f hf c33
                refine lv_aload_n hx hb dX5_readTest_70 rfl (lv_at hl 0 rfl) ?_
                refine lv_bipush (v := (-2 : Int32)) hx hb dX5_readTest_71 (by decide) ?_
                obtain ⟨r42, vD_43, hg44, hf⟩ := o2_at hf
                refine k_viP ⟨hx, hb, hml, hown, htu⟩ hK hP hD hS hA hG (c_X5_fail l g bD (bS 0) vD_9 (-2 : Int32) r42 vD_43 hg44) (cwV 1 htu (gU_V mw_4_14 hcX5_fail) rfl rfl rfl hdX5_fail ⟨Nat.le_of_ble_eq_true rfl, Nat.le_of_ble_eq_true rfl⟩) (q0 := 0) (ci := 5) (fs := fcD bD (bS 0) vD_9) (q := (RX5, TX5, 10)) rfl rfl rfl (wr := (cS g bS (bC 0) (bT 0) ++ (cC g bC vC ++ (cT g bT vT)))) (w2 := cD g bD (bS 0) vD_43 ++ (cS g bS (bC 0) (bT 0) ++ (cC g bC vC ++ (cT g bT vT)))) [0, 1] [2, 3, 4, 5, 6, 7, 8, 9, 10, 11, 12, 13, 14, 15, 16, 17, 18] [17, 18, 0, 1, 2, 3, 4, 5, 6, 7, 8, 9, 10, 11, 12, 13, 14, 15, 16] rfl rfl (by decide) (by decide) (by decide) rfl rfl (by decide) (As := [.int (-2 : Int32)]) (rest := []) rfl rfl hl.1 (Nat.le_of_ble_eq_true rfl) dX5_readTest_73 (k1 := 0) (n1 := 0) rfl rfl ⟨Nat.zero_le _, Nat.zero_le _⟩ (fun H locs hP hD hS => ?_)
                obtain ⟨h45, hf⟩ := gd_isB hf
                obtain ⟨e46, e47, e48⟩ := kp_3 hf
                rw [e47] at hP hD
                rw [e48] at hP hD
                exact k_zret hx hb hr hlocks hK hP hD hS e46 h45 dX5_readTest_76
            · have hf := it_f hf c32
              refine lv_iload_n hx hb dX5_readTest_53 rfl (lv_at hl 2 rfl) ?_
              refine lv_iconst (v := (1 : Int32)) hx hb dX5_readTest_54 (by decide) ?_
              refine lv_iload_n hx hb dX5_readTest_55 rfl (lv_at hl 3 rfl) ?_
              refine lv_ishl hx hb dX5_readTest_56 ?_
              refine lv_ior hx hb dX5_readTest_57 ?_
              refine lv_istore_n (lv' := [(2, .int (x2_7 ||| ((1 : Int32) <<< (x3_8 &&& 31)))), (0, .ref (bD 0)), (1, .int x1_6), (3, .int x3_8)]) hx hb dX5_readTest_58 rfl hl (by decide) rfl (fun ls hl => ?_)
              refine lv_goto (tgt := 101) hx hb dX5_readTest_59 (by decide) ?_
              exact hJ28 x1_6 (x2_7 ||| ((1 : Int32) <<< (x3_8 &&& 31))) hf H locs hP hD hS _ (lv_sub hl [1, 2, 0, 3] rfl)
      exact hL11 (0 : Int32) (0 : Int32) (0 : Int32) vD_4 hf H locs hP hD hS _ (lv_sub hl [3, 2, 1, 0] rfl)
    · have hf := it_f hf c3
      refine lv_aload_n hx hb dX5_readTest_13 rfl (lv_at hl 0 rfl) ?_
      refine lv_bipush (v := (-6 : Int32)) hx hb dX5_readTest_14 (by decide) ?_
      obtain ⟨r49, vD_50, hg51, hf⟩ := o2_at hf
      refine k_viP ⟨hx, hb, hml, hown, htu⟩ hK hP hD hS hA hG (c_X5_fail l g bD (bS 0) vD (-6 : Int32) r49 vD_50 hg51) (cwV 1 htu (gU_V mw_4_14 hcX5_fail) rfl rfl rfl hdX5_fail ⟨Nat.le_of_ble_eq_true rfl, Nat.le_of_ble_eq_true rfl⟩) (q0 := 0) (ci := 5) (fs := fcD bD (bS 0) vD) (q := (RX5, TX5, 10)) rfl rfl rfl (wr := (cS g bS (bC 0) (bT 0) ++ (cC g bC vC ++ (cT g bT vT)))) (w2 := cD g bD (bS 0) vD_50 ++ (cS g bS (bC 0) (bT 0) ++ (cC g bC vC ++ (cT g bT vT)))) [0, 1] [2, 3, 4, 5, 6, 7, 8, 9, 10, 11, 12, 13, 14, 15, 16, 17, 18] [17, 18, 0, 1, 2, 3, 4, 5, 6, 7, 8, 9, 10, 11, 12, 13, 14, 15, 16] rfl rfl (by decide) (by decide) (by decide) rfl rfl (by decide) (As := [.int (-6 : Int32)]) (rest := []) rfl rfl hl.1 (Nat.le_of_ble_eq_true rfl) dX5_readTest_16 (k1 := 0) (n1 := 0) rfl rfl ⟨Nat.zero_le _, Nat.zero_le _⟩ (fun H locs hP hD hS => ?_)
      obtain ⟨h52, hf⟩ := gd_isB hf
      obtain ⟨e53, e54, e55⟩ := kp_3 hf
      rw [e54] at hP hD
      rw [e55] at hP hD
      exact k_zret hx hb hr hlocks hK hP hD hS e53 h52 dX5_readTest_19
  rw [hH, hlo] at hW
  exact hW
def f_X5_readStatement (vD : Vs) (vC : Vs) (vT : Vs) : Option (Int32 × Vs × Vs × Vs) :=
  o1 (f_X5_isWord vD 10) (fun (r1 : Int32) => if r1 = 0 then o1 (f_X5_isWord vD 19) (fun (r4 : Int32) => if r4 = 0 then o1 (f_X5_isWord vD 4) (fun (r7 : Int32) => if r7 = 0 then o1 (f_X5_isWord vD 21) (fun (r10 : Int32) => if r10 = 0 then o2 (f_X5_fail vD (-2 : Int32)) (fun (r13 : Int32) (vD_14 : Vs) => gd (isB r13) (some (r13, vD_14, vC, vT))) else o3 (f_X5_readTest vD vC vT) (fun (r21 : Int32) (vD_22 : Vs) (vT_23 : Vs) => gd (isB r21) (some (r21, vD_22, vC, vT_23)))) else o3 (f_X5_readBridge vD vC vT) (fun (r30 : Int32) (vD_31 : Vs) (vC_32 : Vs) => gd (isB r30) (some (r30, vD_31, vC_32, vT)))) else o3 (f_X5_readOutputs vD vC vT) (fun (r39 : Int32) (vD_40 : Vs) (vC_41 : Vs) => gd (isB r39) (some (r39, vD_40, vC_41, vT)))) else o3 (f_X5_readGate vD vC vT) (fun (r48 : Int32) (vD_49 : Vs) (vC_50 : Vs) => gd (isB r48) (some (r48, vD_49, vC_50, vT))))
abbrev wsX5_readStatement : List Cond := .code yX5_readStatement cX5_readStatement 1 (some .boolean) :: UW
abbrev rmX5_readStatement : Room := { frames := 7, cells := 0, slots := 0, locals := 151 }
set_option maxHeartbeats 4000000 in
set_option maxRecDepth 100000 in
theorem c_X5_readStatement (l : Launch) (g : Gx) (bD : Nat → Nat) (vD : Vs) (bS : Nat → Nat) (bC : Nat → Nat) (vC : Vs) (bT : Nat → Nat) (vT : Vs) (r : Int32) (vD1 : Vs) (vC1 : Vs) (vT1 : Vs) (hf : f_X5_readStatement vD vC vT = some (r, vD1, vC1, vT1)) : CtI l yX5_readStatement wsX5_readStatement rmX5_readStatement g [.ref (bD 0)] (cD g bD (bS 0) vD ++ (cS g bS (bC 0) (bT 0) ++ (cC g bC vC ++ (cT g bT vT)))) (cD g bD (bS 0) vD1 ++ (cS g bS (bC 0) (bT 0) ++ (cC g bC vC1 ++ (cT g bT vT1)))) r 0 0 := by
  unfold CtI
  intro sz
  refine Met.ofW (cc := cX5_readStatement) (maxL := 1) (ret := (some .boolean)) (by decide) rfl ?_
  intro p e s m args below meth c s₁ B hml hv
  obtain ⟨rfl, hsz, hP, hK, hD0, hG⟩ := hv
  have hx := B.exec
  have hb := B.bytes
  have hr := B.returns
  have hts := atoms_spec (ws := wsX5_readStatement) B.pre
  have hown : s.vm.findClass RX5 = some m.cls := findClass_of_methodNamed B.named
  have hlocks := B.notSynchronized
  subst hsz
  have hD := hD0.self (sz := s.heap.size)
  generalize hAe : va_A (cD g bD (bS 0) vD ++ (cS g bS (bC 0) (bT 0) ++ (cC g bC vC ++ (cT g bT vT)))) s.heap.size = A at hD hG ⊢
  have hA : ∀ q : Nat, s.heap.size ≤ q → A q := fun q h => by rw [← hAe]; exact Or.inr h
  clear hAe hD0
  have hS : va_S A s.heap s.heap [] := va_S.rf
  have hl := lv_entry ([.ref (bD 0)]) (n := 1) (Nat.le_of_ble_eq_true rfl)
  rw [lg_entry_eq]
  generalize (lg_sl ([.ref (bD 0)]) ++ List.replicate (1 - (lg_sl ([.ref (bD 0)])).length) Slot.unset).toArray = ls at hl ⊢
  have hl : lv_has ls 1 [(0, .ref (bD 0))] := hl
  have htu : ∀ w ∈ UW, w.before _ s = true := fun w h => hts w (List.mem_cons_of_mem _ h)
  unfold f_X5_readStatement at hf
  obtain ⟨H, hH⟩ : ∃ z, z = s.heap := ⟨_, rfl⟩
  obtain ⟨locs, hlo⟩ : ∃ z : List Loc, z = [] := ⟨_, rfl⟩
  have hS : va_S A s.heap H locs := by rw [hH, hlo]; exact hS
  rw [← hH] at hP
  have hW : W p l e (headSpec wsX5_readStatement rmX5_readStatement).room s m ([.ref (bD 0)] : List Value).toArray below meth c H locs 0 0 (MQ below (qI g A (cD g bD (bS 0) vD1 ++ (cS g bS (bC 0) (bT 0) ++ (cC g bC vC1 ++ (cT g bT vT1)))) r) ([.ref (bD 0)] : List Value).toArray s 0 0 A) (F0 m 0 ls []) := by
    refine lv_aload_n hx hb dX5_readStatement_0 rfl (lv_at hl 0 rfl) ?_
    refine va_ldcS hx hb hown (tx := "gate") (q := adK g 10) (hG.1.1 ("FaultTests$SetupReader", 80, "gate", 10) (List.mem_of_getElem? (i := 8) rfl)) dX5_readStatement_1 ?_
    obtain ⟨r1, hg2, hf⟩ := o1_at hf
    refine k_viP ⟨hx, hb, hml, hown, htu⟩ hK hP hD hS hA hG (c_X5_isWord l g bD (bS 0) vD 10 (by decide) r1 hg2) (cwV 1 htu (gU_V mw_4_8 hcX5_isWord) rfl rfl rfl hdX5_isWord ⟨Nat.le_of_ble_eq_true rfl, Nat.le_of_ble_eq_true rfl⟩) (q0 := 0) (ci := 5) (fs := fcD bD (bS 0) vD) (q := (RX5, TX5, 10)) rfl rfl rfl (wr := (cS g bS (bC 0) (bT 0) ++ (cC g bC vC ++ (cT g bT vT)))) (w2 := cD g bD (bS 0) vD ++ (cS g bS (bC 0) (bT 0) ++ (cC g bC vC ++ (cT g bT vT)))) [0, 1] [2, 3, 4, 5, 6, 7, 8, 9, 10, 11, 12, 13, 14, 15, 16, 17, 18] [17, 18, 0, 1, 2, 3, 4, 5, 6, 7, 8, 9, 10, 11, 12, 13, 14, 15, 16] rfl rfl (by decide) (by decide) (by decide) rfl rfl (by decide) (As := [.ref (adK g 10)]) (rest := []) rfl rfl hl.1 (Nat.le_of_ble_eq_true rfl) dX5_readStatement_3 (k1 := 0) (n1 := 0) rfl rfl ⟨Nat.zero_le _, Nat.zero_le _⟩ (fun H locs hP hD hS => ?_)
    refine lv_if_eq (tgt := 14) hx hb dX5_readStatement_6 (by decide) (fun c3 => ?_) (fun c3 => ?_)
    · have hf := it_t hf c3
      refine lv_aload_n hx hb dX5_readStatement_14 rfl (lv_at hl 0 rfl) ?_
      refine va_ldcS hx hb hown (tx := "output") (q := adK g 19) (hG.1.1 ("FaultTests$SetupReader", 85, "output", 19) (List.mem_of_getElem? (i := 9) rfl)) dX5_readStatement_15 ?_
      obtain ⟨r4, hg5, hf⟩ := o1_at hf
      refine k_viP ⟨hx, hb, hml, hown, htu⟩ hK hP hD hS hA hG (c_X5_isWord l g bD (bS 0) vD 19 (by decide) r4 hg5) (cwV 1 htu (gU_V mw_4_8 hcX5_isWord) rfl rfl rfl hdX5_isWord ⟨Nat.le_of_ble_eq_true rfl, Nat.le_of_ble_eq_true rfl⟩) (q0 := 0) (ci := 5) (fs := fcD bD (bS 0) vD) (q := (RX5, TX5, 10)) rfl rfl rfl (wr := (cS g bS (bC 0) (bT 0) ++ (cC g bC vC ++ (cT g bT vT)))) (w2 := cD g bD (bS 0) vD ++ (cS g bS (bC 0) (bT 0) ++ (cC g bC vC ++ (cT g bT vT)))) [0, 1] [2, 3, 4, 5, 6, 7, 8, 9, 10, 11, 12, 13, 14, 15, 16, 17, 18] [17, 18, 0, 1, 2, 3, 4, 5, 6, 7, 8, 9, 10, 11, 12, 13, 14, 15, 16] rfl rfl (by decide) (by decide) (by decide) rfl rfl (by decide) (As := [.ref (adK g 19)]) (rest := []) rfl rfl hl.1 (Nat.le_of_ble_eq_true rfl) dX5_readStatement_17 (k1 := 0) (n1 := 0) rfl rfl ⟨Nat.zero_le _, Nat.zero_le _⟩ (fun H locs hP hD hS => ?_)
      refine lv_if_eq (tgt := 28) hx hb dX5_readStatement_20 (by decide) (fun c6 => ?_) (fun c6 => ?_)
      · have hf := it_t hf c6
        refine lv_aload_n hx hb dX5_readStatement_28 rfl (lv_at hl 0 rfl) ?_
        refine va_ldcS hx hb hown (tx := "bridge") (q := adK g 4) (hG.1.1 ("FaultTests$SetupReader", 90, "bridge", 4) (List.mem_of_getElem? (i := 10) rfl)) dX5_readStatement_29 ?_
        obtain ⟨r7, hg8, hf⟩ := o1_at hf
        refine k_viP ⟨hx, hb, hml, hown, htu⟩ hK hP hD hS hA hG (c_X5_isWord l g bD (bS 0) vD 4 (by decide) r7 hg8) (cwV 1 htu (gU_V mw_4_8 hcX5_isWord) rfl rfl rfl hdX5_isWord ⟨Nat.le_of_ble_eq_true rfl, Nat.le_of_ble_eq_true rfl⟩) (q0 := 0) (ci := 5) (fs := fcD bD (bS 0) vD) (q := (RX5, TX5, 10)) rfl rfl rfl (wr := (cS g bS (bC 0) (bT 0) ++ (cC g bC vC ++ (cT g bT vT)))) (w2 := cD g bD (bS 0) vD ++ (cS g bS (bC 0) (bT 0) ++ (cC g bC vC ++ (cT g bT vT)))) [0, 1] [2, 3, 4, 5, 6, 7, 8, 9, 10, 11, 12, 13, 14, 15, 16, 17, 18] [17, 18, 0, 1, 2, 3, 4, 5, 6, 7, 8, 9, 10, 11, 12, 13, 14, 15, 16] rfl rfl (by decide) (by decide) (by decide) rfl rfl (by decide) (As := [.ref (adK g 4)]) (rest := []) rfl rfl hl.1 (Nat.le_of_ble_eq_true rfl) dX5_readStatement_31 (k1 := 0) (n1 := 0) rfl rfl ⟨Nat.zero_le _, Nat.zero_le _⟩ (fun H locs hP hD hS => ?_)
        refine lv_if_eq (tgt := 42) hx hb dX5_readStatement_34 (by decide) (fun c9 => ?_) (fun c9 => ?_)
        · have hf := it_t hf c9
          refine lv_aload_n hx hb dX5_readStatement_42 rfl (lv_at hl 0 rfl) ?_
          refine va_ldcS hx hb hown (tx := "test") (q := adK g 21) (hG.1.1 ("FaultTests$SetupReader", 95, "test", 21) (List.mem_of_getElem? (i := 11) rfl)) dX5_readStatement_43 ?_
          obtain ⟨r10, hg11, hf⟩ := o1_at hf
          refine k_viP ⟨hx, hb, hml, hown, htu⟩ hK hP hD hS hA hG (c_X5_isWord l g bD (bS 0) vD 21 (by decide) r10 hg11) (cwV 1 htu (gU_V mw_4_8 hcX5_isWord) rfl rfl rfl hdX5_isWord ⟨Nat.le_of_ble_eq_true rfl, Nat.le_of_ble_eq_true rfl⟩) (q0 := 0) (ci := 5) (fs := fcD bD (bS 0) vD) (q := (RX5, TX5, 10)) rfl rfl rfl (wr := (cS g bS (bC 0) (bT 0) ++ (cC g bC vC ++ (cT g bT vT)))) (w2 := cD g bD (bS 0) vD ++ (cS g bS (bC 0) (bT 0) ++ (cC g bC vC ++ (cT g bT vT)))) [0, 1] [2, 3, 4, 5, 6, 7, 8, 9, 10, 11, 12, 13, 14, 15, 16, 17, 18] [17, 18, 0, 1, 2, 3, 4, 5, 6, 7, 8, 9, 10, 11, 12, 13, 14, 15, 16] rfl rfl (by decide) (by decide) (by decide) rfl rfl (by decide) (As := [.ref (adK g 21)]) (rest := []) rfl rfl hl.1 (Nat.le_of_ble_eq_true rfl) dX5_readStatement_45 (k1 := 0) (n1 := 0) rfl rfl ⟨Nat.zero_le _, Nat.zero_le _⟩ (fun H locs hP hD hS => ?_)
          refine lv_if_eq (tgt := 56) hx hb dX5_readStatement_48 (by decide) (fun c12 => ?_) (fun c12 => ?_)
          · have hf := it_t hf c12
            refine lv_aload_n hx hb dX5_readStatement_56 rfl (lv_at hl 0 rfl) ?_
            refine lv_bipush (v := (-2 : Int32)) hx hb dX5_readStatement_57 (by decide) ?_
            obtain ⟨r13, vD_14, hg15, hf⟩ := o2_at hf
            refine k_viP ⟨hx, hb, hml, hown, htu⟩ hK hP hD hS hA hG (c_X5_fail l g bD (bS 0) vD (-2 : Int32) r13 vD_14 hg15) (cwV 1 htu (gU_V mw_4_14 hcX5_fail) rfl rfl rfl hdX5_fail ⟨Nat.le_of_ble_eq_true rfl, Nat.le_of_ble_eq_true rfl⟩) (q0 := 0) (ci := 5) (fs := fcD bD (bS 0) vD) (q := (RX5, TX5, 10)) rfl rfl rfl (wr := (cS g bS (bC 0) (bT 0) ++ (cC g bC vC ++ (cT g bT vT)))) (w2 := cD g bD (bS 0) vD_14 ++ (cS g bS (bC 0) (bT 0) ++ (cC g bC vC ++ (cT g bT vT)))) [0, 1] [2, 3, 4, 5, 6, 7, 8, 9, 10, 11, 12, 13, 14, 15, 16, 17, 18] [17, 18, 0, 1, 2, 3, 4, 5, 6, 7, 8, 9, 10, 11, 12, 13, 14, 15, 16] rfl rfl (by decide) (by decide) (by decide) rfl rfl (by decide) (As := [.int (-2 : Int32)]) (rest := []) rfl rfl hl.1 (Nat.le_of_ble_eq_true rfl) dX5_readStatement_59 (k1 := 0) (n1 := 0) rfl rfl ⟨Nat.zero_le _, Nat.zero_le _⟩ (fun H locs hP hD hS => ?_)
            obtain ⟨h16, hf⟩ := gd_isB hf
            obtain ⟨e17, e18, e19, e20⟩ := kp_4 hf
            rw [e18] at hP hD
            rw [e19] at hP hD
            rw [e20] at hP hD
            exact k_zret hx hb hr hlocks hK hP hD hS e17 h16 dX5_readStatement_62
          · have hf := it_f hf c12
            refine lv_aload_n hx hb dX5_readStatement_51 rfl (lv_at hl 0 rfl) ?_
            obtain ⟨r21, vD_22, vT_23, hg24, hf⟩ := o3_at hf
            refine k_viW ⟨hx, hb, hml, hown, htu⟩ hK hP hD hS hA hG (c_X5_readTest l g bD vD bS bC vC bT vT r21 vD_22 vT_23 hg24) (cwV 0 htu (gU_V mw_4_104 hcX5_readTest) rfl rfl rfl hdX5_readTest ⟨Nat.le_of_ble_eq_true rfl, Nat.le_of_ble_eq_true rfl⟩) (q0 := 0) (ci := 5) (fs := fcD bD (bS 0) vD) (q := (RX5, TX5, 10)) rfl rfl rfl (As := []) (rest := []) rfl rfl hl.1 (Nat.le_of_ble_eq_true rfl) dX5_readStatement_52 (k1 := 0) (n1 := 0) rfl rfl ⟨Nat.zero_le _, Nat.zero_le _⟩ (fun H locs hP hD hS => ?_)
            obtain ⟨h25, hf⟩ := gd_isB hf
            obtain ⟨e26, e27, e28, e29⟩ := kp_4 hf
            rw [e27] at hP hD
            rw [e28] at hP hD
            rw [e29] at hP hD
            exact k_zret hx hb hr hlocks hK hP hD hS e26 h25 dX5_readStatement_55
        · have hf := it_f hf c9
          refine lv_aload_n hx hb dX5_readStatement_37 rfl (lv_at hl 0 rfl) ?_
          obtain ⟨r30, vD_31, vC_32, hg33, hf⟩ := o3_at hf
          refine k_viW ⟨hx, hb, hml, hown, htu⟩ hK hP hD hS hA hG (c_X5_readBridge l g bD vD bS bC vC bT vT r30 vD_31 vC_32 hg33) (cwV 0 htu (gU_V mw_4_82 hcX5_readBridge) rfl rfl rfl hdX5_readBridge ⟨Nat.le_of_ble_eq_true rfl, Nat.le_of_ble_eq_true rfl⟩) (q0 := 0) (ci := 5) (fs := fcD bD (bS 0) vD) (q := (RX5, TX5, 10)) rfl rfl rfl (As := []) (rest := []) rfl rfl hl.1 (Nat.le_of_ble_eq_true rfl) dX5_readStatement_38 (k1 := 0) (n1 := 0) rfl rfl ⟨Nat.zero_le _, Nat.zero_le _⟩ (fun H locs hP hD hS => ?_)
          obtain ⟨h34, hf⟩ := gd_isB hf
          obtain ⟨e35, e36, e37, e38⟩ := kp_4 hf
          rw [e36] at hP hD
          rw [e37] at hP hD
          rw [e38] at hP hD
          exact k_zret hx hb hr hlocks hK hP hD hS e35 h34 dX5_readStatement_41
      · have hf := it_f hf c6
        refine lv_aload_n hx hb dX5_readStatement_23 rfl (lv_at hl 0 rfl) ?_
        obtain ⟨r39, vD_40, vC_41, hg42, hf⟩ := o3_at hf
        refine k_viW ⟨hx, hb, hml, hown, htu⟩ hK hP hD hS hA hG (c_X5_readOutputs l g bD vD bS bC vC bT vT r39 vD_40 vC_41 hg42) (cwV 0 htu (gU_V mw_4_65 hcX5_readOutputs) rfl rfl rfl hdX5_readOutputs ⟨Nat.le_of_ble_eq_true rfl, Nat.le_of_ble_eq_true rfl⟩) (q0 := 0) (ci := 5) (fs := fcD bD (bS 0) vD) (q := (RX5, TX5, 10)) rfl rfl rfl (As := []) (rest := []) rfl rfl hl.1 (Nat.le_of_ble_eq_true rfl) dX5_readStatement_24 (k1 := 0) (n1 := 0) rfl rfl ⟨Nat.zero_le _, Nat.zero_le _⟩ (fun H locs hP hD hS => ?_)
        obtain ⟨h43, hf⟩ := gd_isB hf
        obtain ⟨e44, e45, e46, e47⟩ := kp_4 hf
        rw [e45] at hP hD
        rw [e46] at hP hD
        rw [e47] at hP hD
        exact k_zret hx hb hr hlocks hK hP hD hS e44 h43 dX5_readStatement_27
    · have hf := it_f hf c3
      refine lv_aload_n hx hb dX5_readStatement_9 rfl (lv_at hl 0 rfl) ?_
      obtain ⟨r48, vD_49, vC_50, hg51, hf⟩ := o3_at hf
      refine k_viW ⟨hx, hb, hml, hown, htu⟩ hK hP hD hS hA hG (c_X5_readGate l g bD vD bS bC vC bT vT r48 vD_49 vC_50 hg51) (cwV 0 htu (gU_V mw_4_27 hcX5_readGate) rfl rfl rfl hdX5_readGate ⟨Nat.le_of_ble_eq_true rfl, Nat.le_of_ble_eq_true rfl⟩) (q0 := 0) (ci := 5) (fs := fcD bD (bS 0) vD) (q := (RX5, TX5, 10)) rfl rfl rfl (As := []) (rest := []) rfl rfl hl.1 (Nat.le_of_ble_eq_true rfl) dX5_readStatement_10 (k1 := 0) (n1 := 0) rfl rfl ⟨Nat.zero_le _, Nat.zero_le _⟩ (fun H locs hP hD hS => ?_)
      obtain ⟨h52, hf⟩ := gd_isB hf
      obtain ⟨e53, e54, e55, e56⟩ := kp_4 hf
      rw [e54] at hP hD
      rw [e55] at hP hD
      rw [e56] at hP hD
      exact k_zret hx hb hr hlocks hK hP hD hS e53 h52 dX5_readStatement_13
  rw [hH, hlo] at hW
  exact hW
def f_X5_readCircuit (vD : Vs) (vC : Vs) (vT : Vs) : Option (Int32 × Vs × Vs × Vs) :=
  o1 (f_X5_isWord vD 7) (fun (r1 : Int32) => if r1 = 0 then o2 (f_X5_fail vD (-2 : Int32)) (fun (r41 : Int32) (vD_42 : Vs) => gd (isB r41) (some (r41, vD_42, vC, vT))) else o1 (f_X5_advance vD) (fun (vD_4 : Vs) => if (vD_4.1 7) = (2 : Int32) then jn (o2 (f_X5_fail vD_4 (-3 : Int32)) (fun (r9 : Int32) (vD_10 : Vs) => gd (isB r9) (some (r9, vD_10, vC, vT)))) (fun k7 => if (vD_4.1 9) < (1 : Int32) then k7 else if (vD_4.1 9) ≤ (8 : Int32) then o2 (f_X4_clear vC vT (vD_4.1 9)) (fun (vC_20 : Vs) (vT_21 : Vs) => o1 (f_X5_advance vD_4) (fun (vD_23 : Vs) => o2 (f_X5_readSemicolon vD_23) (fun (r25 : Int32) (vD_26 : Vs) => gd (isB r25) (some (r25, vD_26, vC_20, vT_21))))) else k7) else o2 (f_X5_fail vD_4 (-2 : Int32)) (fun (r33 : Int32) (vD_34 : Vs) => gd (isB r33) (some (r33, vD_34, vC, vT)))))
abbrev wsX5_readCircuit : List Cond := .code yX5_readCircuit cX5_readCircuit 1 (some .boolean) :: UW
abbrev rmX5_readCircuit : Room := { frames := 5, cells := 0, slots := 0, locals := 107 }
set_option maxHeartbeats 4000000 in
set_option maxRecDepth 100000 in
theorem c_X5_readCircuit (l : Launch) (g : Gx) (bD : Nat → Nat) (vD : Vs) (bS : Nat → Nat) (bC : Nat → Nat) (vC : Vs) (bT : Nat → Nat) (vT : Vs) (r : Int32) (vD1 : Vs) (vC1 : Vs) (vT1 : Vs) (hf : f_X5_readCircuit vD vC vT = some (r, vD1, vC1, vT1)) : CtI l yX5_readCircuit wsX5_readCircuit rmX5_readCircuit g [.ref (bD 0)] (cD g bD (bS 0) vD ++ (cS g bS (bC 0) (bT 0) ++ (cC g bC vC ++ (cT g bT vT)))) (cD g bD (bS 0) vD1 ++ (cS g bS (bC 0) (bT 0) ++ (cC g bC vC1 ++ (cT g bT vT1)))) r 0 0 := by
  unfold CtI
  intro sz
  refine Met.ofW (cc := cX5_readCircuit) (maxL := 1) (ret := (some .boolean)) (by decide) rfl ?_
  intro p e s m args below meth c s₁ B hml hv
  obtain ⟨rfl, hsz, hP, hK, hD0, hG⟩ := hv
  have hx := B.exec
  have hb := B.bytes
  have hr := B.returns
  have hts := atoms_spec (ws := wsX5_readCircuit) B.pre
  have hown : s.vm.findClass RX5 = some m.cls := findClass_of_methodNamed B.named
  have hlocks := B.notSynchronized
  subst hsz
  have hD := hD0.self (sz := s.heap.size)
  generalize hAe : va_A (cD g bD (bS 0) vD ++ (cS g bS (bC 0) (bT 0) ++ (cC g bC vC ++ (cT g bT vT)))) s.heap.size = A at hD hG ⊢
  have hA : ∀ q : Nat, s.heap.size ≤ q → A q := fun q h => by rw [← hAe]; exact Or.inr h
  clear hAe hD0
  have hS : va_S A s.heap s.heap [] := va_S.rf
  have hl := lv_entry ([.ref (bD 0)]) (n := 1) (Nat.le_of_ble_eq_true rfl)
  rw [lg_entry_eq]
  generalize (lg_sl ([.ref (bD 0)]) ++ List.replicate (1 - (lg_sl ([.ref (bD 0)])).length) Slot.unset).toArray = ls at hl ⊢
  have hl : lv_has ls 1 [(0, .ref (bD 0))] := hl
  have htu : ∀ w ∈ UW, w.before _ s = true := fun w h => hts w (List.mem_cons_of_mem _ h)
  have k_1_166 := htu _ mw_1_166
  have k_1_168 := htu _ mw_1_168
  have k_1_157 := htu _ mw_1_157
  unfold f_X5_readCircuit at hf
  obtain ⟨H, hH⟩ : ∃ z, z = s.heap := ⟨_, rfl⟩
  obtain ⟨locs, hlo⟩ : ∃ z : List Loc, z = [] := ⟨_, rfl⟩
  have hS : va_S A s.heap H locs := by rw [hH, hlo]; exact hS
  rw [← hH] at hP
  have hW : W p l e (headSpec wsX5_readCircuit rmX5_readCircuit).room s m ([.ref (bD 0)] : List Value).toArray below meth c H locs 0 0 (MQ below (qI g A (cD g bD (bS 0) vD1 ++ (cS g bS (bC 0) (bT 0) ++ (cC g bC vC1 ++ (cT g bT vT1)))) r) ([.ref (bD 0)] : List Value).toArray s 0 0 A) (F0 m 0 ls []) := by
    refine lv_aload_n hx hb dX5_readCircuit_0 rfl (lv_at hl 0 rfl) ?_
    refine va_ldcS hx hb hown (tx := "circuit") (q := adK g 7) (hG.1.1 ("FaultTests$SetupReader", 67, "circuit", 7) (List.mem_of_getElem? (i := 7) rfl)) dX5_readCircuit_1 ?_
    obtain ⟨r1, hg2, hf⟩ := o1_at hf
    refine k_viP ⟨hx, hb, hml, hown, htu⟩ hK hP hD hS hA hG (c_X5_isWord l g bD (bS 0) vD 7 (by decide) r1 hg2) (cwV 1 htu (gU_V mw_4_8 hcX5_isWord) rfl rfl rfl hdX5_isWord ⟨Nat.le_of_ble_eq_true rfl, Nat.le_of_ble_eq_true rfl⟩) (q0 := 0) (ci := 5) (fs := fcD bD (bS 0) vD) (q := (RX5, TX5, 10)) rfl rfl rfl (wr := (cS g bS (bC 0) (bT 0) ++ (cC g bC vC ++ (cT g bT vT)))) (w2 := cD g bD (bS 0) vD ++ (cS g bS (bC 0) (bT 0) ++ (cC g bC vC ++ (cT g bT vT)))) [0, 1] [2, 3, 4, 5, 6, 7, 8, 9, 10, 11, 12, 13, 14, 15, 16, 17, 18] [17, 18, 0, 1, 2, 3, 4, 5, 6, 7, 8, 9, 10, 11, 12, 13, 14, 15, 16] rfl rfl (by decide) (by decide) (by decide) rfl rfl (by decide) (As := [.ref (adK g 7)]) (rest := []) rfl rfl hl.1 (Nat.le_of_ble_eq_true rfl) dX5_readCircuit_3 (k1 := 0) (n1 := 0) rfl rfl ⟨Nat.zero_le _, Nat.zero_le _⟩ (fun H locs hP hD hS => ?_)
    refine lv_if_ne (tgt := 16) hx hb dX5_readCircuit_6 (by decide) (fun c3 => ?_) (fun c3 => ?_)
    · have hf := it_f hf c3
      refine lv_aload_n hx hb dX5_readCircuit_16 rfl (lv_at hl 0 rfl) ?_
      obtain ⟨vD_4, hg5, hf⟩ := o1_at hf
      refine k_vvP ⟨hx, hb, hml, hown, htu⟩ hK hP hD hS hA hG (c_X5_advance l g bD (bS 0) vD vD_4 hg5) (cwV 0 htu (gU_V mw_3_232 hcX5_advance) rfl rfl rfl hdX5_advance ⟨Nat.le_of_ble_eq_true rfl, Nat.le_of_ble_eq_true rfl⟩) (q0 := 0) (ci := 5) (fs := fcD bD (bS 0) vD) (q := (RX5, TX5, 10)) rfl rfl rfl (wr := (cS g bS (bC 0) (bT 0) ++ (cC g bC vC ++ (cT g bT vT)))) (w2 := cD g bD (bS 0) vD_4 ++ (cS g bS (bC 0) (bT 0) ++ (cC g bC vC ++ (cT g bT vT)))) [0, 1] [2, 3, 4, 5, 6, 7, 8, 9, 10, 11, 12, 13, 14, 15, 16, 17, 18] [17, 18, 0, 1, 2, 3, 4, 5, 6, 7, 8, 9, 10, 11, 12, 13, 14, 15, 16] rfl rfl (by decide) (by decide) (by decide) rfl rfl (by decide) (As := []) (rest := []) rfl rfl hl.1 (Nat.le_of_ble_eq_true rfl) dX5_readCircuit_17 (k1 := 0) (n1 := 0) rfl rfl ⟨Nat.zero_le _, Nat.zero_le _⟩ (fun H locs hP hD hS => ?_)
      refine lv_aload_n hx hb dX5_readCircuit_20 rfl (lv_at hl 0 rfl) ?_
      refine va_get (D := g.1) (ci := 5) (fs := fcD bD (bS 0) vD_4) (v := .int (vD_4.1 7)) (C := RX5) (T := TX5) (N := 10) hx hb htu hinX5 hown hK hP 0 rfl rfl 7 (by decide) k_1_166 (fun _ h9 => h9) rfl dX5_readCircuit_21 ?_
      refine lv_iconst (v := (2 : Int32)) hx hb dX5_readCircuit_24 (by decide) ?_
      refine lv_icmp_eq (tgt := 35) hx hb dX5_readCircuit_25 (by decide) (fun c6 => ?_) (fun c6 => ?_)
      · have hf := it_t hf c6
        refine lv_aload_n hx hb dX5_readCircuit_35 rfl (lv_at hl 0 rfl) ?_
        refine va_get (D := g.1) (ci := 5) (fs := fcD bD (bS 0) vD_4) (v := .int (vD_4.1 9)) (C := RX5) (T := TX5) (N := 10) hx hb htu hinX5 hown hK hP 0 rfl rfl 9 (by decide) k_1_168 (fun _ h9 => h9) rfl dX5_readCircuit_36 ?_
        refine lv_iconst (v := (1 : Int32)) hx hb dX5_readCircuit_39 (by decide) ?_
        obtain ⟨k7, hk17, hf⟩ := jn_at hf
        have hJ8 : k7 = some (r, vD1, vC1, vT1) → ∀ (H : Heap) (locs : List Loc), va_P g.1 vwCl (cD g bD (bS 0) vD_4 ++ (cS g bS (bC 0) (bT 0) ++ (cC g bC vC ++ (cT g bT vT)))) H → va_D A (cD g bD (bS 0) vD_4 ++ (cS g bS (bC 0) (bT 0) ++ (cC g bC vC ++ (cT g bT vT)))) → va_S A s.heap H locs → ∀ ls : Array Slot, lv_has ls 1 [(0, .ref (bD 0))] → W p l e (headSpec wsX5_readCircuit rmX5_readCircuit).room s m ([.ref (bD 0)] : List Value).toArray below meth c H locs 0 0 (MQ below (qI g A (cD g bD (bS 0) vD1 ++ (cS g bS (bC 0) (bT 0) ++ (cC g bC vC1 ++ (cT g bT vT1)))) r) ([.ref (bD 0)] : List Value).toArray s 0 0 A) (F0 m 52 ls []) := by
          intro hf H locs hP hD hS ls hl
          rw [hk17] at hf
          clear hk17
          refine lv_aload_n hx hb dX5_readCircuit_52 rfl (lv_at hl 0 rfl) ?_
          refine lv_bipush (v := (-3 : Int32)) hx hb dX5_readCircuit_53 (by decide) ?_
          obtain ⟨r9, vD_10, hg11, hf⟩ := o2_at hf
          refine k_viP ⟨hx, hb, hml, hown, htu⟩ hK hP hD hS hA hG (c_X5_fail l g bD (bS 0) vD_4 (-3 : Int32) r9 vD_10 hg11) (cwV 1 htu (gU_V mw_4_14 hcX5_fail) rfl rfl rfl hdX5_fail ⟨Nat.le_of_ble_eq_true rfl, Nat.le_of_ble_eq_true rfl⟩) (q0 := 0) (ci := 5) (fs := fcD bD (bS 0) vD_4) (q := (RX5, TX5, 10)) rfl rfl rfl (wr := (cS g bS (bC 0) (bT 0) ++ (cC g bC vC ++ (cT g bT vT)))) (w2 := cD g bD (bS 0) vD_10 ++ (cS g bS (bC 0) (bT 0) ++ (cC g bC vC ++ (cT g bT vT)))) [0, 1] [2, 3, 4, 5, 6, 7, 8, 9, 10, 11, 12, 13, 14, 15, 16, 17, 18] [17, 18, 0, 1, 2, 3, 4, 5, 6, 7, 8, 9, 10, 11, 12, 13, 14, 15, 16] rfl rfl (by decide) (by decide) (by decide) rfl rfl (by decide) (As := [.int (-3 : Int32)]) (rest := []) rfl rfl hl.1 (Nat.le_of_ble_eq_true rfl) dX5_readCircuit_55 (k1 := 0) (n1 := 0) rfl rfl ⟨Nat.zero_le _, Nat.zero_le _⟩ (fun H locs hP hD hS => ?_)
          obtain ⟨h12, hf⟩ := gd_isB hf
          obtain ⟨e13, e14, e15, e16⟩ := kp_4 hf
          rw [e14] at hP hD
          rw [e15] at hP hD
          rw [e16] at hP hD
          exact k_zret hx hb hr hlocks hK hP hD hS e13 h12 dX5_readCircuit_58
        refine lv_icmp_lt (tgt := 52) hx hb dX5_readCircuit_40 (by decide) (fun c18 => ?_) (fun c18 => ?_)
        · have hf := it_t hf c18
          exact hJ8 hf H locs hP hD hS _ (lv_sub hl [0] rfl)
        · have hf := it_f hf c18
          refine lv_aload_n hx hb dX5_readCircuit_43 rfl (lv_at hl 0 rfl) ?_
          refine va_get (D := g.1) (ci := 5) (fs := fcD bD (bS 0) vD_4) (v := .int (vD_4.1 9)) (C := RX5) (T := TX5) (N := 10) hx hb htu hinX5 hown hK hP 0 rfl rfl 9 (by decide) k_1_168 (fun _ h9 => h9) rfl dX5_readCircuit_44 ?_
          refine lv_bipush (v := (8 : Int32)) hx hb dX5_readCircuit_47 (by decide) ?_
          refine lv_icmp_le (tgt := 59) hx hb dX5_readCircuit_49 (by decide) (fun c19 => ?_) (fun c19 => ?_)
          · have hf := it_t hf c19
            refine lv_aload_n hx hb dX5_readCircuit_59 rfl (lv_at hl 0 rfl) ?_
            refine va_get (D := g.1) (ci := 5) (fs := fcD bD (bS 0) vD_4) (v := .ref (bS 0)) (C := RX5) (T := TX5) (N := 10) hx hb htu hinX5 hown hK hP 0 rfl rfl 0 (by decide) k_1_157 (fun _ h9 => h9) rfl dX5_readCircuit_60 ?_
            refine lv_aload_n hx hb dX5_readCircuit_63 rfl (lv_at hl 0 rfl) ?_
            refine va_get (D := g.1) (ci := 5) (fs := fcD bD (bS 0) vD_4) (v := .int (vD_4.1 9)) (C := RX5) (T := TX5) (N := 10) hx hb htu hinX5 hown hK hP 0 rfl rfl 9 (by decide) k_1_168 (fun _ h9 => h9) rfl dX5_readCircuit_64 ?_
            obtain ⟨vC_20, vT_21, hg22, hf⟩ := o2_at hf
            refine k_vvP ⟨hx, hb, hml, hown, htu⟩ hK hP hD hS hA hG (c_X4_clear l g bS bC vC bT vT (vD_4.1 9) vC_20 vT_21 hg22) (cwV 1 htu (gU_V mw_3_219 hcX4_clear) rfl rfl rfl hdX4_clear ⟨Nat.le_of_ble_eq_true rfl, Nat.le_of_ble_eq_true rfl⟩) (q0 := 2) (ci := 4) (fs := fcS bS (bC 0) (bT 0)) (q := (RX4, TX4, 2)) rfl rfl rfl (wr := (cD g bD (bS 0) vD_4)) (w2 := cD g bD (bS 0) vD_4 ++ (cS g bS (bC 0) (bT 0) ++ (cC g bC vC_20 ++ (cT g bT vT_21)))) [2, 3, 4, 5, 6, 7, 8, 9, 10, 11, 12, 13, 14, 15, 16, 17, 18] [0, 1] [0, 1, 2, 3, 4, 5, 6, 7, 8, 9, 10, 11, 12, 13, 14, 15, 16, 17, 18] rfl rfl (by decide) (by decide) (by decide) rfl rfl (by decide) (As := [.int (vD_4.1 9)]) (rest := []) rfl rfl hl.1 (Nat.le_of_ble_eq_true rfl) dX5_readCircuit_67 (k1 := 0) (n1 := 0) rfl rfl ⟨Nat.zero_le _, Nat.zero_le _⟩ (fun H locs hP hD hS => ?_)
            refine lv_aload_n hx hb dX5_readCircuit_70 rfl (lv_at hl 0 rfl) ?_
            obtain ⟨vD_23, hg24, hf⟩ := o1_at hf
            refine k_vvP ⟨hx, hb, hml, hown, htu⟩ hK hP hD hS hA hG (c_X5_advance l g bD (bS 0) vD_4 vD_23 hg24) (cwV 0 htu (gU_V mw_3_232 hcX5_advance) rfl rfl rfl hdX5_advance ⟨Nat.le_of_ble_eq_true rfl, Nat.le_of_ble_eq_true rfl⟩) (q0 := 0) (ci := 5) (fs := fcD bD (bS 0) vD_4) (q := (RX5, TX5, 10)) rfl rfl rfl (wr := (cS g bS (bC 0) (bT 0) ++ (cC g bC vC_20 ++ (cT g bT vT_21)))) (w2 := cD g bD (bS 0) vD_23 ++ (cS g bS (bC 0) (bT 0) ++ (cC g bC vC_20 ++ (cT g bT vT_21)))) [0, 1] [2, 3, 4, 5, 6, 7, 8, 9, 10, 11, 12, 13, 14, 15, 16, 17, 18] [17, 18, 0, 1, 2, 3, 4, 5, 6, 7, 8, 9, 10, 11, 12, 13, 14, 15, 16] rfl rfl (by decide) (by decide) (by decide) rfl rfl (by decide) (As := []) (rest := []) rfl rfl hl.1 (Nat.le_of_ble_eq_true rfl) dX5_readCircuit_71 (k1 := 0) (n1 := 0) rfl rfl ⟨Nat.zero_le _, Nat.zero_le _⟩ (fun H locs hP hD hS => ?_)
            refine lv_aload_n hx hb dX5_readCircuit_74 rfl (lv_at hl 0 rfl) ?_
            obtain ⟨r25, vD_26, hg27, hf⟩ := o2_at hf
            refine k_viP ⟨hx, hb, hml, hown, htu⟩ hK hP hD hS hA hG (c_X5_readSemicolon l g bD (bS 0) vD_23 r25 vD_26 hg27) (cwV 0 htu (gU_V mw_4_18 hcX5_readSemicolon) rfl rfl rfl hdX5_readSemicolon ⟨Nat.le_of_ble_eq_true rfl, Nat.le_of_ble_eq_true rfl⟩) (q0 := 0) (ci := 5) (fs := fcD bD (bS 0) vD_23) (q := (RX5, TX5, 10)) rfl rfl rfl (wr := (cS g bS (bC 0) (bT 0) ++ (cC g bC vC_20 ++ (cT g bT vT_21)))) (w2 := cD g bD (bS 0) vD_26 ++ (cS g bS (bC 0) (bT 0) ++ (cC g bC vC_20 ++ (cT g bT vT_21)))) [0, 1] [2, 3, 4, 5, 6, 7, 8, 9, 10, 11, 12, 13, 14, 15, 16, 17, 18] [17, 18, 0, 1, 2, 3, 4, 5, 6, 7, 8, 9, 10, 11, 12, 13, 14, 15, 16] rfl rfl (by decide) (by decide) (by decide) rfl rfl (by decide) (As := []) (rest := []) rfl rfl hl.1 (Nat.le_of_ble_eq_true rfl) dX5_readCircuit_75 (k1 := 0) (n1 := 0) rfl rfl ⟨Nat.zero_le _, Nat.zero_le _⟩ (fun H locs hP hD hS => ?_)
            obtain ⟨h28, hf⟩ := gd_isB hf
            obtain ⟨e29, e30, e31, e32⟩ := kp_4 hf
            rw [e30] at hP hD
            rw [e31] at hP hD
            rw [e32] at hP hD
            exact k_zret hx hb hr hlocks hK hP hD hS e29 h28 dX5_readCircuit_78
          · have hf := it_f hf c19
            exact hJ8 hf H locs hP hD hS _ (lv_sub hl [0] rfl)
      · have hf := it_f hf c6
        refine lv_aload_n hx hb dX5_readCircuit_28 rfl (lv_at hl 0 rfl) ?_
        refine lv_bipush (v := (-2 : Int32)) hx hb dX5_readCircuit_29 (by decide) ?_
        obtain ⟨r33, vD_34, hg35, hf⟩ := o2_at hf
        refine k_viP ⟨hx, hb, hml, hown, htu⟩ hK hP hD hS hA hG (c_X5_fail l g bD (bS 0) vD_4 (-2 : Int32) r33 vD_34 hg35) (cwV 1 htu (gU_V mw_4_14 hcX5_fail) rfl rfl rfl hdX5_fail ⟨Nat.le_of_ble_eq_true rfl, Nat.le_of_ble_eq_true rfl⟩) (q0 := 0) (ci := 5) (fs := fcD bD (bS 0) vD_4) (q := (RX5, TX5, 10)) rfl rfl rfl (wr := (cS g bS (bC 0) (bT 0) ++ (cC g bC vC ++ (cT g bT vT)))) (w2 := cD g bD (bS 0) vD_34 ++ (cS g bS (bC 0) (bT 0) ++ (cC g bC vC ++ (cT g bT vT)))) [0, 1] [2, 3, 4, 5, 6, 7, 8, 9, 10, 11, 12, 13, 14, 15, 16, 17, 18] [17, 18, 0, 1, 2, 3, 4, 5, 6, 7, 8, 9, 10, 11, 12, 13, 14, 15, 16] rfl rfl (by decide) (by decide) (by decide) rfl rfl (by decide) (As := [.int (-2 : Int32)]) (rest := []) rfl rfl hl.1 (Nat.le_of_ble_eq_true rfl) dX5_readCircuit_31 (k1 := 0) (n1 := 0) rfl rfl ⟨Nat.zero_le _, Nat.zero_le _⟩ (fun H locs hP hD hS => ?_)
        obtain ⟨h36, hf⟩ := gd_isB hf
        obtain ⟨e37, e38, e39, e40⟩ := kp_4 hf
        rw [e38] at hP hD
        rw [e39] at hP hD
        rw [e40] at hP hD
        exact k_zret hx hb hr hlocks hK hP hD hS e37 h36 dX5_readCircuit_34
    · have hf := it_t hf c3
      refine lv_aload_n hx hb dX5_readCircuit_9 rfl (lv_at hl 0 rfl) ?_
      refine lv_bipush (v := (-2 : Int32)) hx hb dX5_readCircuit_10 (by decide) ?_
      obtain ⟨r41, vD_42, hg43, hf⟩ := o2_at hf
      refine k_viP ⟨hx, hb, hml, hown, htu⟩ hK hP hD hS hA hG (c_X5_fail l g bD (bS 0) vD (-2 : Int32) r41 vD_42 hg43) (cwV 1 htu (gU_V mw_4_14 hcX5_fail) rfl rfl rfl hdX5_fail ⟨Nat.le_of_ble_eq_true rfl, Nat.le_of_ble_eq_true rfl⟩) (q0 := 0) (ci := 5) (fs := fcD bD (bS 0) vD) (q := (RX5, TX5, 10)) rfl rfl rfl (wr := (cS g bS (bC 0) (bT 0) ++ (cC g bC vC ++ (cT g bT vT)))) (w2 := cD g bD (bS 0) vD_42 ++ (cS g bS (bC 0) (bT 0) ++ (cC g bC vC ++ (cT g bT vT)))) [0, 1] [2, 3, 4, 5, 6, 7, 8, 9, 10, 11, 12, 13, 14, 15, 16, 17, 18] [17, 18, 0, 1, 2, 3, 4, 5, 6, 7, 8, 9, 10, 11, 12, 13, 14, 15, 16] rfl rfl (by decide) (by decide) (by decide) rfl rfl (by decide) (As := [.int (-2 : Int32)]) (rest := []) rfl rfl hl.1 (Nat.le_of_ble_eq_true rfl) dX5_readCircuit_12 (k1 := 0) (n1 := 0) rfl rfl ⟨Nat.zero_le _, Nat.zero_le _⟩ (fun H locs hP hD hS => ?_)
      obtain ⟨h44, hf⟩ := gd_isB hf
      obtain ⟨e45, e46, e47, e48⟩ := kp_4 hf
      rw [e46] at hP hD
      rw [e47] at hP hD
      rw [e48] at hP hD
      exact k_zret hx hb hr hlocks hK hP hD hS e45 h44 dX5_readCircuit_15
  rw [hH, hlo] at hW
  exact hW
def f_X5_read_L51 (self21 : Int32 → Int32 → Vs → Vs → Vs → Option (Int32 × Vs × Vs × Vs)) (x2_16 : Int32) (x3_17 : Int32) (vD_18 : Vs) (vC_19 : Vs) (vT_20 : Vs) : Option (Int32 × Vs × Vs × Vs) :=
  jn (some ((vD_18.1 4), vD_18, vC_19, vT_20)) (fun k24 => if (800 : Int32) ≤ x3_17 then k24 else if x2_16 = 0 then k24 else if (vD_18.1 7) = 0 then k24 else o4 (f_X5_readStatement vD_18 vC_19 vT_20) (fun (r34 : Int32) (vD_35 : Vs) (vC_36 : Vs) (vT_37 : Vs) => self21 r34 (x3_17 + (1 : Int32)) vD_35 vC_36 vT_37))
def f_X5_read (vD : Vs) (vC : Vs) (vT : Vs) (x1 : Int32) : Option (Int32 × Vs × Vs × Vs) :=
  bn (sF vD 5 (if (vD.1 1) < x1 then (vD.1 1) else x1)) (fun (vD_1 : Vs) => bn (sF vD_1 1 (0 : Int32)) (fun (vD_2 : Vs) => bn (sF vD_2 6 (0 : Int32)) (fun (vD_3 : Vs) => bn (sF vD_3 4 (0 : Int32)) (fun (vD_4 : Vs) => bn (sF vD_4 2 (-1 : Int32)) (fun (vD_5 : Vs) => o2 (f_X4_clear vC vT (1 : Int32)) (fun (vC_6 : Vs) (vT_7 : Vs) => o1 (f_X5_advance vD_5) (fun (vD_9 : Vs) => o4 (f_X5_readCircuit vD_9 vC_6 vT_7) (fun (r11 : Int32) (vD_12 : Vs) (vC_13 : Vs) (vT_14 : Vs) => lp f_X5_read_L51 (fun _ _ _ _ _ => none) FU r11 (0 : Int32) vD_12 vC_13 vT_14))))))))
abbrev wsX5_read : List Cond := .code yX5_read cX5_read 4 (some .int) :: UW
abbrev rmX5_read : Room := { frames := 8, cells := 0, slots := 0, locals := 171 }
set_option maxHeartbeats 4000000 in
set_option maxRecDepth 100000 in
theorem c_X5_read (l : Launch) (g : Gx) (bD : Nat → Nat) (vD : Vs) (bS : Nat → Nat) (bC : Nat → Nat) (vC : Vs) (bT : Nat → Nat) (vT : Vs) (x1 : Int32) (r : Int32) (vD1 : Vs) (vC1 : Vs) (vT1 : Vs) (hf : f_X5_read vD vC vT x1 = some (r, vD1, vC1, vT1)) : CtI l yX5_read wsX5_read rmX5_read g [.ref (bD 0), .int x1] (cD g bD (bS 0) vD ++ (cS g bS (bC 0) (bT 0) ++ (cC g bC vC ++ (cT g bT vT)))) (cD g bD (bS 0) vD1 ++ (cS g bS (bC 0) (bT 0) ++ (cC g bC vC1 ++ (cT g bT vT1)))) r 0 0 := by
  unfold CtI
  intro sz
  refine Met.ofW (cc := cX5_read) (maxL := 4) (ret := (some .int)) (by decide) rfl ?_
  intro p e s m args below meth c s₁ B hml hv
  obtain ⟨rfl, hsz, hP, hK, hD0, hG⟩ := hv
  have hx := B.exec
  have hb := B.bytes
  have hr := B.returns
  have hts := atoms_spec (ws := wsX5_read) B.pre
  have hown : s.vm.findClass RX5 = some m.cls := findClass_of_methodNamed B.named
  have hlocks := B.notSynchronized
  subst hsz
  have hD := hD0.self (sz := s.heap.size)
  generalize hAe : va_A (cD g bD (bS 0) vD ++ (cS g bS (bC 0) (bT 0) ++ (cC g bC vC ++ (cT g bT vT)))) s.heap.size = A at hD hG ⊢
  have hA : ∀ q : Nat, s.heap.size ≤ q → A q := fun q h => by rw [← hAe]; exact Or.inr h
  clear hAe hD0
  have hS : va_S A s.heap s.heap [] := va_S.rf
  have hl := lv_entry ([.ref (bD 0), .int x1]) (n := 4) (Nat.le_of_ble_eq_true rfl)
  rw [lg_entry_eq]
  generalize (lg_sl ([.ref (bD 0), .int x1]) ++ List.replicate (4 - (lg_sl ([.ref (bD 0), .int x1])).length) Slot.unset).toArray = ls at hl ⊢
  have hl : lv_has ls 4 [(0, .ref (bD 0)), (1, .int x1)] := hl
  have htu : ∀ w ∈ UW, w.before _ s = true := fun w h => hts w (List.mem_cons_of_mem _ h)
  have k_1_159 := htu _ mw_1_159
  have k_3_218 := htu _ mw_3_218
  have k_2_116 := htu _ mw_2_116
  have k_1_7 := htu _ mw_1_7
  have k_2_117 := htu _ mw_2_117
  have k_1_164 := htu _ mw_1_164
  have k_1_165 := htu _ mw_1_165
  have k_1_163 := htu _ mw_1_163
  have k_1_161 := htu _ mw_1_161
  have k_1_157 := htu _ mw_1_157
  have k_1_166 := htu _ mw_1_166
  unfold f_X5_read at hf
  obtain ⟨H, hH⟩ : ∃ z, z = s.heap := ⟨_, rfl⟩
  obtain ⟨locs, hlo⟩ : ∃ z : List Loc, z = [] := ⟨_, rfl⟩
  have hS : va_S A s.heap H locs := by rw [hH, hlo]; exact hS
  rw [← hH] at hP
  have hW : W p l e (headSpec wsX5_read rmX5_read).room s m ([.ref (bD 0), .int x1] : List Value).toArray below meth c H locs 0 0 (MQ below (qI g A (cD g bD (bS 0) vD1 ++ (cS g bS (bC 0) (bT 0) ++ (cC g bC vC1 ++ (cT g bT vT1)))) r) ([.ref (bD 0), .int x1] : List Value).toArray s 0 0 A) (F0 m 0 ls []) := by
    refine lv_aload_n hx hb dX5_read_0 rfl (lv_at hl 0 rfl) ?_
    refine lv_iload_n hx hb dX5_read_1 rfl (lv_at hl 1 rfl) ?_
    refine lv_aload_n hx hb dX5_read_2 rfl (lv_at hl 0 rfl) ?_
    refine va_get (D := g.1) (ci := 5) (fs := fcD bD (bS 0) vD) (v := .int (vD.1 1)) (C := RX5) (T := TX5) (N := 10) hx hb htu hinX5 hown hK hP 0 rfl rfl 1 (by decide) k_1_159 (fun _ h9 => h9) rfl dX5_read_3 ?_
    refine va_mmin hx hb (hml.trans hl.1.symm) hown k_3_218 k_2_116 k_1_7 k_2_117 (Nat.le_of_ble_eq_true rfl) (Nat.le_of_ble_eq_true rfl) (Nat.zero_le _) (Nat.zero_le _) dX5_read_6 ?_
    refine va_put (D := g.1) (ci := 5) (fs := fcD bD (bS 0) vD) (v := .int (if (vD.1 1) < x1 then (vD.1 1) else x1)) (ty := .int) (C := RX5) (T := TX5) (N := 10) hx hb htu hinX5 tyX5 tyX5_ok nmX5 hown hK hP hD hS 0 rfl rfl 5 (by decide) k_1_164 (fun _ h9 => h9) rfl (by decide +kernel) rfl rfl (Nat.le_of_ble_eq_true rfl) dX5_read_9 (fun H locs hP hD hS => ?_)
    obtain ⟨vD_1, evD_1⟩ : ∃ z, z = sF vD 5 (if (vD.1 1) < x1 then (vD.1 1) else x1) := ⟨_, rfl⟩
    have hf := bn_at hf evD_1
    have hP : va_P g.1 vwCl (cD g bD (bS 0) vD_1 ++ (cS g bS (bC 0) (bT 0) ++ (cC g bC vC ++ (cT g bT vT)))) H := by rw [evD_1]; exact hP
    have hD : va_D A (cD g bD (bS 0) vD_1 ++ (cS g bS (bC 0) (bT 0) ++ (cC g bC vC ++ (cT g bT vT)))) := by rw [evD_1]; exact hD
    refine lv_aload_n hx hb dX5_read_12 rfl (lv_at hl 0 rfl) ?_
    refine lv_iconst (v := (0 : Int32)) hx hb dX5_read_13 (by decide) ?_
    refine va_put (D := g.1) (ci := 5) (fs := fcD bD (bS 0) vD_1) (v := .int (0 : Int32)) (ty := .int) (C := RX5) (T := TX5) (N := 10) hx hb htu hinX5 tyX5 tyX5_ok nmX5 hown hK hP hD hS 0 rfl rfl 1 (by decide) k_1_159 (fun _ h9 => h9) rfl (by decide +kernel) rfl rfl (Nat.le_of_ble_eq_true rfl) dX5_read_14 (fun H locs hP hD hS => ?_)
    obtain ⟨vD_2, evD_2⟩ : ∃ z, z = sF vD_1 1 (0 : Int32) := ⟨_, rfl⟩
    have hf := bn_at hf evD_2
    have hP : va_P g.1 vwCl (cD g bD (bS 0) vD_2 ++ (cS g bS (bC 0) (bT 0) ++ (cC g bC vC ++ (cT g bT vT)))) H := by rw [evD_2]; exact hP
    have hD : va_D A (cD g bD (bS 0) vD_2 ++ (cS g bS (bC 0) (bT 0) ++ (cC g bC vC ++ (cT g bT vT)))) := by rw [evD_2]; exact hD
    refine lv_aload_n hx hb dX5_read_17 rfl (lv_at hl 0 rfl) ?_
    refine lv_iconst (v := (0 : Int32)) hx hb dX5_read_18 (by decide) ?_
    refine va_put (D := g.1) (ci := 5) (fs := fcD bD (bS 0) vD_2) (v := .int (0 : Int32)) (ty := .int) (C := RX5) (T := TX5) (N := 10) hx hb htu hinX5 tyX5 tyX5_ok nmX5 hown hK hP hD hS 0 rfl rfl 6 (by decide) k_1_165 (fun _ h9 => h9) rfl (by decide +kernel) rfl rfl (Nat.le_of_ble_eq_true rfl) dX5_read_19 (fun H locs hP hD hS => ?_)
    obtain ⟨vD_3, evD_3⟩ : ∃ z, z = sF vD_2 6 (0 : Int32) := ⟨_, rfl⟩
    have hf := bn_at hf evD_3
    have hP : va_P g.1 vwCl (cD g bD (bS 0) vD_3 ++ (cS g bS (bC 0) (bT 0) ++ (cC g bC vC ++ (cT g bT vT)))) H := by rw [evD_3]; exact hP
    have hD : va_D A (cD g bD (bS 0) vD_3 ++ (cS g bS (bC 0) (bT 0) ++ (cC g bC vC ++ (cT g bT vT)))) := by rw [evD_3]; exact hD
    refine lv_aload_n hx hb dX5_read_22 rfl (lv_at hl 0 rfl) ?_
    refine lv_iconst (v := (0 : Int32)) hx hb dX5_read_23 (by decide) ?_
    refine va_put (D := g.1) (ci := 5) (fs := fcD bD (bS 0) vD_3) (v := .int (0 : Int32)) (ty := .int) (C := RX5) (T := TX5) (N := 10) hx hb htu hinX5 tyX5 tyX5_ok nmX5 hown hK hP hD hS 0 rfl rfl 4 (by decide) k_1_163 (fun _ h9 => h9) rfl (by decide +kernel) rfl rfl (Nat.le_of_ble_eq_true rfl) dX5_read_24 (fun H locs hP hD hS => ?_)
    obtain ⟨vD_4, evD_4⟩ : ∃ z, z = sF vD_3 4 (0 : Int32) := ⟨_, rfl⟩
    have hf := bn_at hf evD_4
    have hP : va_P g.1 vwCl (cD g bD (bS 0) vD_4 ++ (cS g bS (bC 0) (bT 0) ++ (cC g bC vC ++ (cT g bT vT)))) H := by rw [evD_4]; exact hP
    have hD : va_D A (cD g bD (bS 0) vD_4 ++ (cS g bS (bC 0) (bT 0) ++ (cC g bC vC ++ (cT g bT vT)))) := by rw [evD_4]; exact hD
    refine lv_aload_n hx hb dX5_read_27 rfl (lv_at hl 0 rfl) ?_
    refine lv_iconst (v := (-1 : Int32)) hx hb dX5_read_28 (by decide) ?_
    refine va_put (D := g.1) (ci := 5) (fs := fcD bD (bS 0) vD_4) (v := .int (-1 : Int32)) (ty := .int) (C := RX5) (T := TX5) (N := 10) hx hb htu hinX5 tyX5 tyX5_ok nmX5 hown hK hP hD hS 0 rfl rfl 2 (by decide) k_1_161 (fun _ h9 => h9) rfl (by decide +kernel) rfl rfl (Nat.le_of_ble_eq_true rfl) dX5_read_29 (fun H locs hP hD hS => ?_)
    obtain ⟨vD_5, evD_5⟩ : ∃ z, z = sF vD_4 2 (-1 : Int32) := ⟨_, rfl⟩
    have hf := bn_at hf evD_5
    have hP : va_P g.1 vwCl (cD g bD (bS 0) vD_5 ++ (cS g bS (bC 0) (bT 0) ++ (cC g bC vC ++ (cT g bT vT)))) H := by rw [evD_5]; exact hP
    have hD : va_D A (cD g bD (bS 0) vD_5 ++ (cS g bS (bC 0) (bT 0) ++ (cC g bC vC ++ (cT g bT vT)))) := by rw [evD_5]; exact hD
    refine lv_aload_n hx hb dX5_read_32 rfl (lv_at hl 0 rfl) ?_
    refine va_get (D := g.1) (ci := 5) (fs := fcD bD (bS 0) vD_5) (v := .ref (bS 0)) (C := RX5) (T := TX5) (N := 10) hx hb htu hinX5 hown hK hP 0 rfl rfl 0 (by decide) k_1_157 (fun _ h9 => h9) rfl dX5_read_33 ?_
    refine lv_iconst (v := (1 : Int32)) hx hb dX5_read_36 (by decide) ?_
    obtain ⟨vC_6, vT_7, hg8, hf⟩ := o2_at hf
    refine k_vvP ⟨hx, hb, hml, hown, htu⟩ hK hP hD hS hA hG (c_X4_clear l g bS bC vC bT vT (1 : Int32) vC_6 vT_7 hg8) (cwV 1 htu (gU_V mw_3_219 hcX4_clear) rfl rfl rfl hdX4_clear ⟨Nat.le_of_ble_eq_true rfl, Nat.le_of_ble_eq_true rfl⟩) (q0 := 2) (ci := 4) (fs := fcS bS (bC 0) (bT 0)) (q := (RX4, TX4, 2)) rfl rfl rfl (wr := (cD g bD (bS 0) vD_5)) (w2 := cD g bD (bS 0) vD_5 ++ (cS g bS (bC 0) (bT 0) ++ (cC g bC vC_6 ++ (cT g bT vT_7)))) [2, 3, 4, 5, 6, 7, 8, 9, 10, 11, 12, 13, 14, 15, 16, 17, 18] [0, 1] [0, 1, 2, 3, 4, 5, 6, 7, 8, 9, 10, 11, 12, 13, 14, 15, 16, 17, 18] rfl rfl (by decide) (by decide) (by decide) rfl rfl (by decide) (As := [.int (1 : Int32)]) (rest := []) rfl rfl hl.1 (Nat.le_of_ble_eq_true rfl) dX5_read_37 (k1 := 0) (n1 := 0) rfl rfl ⟨Nat.zero_le _, Nat.zero_le _⟩ (fun H locs hP hD hS => ?_)
    refine lv_aload_n hx hb dX5_read_40 rfl (lv_at hl 0 rfl) ?_
    obtain ⟨vD_9, hg10, hf⟩ := o1_at hf
    refine k_vvP ⟨hx, hb, hml, hown, htu⟩ hK hP hD hS hA hG (c_X5_advance l g bD (bS 0) vD_5 vD_9 hg10) (cwV 0 htu (gU_V mw_3_232 hcX5_advance) rfl rfl rfl hdX5_advance ⟨Nat.le_of_ble_eq_true rfl, Nat.le_of_ble_eq_true rfl⟩) (q0 := 0) (ci := 5) (fs := fcD bD (bS 0) vD_5) (q := (RX5, TX5, 10)) rfl rfl rfl (wr := (cS g bS (bC 0) (bT 0) ++ (cC g bC vC_6 ++ (cT g bT vT_7)))) (w2 := cD g bD (bS 0) vD_9 ++ (cS g bS (bC 0) (bT 0) ++ (cC g bC vC_6 ++ (cT g bT vT_7)))) [0, 1] [2, 3, 4, 5, 6, 7, 8, 9, 10, 11, 12, 13, 14, 15, 16, 17, 18] [17, 18, 0, 1, 2, 3, 4, 5, 6, 7, 8, 9, 10, 11, 12, 13, 14, 15, 16] rfl rfl (by decide) (by decide) (by decide) rfl rfl (by decide) (As := []) (rest := []) rfl rfl hl.1 (Nat.le_of_ble_eq_true rfl) dX5_read_41 (k1 := 0) (n1 := 0) rfl rfl ⟨Nat.zero_le _, Nat.zero_le _⟩ (fun H locs hP hD hS => ?_)
    refine lv_aload_n hx hb dX5_read_44 rfl (lv_at hl 0 rfl) ?_
    obtain ⟨r11, vD_12, vC_13, vT_14, hg15, hf⟩ := o4_at hf
    refine k_viW ⟨hx, hb, hml, hown, htu⟩ hK hP hD hS hA hG (c_X5_readCircuit l g bD vD_9 bS bC vC_6 bT vT_7 r11 vD_12 vC_13 vT_14 hg15) (cwV 0 htu (gU_V mw_4_3 hcX5_readCircuit) rfl rfl rfl hdX5_readCircuit ⟨Nat.le_of_ble_eq_true rfl, Nat.le_of_ble_eq_true rfl⟩) (q0 := 0) (ci := 5) (fs := fcD bD (bS 0) vD_9) (q := (RX5, TX5, 10)) rfl rfl rfl (As := []) (rest := []) rfl rfl hl.1 (Nat.le_of_ble_eq_true rfl) dX5_read_45 (k1 := 0) (n1 := 0) rfl rfl ⟨Nat.zero_le _, Nat.zero_le _⟩ (fun H locs hP hD hS => ?_)
    refine lv_istore_n (lv' := [(2, .int r11), (0, .ref (bD 0)), (1, .int x1)]) hx hb dX5_read_48 rfl hl (by decide) rfl (fun ls hl => ?_)
    refine lv_iconst (v := (0 : Int32)) hx hb dX5_read_49 (by decide) ?_
    refine lv_istore_n (lv' := [(3, .int (0 : Int32)), (2, .int r11), (0, .ref (bD 0)), (1, .int x1)]) hx hb dX5_read_50 rfl hl (by decide) rfl (fun ls hl => ?_)
    have hL22 : ∀ (x2_16 : Int32) (x3_17 : Int32) (vD_18 : Vs) (vC_19 : Vs) (vT_20 : Vs), lp f_X5_read_L51 (fun _ _ _ _ _ => none) FU x2_16 x3_17 vD_18 vC_19 vT_20 = some (r, vD1, vC1, vT1) → ∀ (H : Heap) (locs : List Loc), va_P g.1 vwCl (cD g bD (bS 0) vD_18 ++ (cS g bS (bC 0) (bT 0) ++ (cC g bC vC_19 ++ (cT g bT vT_20)))) H → va_D A (cD g bD (bS 0) vD_18 ++ (cS g bS (bC 0) (bT 0) ++ (cC g bC vC_19 ++ (cT g bT vT_20)))) → va_S A s.heap H locs → ∀ ls : Array Slot, lv_has ls 4 [(0, .ref (bD 0)), (2, .int x2_16), (3, .int x3_17)] → W p l e (headSpec wsX5_read rmX5_read).room s m ([.ref (bD 0), .int x1] : List Value).toArray below meth c H locs 0 0 (MQ below (qI g A (cD g bD (bS 0) vD1 ++ (cS g bS (bC 0) (bT 0) ++ (cC g bC vC1 ++ (cT g bT vT1)))) r) ([.ref (bD 0), .int x1] : List Value).toArray s 0 0 A) (F0 m 51 ls []) := by
      refine lp_ind (T := Int32 → Int32 → Vs → Vs → Vs → Option (Int32 × Vs × Vs × Vs)) (fun self21 => ∀ (x2_16 : Int32) (x3_17 : Int32) (vD_18 : Vs) (vC_19 : Vs) (vT_20 : Vs), self21 x2_16 x3_17 vD_18 vC_19 vT_20 = some (r, vD1, vC1, vT1) → ∀ (H : Heap) (locs : List Loc), va_P g.1 vwCl (cD g bD (bS 0) vD_18 ++ (cS g bS (bC 0) (bT 0) ++ (cC g bC vC_19 ++ (cT g bT vT_20)))) H → va_D A (cD g bD (bS 0) vD_18 ++ (cS g bS (bC 0) (bT 0) ++ (cC g bC vC_19 ++ (cT g bT vT_20)))) → va_S A s.heap H locs → ∀ ls : Array Slot, lv_has ls 4 [(0, .ref (bD 0)), (2, .int x2_16), (3, .int x3_17)] → W p l e (headSpec wsX5_read rmX5_read).room s m ([.ref (bD 0), .int x1] : List Value).toArray below meth c H locs 0 0 (MQ below (qI g A (cD g bD (bS 0) vD1 ++ (cS g bS (bC 0) (bT 0) ++ (cC g bC vC1 ++ (cT g bT vT1)))) r) ([.ref (bD 0), .int x1] : List Value).toArray s 0 0 A) (F0 m 51 ls [])) ?_ ?_ FU
      · intro x2_16 x3_17 vD_18 vC_19 vT_20 hf; cases hf
      · intro self21 ih23 x2_16 x3_17 vD_18 vC_19 vT_20 hf H locs hP hD hS ls hl
        unfold f_X5_read_L51 at hf
        refine lv_iload_n hx hb dX5_read_51 rfl (lv_at hl 2 rfl) ?_
        refine lv_sipush (v := (800 : Int32)) hx hb dX5_read_52 (by decide) ?_
        obtain ⟨k24, hk30, hf⟩ := jn_at hf
        have hJ25 : k24 = some (r, vD1, vC1, vT1) → ∀ (H : Heap) (locs : List Loc), va_P g.1 vwCl (cD g bD (bS 0) vD_18 ++ (cS g bS (bC 0) (bT 0) ++ (cC g bC vC_19 ++ (cT g bT vT_20)))) H → va_D A (cD g bD (bS 0) vD_18 ++ (cS g bS (bC 0) (bT 0) ++ (cC g bC vC_19 ++ (cT g bT vT_20)))) → va_S A s.heap H locs → ∀ ls : Array Slot, lv_has ls 4 [(0, .ref (bD 0))] → W p l e (headSpec wsX5_read rmX5_read).room s m ([.ref (bD 0), .int x1] : List Value).toArray below meth c H locs 0 0 (MQ below (qI g A (cD g bD (bS 0) vD1 ++ (cS g bS (bC 0) (bT 0) ++ (cC g bC vC1 ++ (cT g bT vT1)))) r) ([.ref (bD 0), .int x1] : List Value).toArray s 0 0 A) (F0 m 80 ls []) := by
          intro hf H locs hP hD hS ls hl
          rw [hk30] at hf
          clear hk30
          refine lv_aload_n hx hb dX5_read_80 rfl (lv_at hl 0 rfl) ?_
          refine va_get (D := g.1) (ci := 5) (fs := fcD bD (bS 0) vD_18) (v := .int (vD_18.1 4)) (C := RX5) (T := TX5) (N := 10) hx hb htu hinX5 hown hK hP 0 rfl rfl 4 (by decide) k_1_163 (fun _ h9 => h9) rfl dX5_read_81 ?_
          obtain ⟨e26, e27, e28, e29⟩ := kp_4 hf
          rw [e27] at hP hD
          rw [e28] at hP hD
          rw [e29] at hP hD
          exact k_iret hx hb hr hlocks hK hP hD hS e26 dX5_read_84
        refine lv_icmp_ge (tgt := 80) hx hb dX5_read_55 (by decide) (fun c31 => ?_) (fun c31 => ?_)
        · have hf := it_t hf c31
          exact hJ25 hf H locs hP hD hS _ (lv_sub hl [0] rfl)
        · have hf := it_f hf c31
          refine lv_iload_n hx hb dX5_read_58 rfl (lv_at hl 1 rfl) ?_
          refine lv_if_eq (tgt := 80) hx hb dX5_read_59 (by decide) (fun c32 => ?_) (fun c32 => ?_)
          · have hf := it_t hf c32
            exact hJ25 hf H locs hP hD hS _ (lv_sub hl [0] rfl)
          · have hf := it_f hf c32
            refine lv_aload_n hx hb dX5_read_62 rfl (lv_at hl 0 rfl) ?_
            refine va_get (D := g.1) (ci := 5) (fs := fcD bD (bS 0) vD_18) (v := .int (vD_18.1 7)) (C := RX5) (T := TX5) (N := 10) hx hb htu hinX5 hown hK hP 0 rfl rfl 7 (by decide) k_1_166 (fun _ h9 => h9) rfl dX5_read_63 ?_
            refine lv_if_eq (tgt := 80) hx hb dX5_read_66 (by decide) (fun c33 => ?_) (fun c33 => ?_)
            · have hf := it_t hf c33
              exact hJ25 hf H locs hP hD hS _ (lv_sub hl [0] rfl)
            · have hf := it_f hf c33
              refine lv_aload_n hx hb dX5_read_69 rfl (lv_at hl 0 rfl) ?_
              obtain ⟨r34, vD_35, vC_36, vT_37, hg38, hf⟩ := o4_at hf
              refine k_viW ⟨hx, hb, hml, hown, htu⟩ hK hP hD hS hA hG (c_X5_readStatement l g bD vD_18 bS bC vC_19 bT vT_20 r34 vD_35 vC_36 vT_37 hg38) (cwV 0 htu (gU_V mw_4_22 hcX5_readStatement) rfl rfl rfl hdX5_readStatement ⟨Nat.le_of_ble_eq_true rfl, Nat.le_of_ble_eq_true rfl⟩) (q0 := 0) (ci := 5) (fs := fcD bD (bS 0) vD_18) (q := (RX5, TX5, 10)) rfl rfl rfl (As := []) (rest := []) rfl rfl hl.1 (Nat.le_of_ble_eq_true rfl) dX5_read_70 (k1 := 0) (n1 := 0) rfl rfl ⟨Nat.zero_le _, Nat.zero_le _⟩ (fun H locs hP hD hS => ?_)
              refine lv_istore_n (lv' := [(2, .int r34), (0, .ref (bD 0)), (3, .int x3_17)]) hx hb dX5_read_73 rfl hl (by decide) rfl (fun ls hl => ?_)
              refine lv_iinc (v := (x3_17 + (1 : Int32))) (lv' := [(3, .int (x3_17 + (1 : Int32))), (2, .int r34), (0, .ref (bD 0))]) hx hb dX5_read_74 hl (k := 2) rfl rfl (by decide) rfl (fun ls hl => ?_)
              refine lv_goto (tgt := 51) hx hb dX5_read_77 (by decide) ?_
              exact ih23 r34 (x3_17 + (1 : Int32)) vD_35 vC_36 vT_37 hf H locs hP hD hS _ (lv_sub hl [2, 1, 0] rfl)
    exact hL22 r11 (0 : Int32) vD_12 vC_13 vT_14 hf H locs hP hD hS _ (lv_sub hl [2, 1, 0] rfl)
  rw [hH, hlo] at hW
  exact hW
