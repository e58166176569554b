def f_J0_coder_7d493_d (vZ : Vs) (vY : Vs) : Option (Int32) :=
  jn (fun (t1 : Int32) => gd (isY t1) (some (t1))) (fun k2 => if (1 : Int32) = 0 then k2 (1 : Int32) else k2 (vZ.1 1))
abbrev rmJ0_coder_7d493_d : Room := { frames := 1, cells := 0, slots := 0, locals := 24 }
set_option maxHeartbeats 4000000 in
set_option maxRecDepth 100000 in
theorem c_J0_coder_7d493_d (l : Launch) (g : Gx) (aZ : Nat) (vZ : Vs) (qY : Nat) (vY : Vs) (r : Int32) (hf : f_J0_coder_7d493_d vZ vY = some r) : CtG l yJ0_coder_7d493 wsJ0_coder_7d493 rmJ0_coder_7d493_d g [.ref aZ] (cZ g aZ (.ref qY) vZ ++ (cB g qY vY)) (fun (u : Nat → Nat) => cZ g aZ (.ref qY) vZ ++ (cB g qY vY)) (fun (u : Nat → Nat) => (fun _ => some (.int r)) u) 0 0 := by
  unfold CtG
  intro sz
  refine Met.ofW (cc := cJ0_coder_7d493) (maxL := 1) (ret := (some .byte)) (by decide) rfl ?_
  intro p e s m args below meth c s₁ B hml hv
  obtain ⟨rfl, hsz, hP, hK, hD0, hG⟩ := hv
  have hx := B.exec
  have hb := B.bytes
  have hr := B.returns
  have hts := atoms_spec (ws := wsJ0_coder_7d493) B.pre
  have hown : s.vm.findClass RJ0 = some m.cls := findClass_of_methodNamed B.named
  have hlocks := B.notSynchronized
  subst hsz
  have hD := hD0.self (sz := s.heap.size)
  generalize hAe : va_A (cZ g aZ (.ref qY) vZ ++ (cB g qY vY)) s.heap.size = A at hD hG ⊢
  have hA : ∀ q : Nat, s.heap.size ≤ q → A q := fun q h => by rw [← hAe]; exact Or.inr h
  clear hAe hD0
  have hS : va_S A s.heap s.heap [] := va_S.rf
  have hl := lv_entry ([.ref aZ]) (n := 1) (Nat.le_of_ble_eq_true rfl)
  rw [lg_entry_eq]
  generalize (lg_sl ([.ref aZ]) ++ List.replicate (1 - (lg_sl ([.ref aZ])).length) Slot.unset).toArray = ls at hl ⊢
  have hl : lv_has ls 1 [(0, .ref aZ)] := hl
  have htu : ∀ w ∈ UW, w.before _ s = true := fun w h => hts w (List.mem_cons_of_mem _ h)
  have k_3_161 := htu _ mw_3_161
  have k_5_149 := htu _ mw_5_149
  unfold f_J0_coder_7d493_d at hf
  obtain ⟨H, hH⟩ : ∃ z, z = s.heap := ⟨_, rfl⟩
  obtain ⟨locs, hlo⟩ : ∃ z : List Loc, z = [] := ⟨_, rfl⟩
  have hS : va_S A s.heap H locs := by rw [hH, hlo]; exact hS
  rw [← hH] at hP
  have hW : W p l e (headSpec wsJ0_coder_7d493 rmJ0_coder_7d493_d).room s m ([.ref aZ] : List Value).toArray below meth c H locs 0 0 (MQ below (qG g A (fun (u : Nat → Nat) => cZ g aZ (.ref qY) vZ ++ (cB g qY vY)) (fun (u : Nat → Nat) => (fun _ => some (.int r)) u)) ([.ref aZ] : List Value).toArray s 0 0 A) (F0 m 0 ls []) := by
    refine va_gets (v := .int 1) hx hb hG.2.2.2.1.1 hS hown k_3_161 (fun _ h9 => h9) dJ0_coder_7d493_0 ?_
    obtain ⟨k2, hk6, hf⟩ := jn_at hf
    have hJ3 : ∀ (t1 : Int32), k2 t1 = some r → ∀ (H : Heap) (locs : List Loc), va_P g.1 vwCl (cZ g aZ (.ref qY) vZ ++ (cB g qY vY)) H → va_D A (cZ g aZ (.ref qY) vZ ++ (cB g qY vY)) → va_S A s.heap H locs → ∀ ls : Array Slot, lv_has ls 1 [] → W p l e (headSpec wsJ0_coder_7d493 rmJ0_coder_7d493_d).room s m ([.ref aZ] : List Value).toArray below meth c H locs 0 0 (MQ below (qG g A (fun (u : Nat → Nat) => cZ g aZ (.ref qY) vZ ++ (cB g qY vY)) (fun (u : Nat → Nat) => (fun _ => some (.int r)) u)) ([.ref aZ] : List Value).toArray s 0 0 A) (F0 m 14 ls [.int t1]) := by
      intro t1 hf H locs hP hD hS ls hl
      rw [hk6] at hf
      dsimp only at hf
      clear hk6
      obtain ⟨h4, hf⟩ := gd_at hf
      have e5 := Option.some.inj hf
      exact k_Gnret (w1 := fun (u : Nat → Nat) => cZ g aZ (.ref qY) vZ ++ (cB g qY vY)) (rv := fun (u : Nat → Nat) => (fun _ => some (.int r)) u) (u := (fun i => 0)) hx hb hr hlocks hK hP hD hS rfl e5 (congrArg Value.int (of_decide_eq_true h4)) dJ0_coder_7d493_14
    refine lv_if_eq (tgt := 13) hx hb dJ0_coder_7d493_3 (by decide) (fun c7 => ?_) (fun c7 => ?_)
    · have hf := it_t hf c7
      refine lv_iconst (v := (1 : Int32)) hx hb dJ0_coder_7d493_13 (by decide) ?_
      exact hJ3 (1 : Int32) hf H locs hP hD hS _ (lv_sub hl [] rfl)
    · have hf := it_f hf c7
      refine lv_aload_n hx hb dJ0_coder_7d493_6 rfl (lv_at hl 0 rfl) ?_
      refine va_get (D := g.1) (ci := 9) (fs := fcU (.ref qY) vZ) (v := .int (vZ.1 1)) (C := RJ0) (T := TJ0) (N := 4) hx hb htu hinJ0 hown hK hP 0 rfl rfl 1 (by decide) k_5_149 (fun x9 h9 => h9) rfl dJ0_coder_7d493_7 ?_
      refine lv_goto (tgt := 14) hx hb dJ0_coder_7d493_10 (by decide) ?_
      exact hJ3 (vZ.1 1) hf H locs hP hD hS _ (lv_sub hl [] rfl)
  rw [hH, hlo] at hW
  exact hW
def f_J0_isLatin1_aae02_d (vZ : Vs) (vY : Vs) : Option (Int32) :=
  jn (fun (t1 : Int32) => gd (isB t1) (some (t1))) (fun k2 => jn (k2 (0 : Int32)) (fun k7 => if (1 : Int32) = 0 then k7 else if (vZ.1 1) = 0 then k2 (1 : Int32) else k7))
abbrev rmJ0_isLatin1_aae02_d : Room := { frames := 1, cells := 0, slots := 0, locals := 24 }
set_option maxHeartbeats 4000000 in
set_option maxRecDepth 100000 in
theorem c_J0_isLatin1_aae02_d (l : Launch) (g : Gx) (aZ : Nat) (vZ : Vs) (qY : Nat) (vY : Vs) (r : Int32) (hf : f_J0_isLatin1_aae02_d vZ vY = some r) : CtG l yJ0_isLatin1_aae02 wsJ0_isLatin1_aae02 rmJ0_isLatin1_aae02_d g [.ref aZ] (cZ g aZ (.ref qY) vZ ++ (cB g qY vY)) (fun (u : Nat → Nat) => cZ g aZ (.ref qY) vZ ++ (cB g qY vY)) (fun (u : Nat → Nat) => (fun _ => some (.int r)) u) 0 0 := by
  unfold CtG
  intro sz
  refine Met.ofW (cc := cJ0_isLatin1_aae02) (maxL := 1) (ret := (some .boolean)) (by decide) rfl ?_
  intro p e s m args below meth c s₁ B hml hv
  obtain ⟨rfl, hsz, hP, hK, hD0, hG⟩ := hv
  have hx := B.exec
  have hb := B.bytes
  have hr := B.returns
  have hts := atoms_spec (ws := wsJ0_isLatin1_aae02) B.pre
  have hown : s.vm.findClass RJ0 = some m.cls := findClass_of_methodNamed B.named
  have hlocks := B.notSynchronized
  subst hsz
  have hD := hD0.self (sz := s.heap.size)
  generalize hAe : va_A (cZ g aZ (.ref qY) vZ ++ (cB g qY vY)) s.heap.size = A at hD hG ⊢
  have hA : ∀ q : Nat, s.heap.size ≤ q → A q := fun q h => by rw [← hAe]; exact Or.inr h
  clear hAe hD0
  have hS : va_S A s.heap s.heap [] := va_S.rf
  have hl := lv_entry ([.ref aZ]) (n := 1) (Nat.le_of_ble_eq_true rfl)
  rw [lg_entry_eq]
  generalize (lg_sl ([.ref aZ]) ++ List.replicate (1 - (lg_sl ([.ref aZ])).length) Slot.unset).toArray = ls at hl ⊢
  have hl : lv_has ls 1 [(0, .ref aZ)] := hl
  have htu : ∀ w ∈ UW, w.before _ s = true := fun w h => hts w (List.mem_cons_of_mem _ h)
  have k_3_161 := htu _ mw_3_161
  have k_5_149 := htu _ mw_5_149
  unfold f_J0_isLatin1_aae02_d at hf
  obtain ⟨H, hH⟩ : ∃ z, z = s.heap := ⟨_, rfl⟩
  obtain ⟨locs, hlo⟩ : ∃ z : List Loc, z = [] := ⟨_, rfl⟩
  have hS : va_S A s.heap H locs := by rw [hH, hlo]; exact hS
  rw [← hH] at hP
  have hW : W p l e (headSpec wsJ0_isLatin1_aae02 rmJ0_isLatin1_aae02_d).room s m ([.ref aZ] : List Value).toArray below meth c H locs 0 0 (MQ below (qG g A (fun (u : Nat → Nat) => cZ g aZ (.ref qY) vZ ++ (cB g qY vY)) (fun (u : Nat → Nat) => (fun _ => some (.int r)) u)) ([.ref aZ] : List Value).toArray s 0 0 A) (F0 m 0 ls []) := by
    refine va_gets (v := .int 1) hx hb hG.2.2.2.1.1 hS hown k_3_161 (fun _ h9 => h9) dJ0_isLatin1_aae02_0 ?_
    obtain ⟨k2, hk6, hf⟩ := jn_at hf
    have hJ3 : ∀ (t1 : Int32), k2 t1 = some r → ∀ (H : Heap) (locs : List Loc), va_P g.1 vwCl (cZ g aZ (.ref qY) vZ ++ (cB g qY vY)) H → va_D A (cZ g aZ (.ref qY) vZ ++ (cB g qY vY)) → va_S A s.heap H locs → ∀ ls : Array Slot, lv_has ls 1 [] → W p l e (headSpec wsJ0_isLatin1_aae02 rmJ0_isLatin1_aae02_d).room s m ([.ref aZ] : List Value).toArray below meth c H locs 0 0 (MQ below (qG g A (fun (u : Nat → Nat) => cZ g aZ (.ref qY) vZ ++ (cB g qY vY)) (fun (u : Nat → Nat) => (fun _ => some (.int r)) u)) ([.ref aZ] : List Value).toArray s 0 0 A) (F0 m 18 ls [.int t1]) := by
      intro t1 hf H locs hP hD hS ls hl
      rw [hk6] at hf
      dsimp only at hf
      clear hk6
      obtain ⟨h4, hf⟩ := gd_isB hf
      have e5 := Option.some.inj hf
      exact k_Gnret (w1 := fun (u : Nat → Nat) => cZ g aZ (.ref qY) vZ ++ (cB g qY vY)) (rv := fun (u : Nat → Nat) => (fun _ => some (.int r)) u) (u := (fun i => 0)) hx hb hr hlocks hK hP hD hS rfl e5 (nar01 h4) dJ0_isLatin1_aae02_18
    obtain ⟨k7, hk9, hf⟩ := jn_at hf
    have hJ8 : k7 = some r → ∀ (H : Heap) (locs : List Loc), va_P g.1 vwCl (cZ g aZ (.ref qY) vZ ++ (cB g qY vY)) H → va_D A (cZ g aZ (.ref qY) vZ ++ (cB g qY vY)) → va_S A s.heap H locs → ∀ ls : Array Slot, lv_has ls 1 [] → W p l e (headSpec wsJ0_isLatin1_aae02 rmJ0_isLatin1_aae02_d).room s m ([.ref aZ] : List Value).toArray below meth c H locs 0 0 (MQ below (qG g A (fun (u : Nat → Nat) => cZ g aZ (.ref qY) vZ ++ (cB g qY vY)) (fun (u : Nat → Nat) => (fun _ => some (.int r)) u)) ([.ref aZ] : List Value).toArray s 0 0 A) (F0 m 17 ls []) := by
      intro hf H locs hP hD hS ls hl
      rw [hk9] at hf
      clear hk9
      refine lv_iconst (v := (0 : Int32)) hx hb dJ0_isLatin1_aae02_17 (by decide) ?_
      exact hJ3 (0 : Int32) hf H locs hP hD hS _ (lv_sub hl [] rfl)
    refine lv_if_eq (tgt := 17) hx hb dJ0_isLatin1_aae02_3 (by decide) (fun c10 => ?_) (fun c10 => ?_)
    · have hf := it_t hf c10
      exact hJ8 hf H locs hP hD hS _ (lv_sub hl [] rfl)
    · have hf := it_f hf c10
      refine lv_aload_n hx hb dJ0_isLatin1_aae02_6 rfl (lv_at hl 0 rfl) ?_
      refine va_get (D := g.1) (ci := 9) (fs := fcU (.ref qY) vZ) (v := .int (vZ.1 1)) (C := RJ0) (T := TJ0) (N := 4) hx hb htu hinJ0 hown hK hP 0 rfl rfl 1 (by decide) k_5_149 (fun x9 h9 => h9) rfl dJ0_isLatin1_aae02_7 ?_
      refine lv_if_ne (tgt := 17) hx hb dJ0_isLatin1_aae02_10 (by decide) (fun c11 => ?_) (fun c11 => ?_)
      · have hf := it_f hf c11
        exact hJ8 hf H locs hP hD hS _ (lv_sub hl [] rfl)
      · have hf := it_t hf c11
        refine lv_iconst (v := (1 : Int32)) hx hb dJ0_isLatin1_aae02_13 (by decide) ?_
        refine lv_goto (tgt := 18) hx hb dJ0_isLatin1_aae02_14 (by decide) ?_
        exact hJ3 (1 : Int32) hf H locs hP hD hS _ (lv_sub hl [] rfl)
  rw [hH, hlo] at hW
  exact hW
def f_J0_length_8abf5_d (vZ : Vs) (vY : Vs) : Option (Int32) :=
  o1 (f_J0_coder_7d493_d vZ vY) (fun (r1 : Int32) => some (((nI (vY.1 9).toNatClampNeg) >>> (r1 &&& 31))))
abbrev rmJ0_length_8abf5_d : Room := { frames := 2, cells := 0, slots := 0, locals := 44 }
set_option maxHeartbeats 4000000 in
set_option maxRecDepth 100000 in
theorem c_J0_length_8abf5_d (l : Launch) (g : Gx) (aZ : Nat) (vZ : Vs) (qY : Nat) (vY : Vs) (r : Int32) (hf : f_J0_length_8abf5_d vZ vY = some r) : CtG l yJ0_length_8abf5 wsJ0_length_8abf5 rmJ0_length_8abf5_d g [.ref aZ] (cZ g aZ (.ref qY) vZ ++ (cB g qY vY)) (fun (u : Nat → Nat) => cZ g aZ (.ref qY) vZ ++ (cB g qY vY)) (fun (u : Nat → Nat) => (fun _ => some (.int r)) u) 0 0 := by
  unfold CtG
  intro sz
  refine Met.ofW (cc := cJ0_length_8abf5) (maxL := 1) (ret := (some .int)) (by decide) rfl ?_
  intro p e s m args below meth c s₁ B hml hv
  obtain ⟨rfl, hsz, hP, hK, hD0, hG⟩ := hv
  have hx := B.exec
  have hb := B.bytes
  have hr := B.returns
  have hts := atoms_spec (ws := wsJ0_length_8abf5) B.pre
  have hown : s.vm.findClass RJ0 = some m.cls := findClass_of_methodNamed B.named
  have hlocks := B.notSynchronized
  subst hsz
  have hD := hD0.self (sz := s.heap.size)
  generalize hAe : va_A (cZ g aZ (.ref qY) vZ ++ (cB g qY vY)) s.heap.size = A at hD hG ⊢
  have hA : ∀ q : Nat, s.heap.size ≤ q → A q := fun q h => by rw [← hAe]; exact Or.inr h
  clear hAe hD0
  have hS : va_S A s.heap s.heap [] := va_S.rf
  have hl := lv_entry ([.ref aZ]) (n := 1) (Nat.le_of_ble_eq_true rfl)
  rw [lg_entry_eq]
  generalize (lg_sl ([.ref aZ]) ++ List.replicate (1 - (lg_sl ([.ref aZ])).length) Slot.unset).toArray = ls at hl ⊢
  have hl : lv_has ls 1 [(0, .ref aZ)] := hl
  have htu : ∀ w ∈ UW, w.before _ s = true := fun w h => hts w (List.mem_cons_of_mem _ h)
  have k_5_148 := htu _ mw_5_148
  unfold f_J0_length_8abf5_d at hf
  obtain ⟨H, hH⟩ : ∃ z, z = s.heap := ⟨_, rfl⟩
  obtain ⟨locs, hlo⟩ : ∃ z : List Loc, z = [] := ⟨_, rfl⟩
  have hS : va_S A s.heap H locs := by rw [hH, hlo]; exact hS
  rw [← hH] at hP
  have hW : W p l e (headSpec wsJ0_length_8abf5 rmJ0_length_8abf5_d).room s m ([.ref aZ] : List Value).toArray below meth c H locs 0 0 (MQ below (qG g A (fun (u : Nat → Nat) => cZ g aZ (.ref qY) vZ ++ (cB g qY vY)) (fun (u : Nat → Nat) => (fun _ => some (.int r)) u)) ([.ref aZ] : List Value).toArray s 0 0 A) (F0 m 0 ls []) := by
    refine lv_aload_n hx hb dJ0_length_8abf5_0 rfl (lv_at hl 0 rfl) ?_
    refine va_get (D := g.1) (ci := 9) (fs := fcU (.ref qY) vZ) (v := .ref qY) (C := RJ0) (T := TJ0) (N := 4) hx hb htu hinJ0 hown hK hP 0 rfl rfl 0 (by decide) k_5_148 (fun x9 h9 => h9) rfl dJ0_length_8abf5_1 ?_
    refine va_alen (D := g.1) (v := (nI (vY.1 9).toNatClampNeg)) (ty := .byte) hx hb hK hP 1 4 rfl rfl rfl dJ0_length_8abf5_4 ?_
    refine lv_aload_n hx hb dJ0_length_8abf5_5 rfl (lv_at hl 0 rfl) ?_
    obtain ⟨r1, hg2, hf⟩ := o1_at hf
    have hpm : (cZ g aZ (.ref qY) vZ ++ (cB g qY vY)).Perm ((cZ g aZ (.ref qY) vZ ++ (cB g qY vY)) ++ (([] : va_W))) := (kpc (fun P => by first | omega | (simp only [List.countP_append, List.countP_nil] <;> omega)))
    refine k_G (wc := cZ g aZ (.ref qY) vZ ++ (cB g qY vY)) (wr := ([] : va_W)) (w1 := fun (u : Nat → Nat) => cZ g aZ (.ref qY) vZ ++ (cB g qY vY)) (rv := fun (u : Nat → Nat) => (fun _ => some (.int r1)) u) hP hD hS hA hpm (va_runV (As := []) (rest := [.int (nI (vY.1 9).toNatClampNeg)]) ⟨hx, hb, hml, hown, htu⟩ ((c_J0_coder_7d493_d l g aZ vZ qY vY r1 hg2) H.size) (cwV 0 htu (gU_V mw_3_157 hcJ0_coder_7d493) rfl rfl rfl hdJ0_coder_7d493 ⟨Nat.le_of_ble_eq_true rfl, Nat.le_of_ble_eq_true rfl⟩) (k_preV (C := RJ0) hK hP hD hS hA hG hpm (va_recv (ci := 9) (q0 := 0) (fs := fcU (.ref qY) vZ) (q := (RJ0, TJ0, 4)) hK hP rfl rfl)) rfl rfl hl.1 rfl (lv_room (Nat.le_of_ble_eq_true rfl)) dJ0_length_8abf5_6 ⟨Nat.zero_le _, Nat.zero_le _⟩) hQ_G (fun u4 H locs hP hD hS => ?_)
    refine W.eq (g2 := F0 m 9 ls [.int r1, .int (nI (vY.1 9).toNatClampNeg)]) rfl ?_
    have hP : va_P g.1 vwCl ((cZ g aZ (.ref qY) vZ ++ (cB g qY vY)) ++ (([] : va_W))) H := hP
    have hD : va_D A ((cZ g aZ (.ref qY) vZ ++ (cB g qY vY)) ++ (([] : va_W))) := hD
    have hP : va_P g.1 vwCl (cZ g aZ (.ref qY) vZ ++ (cB g qY vY)) H := hP.perm (kpc (fun P => by first | omega | (simp only [List.countP_append, List.countP_nil] <;> omega)))
    have hD : va_D A (cZ g aZ (.ref qY) vZ ++ (cB g qY vY)) := hD.perm (kpc (fun P => by first | omega | (simp only [List.countP_append, List.countP_nil] <;> omega)))
    refine lv_ishr hx hb dJ0_length_8abf5_9 ?_
    have e5 := Option.some.inj hf
    exact k_Giret (w1 := fun (u : Nat → Nat) => cZ g aZ (.ref qY) vZ ++ (cB g qY vY)) (rv := fun (u : Nat → Nat) => (fun _ => some (.int r)) u) (u := (fun i => 0)) hx hb hr hlocks hK hP hD hS rfl e5 dJ0_length_8abf5_10
  rw [hH, hlo] at hW
  exact hW
def f_J1_charAt_3b067_d (vY : Vs) (x1 : Int32) : Option (Int32) :=
  o1 (f_J0_checkIndex_df160 x1 (nI (vY.1 9).toNatClampNeg)) (fun _ => gd (inb x1 (vY.1 9).toNatClampNeg) (gd (isC (i2c ((vY.2.1 0 (x1).toNatClampNeg) &&& (255 : Int32)))) (some ((i2c ((vY.2.1 0 (x1).toNatClampNeg) &&& (255 : Int32)))))))
abbrev rmJ1_charAt_3b067_d : Room := { frames := 2, cells := 0, slots := 0, locals := 43 }
set_option maxHeartbeats 4000000 in
set_option maxRecDepth 100000 in
theorem c_J1_charAt_3b067_d (l : Launch) (g : Gx) (qY : Nat) (vY : Vs) (x1 : Int32) (r : Int32) (hf : f_J1_charAt_3b067_d vY x1 = some r) : CtG l yJ1_charAt_3b067 wsJ1_charAt_3b067 rmJ1_charAt_3b067_d g [.ref qY, .int x1] (cB g qY vY) (fun (u : Nat → Nat) => cB g qY vY) (fun (u : Nat → Nat) => (fun _ => some (.int r)) u) 0 0 := by
  unfold CtG
  intro sz
  refine Met.ofW (cc := cJ1_charAt_3b067) (maxL := 2) (ret := (some .char)) (by decide) rfl ?_
  intro p e s m args below meth c s₁ B hml hv
  obtain ⟨rfl, hsz, hP, hK, hD0, hG⟩ := hv
  have hx := B.exec
  have hb := B.bytes
  have hr := B.returns
  have hts := atoms_spec (ws := wsJ1_charAt_3b067) B.pre
  have hown : s.vm.findClass RJ1 = some m.cls := findClass_of_methodNamed B.named
  have hlocks := B.notSynchronized
  subst hsz
  have hD := hD0.self (sz := s.heap.size)
  generalize hAe : va_A (cB g qY vY) s.heap.size = A at hD hG ⊢
  have hA : ∀ q : Nat, s.heap.size ≤ q → A q := fun q h => by rw [← hAe]; exact Or.inr h
  clear hAe hD0
  have hS : va_S A s.heap s.heap [] := va_S.rf
  have hl := lv_entry ([.ref qY, .int x1]) (n := 2) (Nat.le_of_ble_eq_true rfl)
  rw [lg_entry_eq]
  generalize (lg_sl ([.ref qY, .int x1]) ++ List.replicate (2 - (lg_sl ([.ref qY, .int x1])).length) Slot.unset).toArray = ls at hl ⊢
  have hl : lv_has ls 2 [(0, .ref qY), (1, .int x1)] := hl
  have htu : ∀ w ∈ UW, w.before _ s = true := fun w h => hts w (List.mem_cons_of_mem _ h)
  unfold f_J1_charAt_3b067_d at hf
  obtain ⟨H, hH⟩ : ∃ z, z = s.heap := ⟨_, rfl⟩
  obtain ⟨locs, hlo⟩ : ∃ z : List Loc, z = [] := ⟨_, rfl⟩
  have hS : va_S A s.heap H locs := by rw [hH, hlo]; exact hS
  rw [← hH] at hP
  have hW : W p l e (headSpec wsJ1_charAt_3b067 rmJ1_charAt_3b067_d).room s m ([.ref qY, .int x1] : List Value).toArray below meth c H locs 0 0 (MQ below (qG g A (fun (u : Nat → Nat) => cB g qY vY) (fun (u : Nat → Nat) => (fun _ => some (.int r)) u)) ([.ref qY, .int x1] : List Value).toArray s 0 0 A) (F0 m 0 ls []) := by
    refine lv_iload_n hx hb dJ1_charAt_3b067_0 rfl (lv_at hl 1 rfl) ?_
    refine lv_aload_n hx hb dJ1_charAt_3b067_1 rfl (lv_at hl 0 rfl) ?_
    refine va_alen (D := g.1) (v := (nI (vY.1 9).toNatClampNeg)) (ty := .byte) hx hb hK hP 0 4 rfl rfl rfl dJ1_charAt_3b067_2 ?_
    obtain ⟨_, hg1, hf⟩ := o1_at hf
    have hpm : (cB g qY vY).Perm ((([] : va_W)) ++ (cB g qY vY)) := (kpc (fun P => by first | omega | (simp only [List.countP_append, List.countP_nil] <;> omega)))
    refine k_G (wc := ([] : va_W)) (wr := cB g qY vY) (w1 := fun (u : Nat → Nat) => ([] : va_W)) (rv := fun (u : Nat → Nat) => (fun _ => none) u) hP hD hS hA hpm (va_runS (As := [.int x1, .int (nI (vY.1 9).toNatClampNeg)]) (rest := []) ⟨hx, hb, hml, hown, htu⟩ ((c_J0_checkIndex_df160 l g x1 (nI (vY.1 9).toNatClampNeg) hg1) H.size) (va_cwS 2 htu (gU_S mw_3_174 hcJ0_checkIndex_df160) rfl rfl rfl hdJ0_checkIndex_df160 ⟨Nat.le_of_ble_eq_true rfl, Nat.le_of_ble_eq_true rfl⟩) (k_preS hK hP hD hS hA hG hpm) rfl rfl hl.1 rfl (lv_room (Nat.le_of_ble_eq_true rfl)) dJ1_charAt_3b067_3 ⟨Nat.zero_le _, Nat.zero_le _⟩) hQ_V (fun u3 H locs hP hD hS => ?_)
    refine W.eq (g2 := F0 m 6 ls []) rfl ?_
    have hP : va_P g.1 vwCl ((([] : va_W)) ++ (cB g qY vY)) H := hP
    have hD : va_D A ((([] : va_W)) ++ (cB g qY vY)) := hD
    have hP : va_P g.1 vwCl (cB g qY vY) H := hP.perm (kpc (fun P => by first | omega | (simp only [List.countP_append, List.countP_nil] <;> omega)))
    have hD : va_D A (cB g qY vY) := hD.perm (kpc (fun P => by first | omega | (simp only [List.countP_append, List.countP_nil] <;> omega)))
    refine lv_aload_n hx hb dJ1_charAt_3b067_6 rfl (lv_at hl 0 rfl) ?_
    refine lv_iload_n hx hb dJ1_charAt_3b067_7 rfl (lv_at hl 1 rfl) ?_
    obtain ⟨h4, hf⟩ := gd_in hf
    refine va_bald (D := g.1) (f := (vY.2.1 0)) hx hb hK hP 0 4 rfl rfl h4 dJ1_charAt_3b067_8 ?_
    refine lv_sipush (v := (255 : Int32)) hx hb dJ1_charAt_3b067_9 (by decide) ?_
    refine lv_iand hx hb dJ1_charAt_3b067_12 ?_
    refine lv_i2c (v := (i2c ((vY.2.1 0 (x1).toNatClampNeg) &&& (255 : Int32)))) hx hb dJ1_charAt_3b067_13 rfl ?_
    obtain ⟨h5, hf⟩ := gd_at hf
    have e6 := Option.some.inj hf
    exact k_Gnret (w1 := fun (u : Nat → Nat) => cB g qY vY) (rv := fun (u : Nat → Nat) => (fun _ => some (.int r)) u) (u := (fun i => 0)) hx hb hr hlocks hK hP hD hS rfl e6 (congrArg Value.int (of_decide_eq_true h5)) dJ1_charAt_3b067_14
  rw [hH, hlo] at hW
  exact hW
def f_J0_charAt_5068e_d (vZ : Vs) (vY : Vs) (x1 : Int32) : Option (Int32) :=
  o1 (f_J0_isLatin1_aae02_d vZ vY) (fun (r1 : Int32) => if r1 = 0 then none else o1 (f_J1_charAt_3b067_d vY x1) (fun (r6 : Int32) => gd (isC r6) (some (r6))))
abbrev rmJ0_charAt_5068e_d : Room := { frames := 3, cells := 0, slots := 0, locals := 64 }
set_option maxHeartbeats 4000000 in
set_option maxRecDepth 100000 in
theorem c_J0_charAt_5068e_d (l : Launch) (g : Gx) (aZ : Nat) (vZ : Vs) (qY : Nat) (vY : Vs) (x1 : Int32) (r : Int32) (hf : f_J0_charAt_5068e_d vZ vY x1 = some r) : CtG l yJ0_charAt_5068e wsJ0_charAt_5068e rmJ0_charAt_5068e_d g [.ref aZ, .int x1] (cZ g aZ (.ref qY) vZ ++ (cB g qY vY)) (fun (u : Nat → Nat) => cZ g aZ (.ref qY) vZ ++ (cB g qY vY)) (fun (u : Nat → Nat) => (fun _ => some (.int r)) u) 0 0 := by
  unfold CtG
  intro sz
  refine Met.ofW (cc := cJ0_charAt_5068e) (maxL := 2) (ret := (some .char)) (by decide) rfl ?_
  intro p e s m args below meth c s₁ B hml hv
  obtain ⟨rfl, hsz, hP, hK, hD0, hG⟩ := hv
  have hx := B.exec
  have hb := B.bytes
  have hr := B.returns
  have hts := atoms_spec (ws := wsJ0_charAt_5068e) B.pre
  have hown : s.vm.findClass RJ0 = some m.cls := findClass_of_methodNamed B.named
  have hlocks := B.notSynchronized
  subst hsz
  have hD := hD0.self (sz := s.heap.size)
  generalize hAe : va_A (cZ g aZ (.ref qY) vZ ++ (cB g qY vY)) s.heap.size = A at hD hG ⊢
  have hA : ∀ q : Nat, s.heap.size ≤ q → A q := fun q h => by rw [← hAe]; exact Or.inr h
  clear hAe hD0
  have hS : va_S A s.heap s.heap [] := va_S.rf
  have hl := lv_entry ([.ref aZ, .int x1]) (n := 2) (Nat.le_of_ble_eq_true rfl)
  rw [lg_entry_eq]
  generalize (lg_sl ([.ref aZ, .int x1]) ++ List.replicate (2 - (lg_sl ([.ref aZ, .int x1])).length) Slot.unset).toArray = ls at hl ⊢
  have hl : lv_has ls 2 [(0, .ref aZ), (1, .int x1)] := hl
  have htu : ∀ w ∈ UW, w.before _ s = true := fun w h => hts w (List.mem_cons_of_mem _ h)
  have k_5_148 := htu _ mw_5_148
  unfold f_J0_charAt_5068e_d at hf
  obtain ⟨H, hH⟩ : ∃ z, z = s.heap := ⟨_, rfl⟩
  obtain ⟨locs, hlo⟩ : ∃ z : List Loc, z = [] := ⟨_, rfl⟩
  have hS : va_S A s.heap H locs := by rw [hH, hlo]; exact hS
  rw [← hH] at hP
  have hW : W p l e (headSpec wsJ0_charAt_5068e rmJ0_charAt_5068e_d).room s m ([.ref aZ, .int x1] : List Value).toArray below meth c H locs 0 0 (MQ below (qG g A (fun (u : Nat → Nat) => cZ g aZ (.ref qY) vZ ++ (cB g qY vY)) (fun (u : Nat → Nat) => (fun _ => some (.int r)) u)) ([.ref aZ, .int x1] : List Value).toArray s 0 0 A) (F0 m 0 ls []) := by
    refine lv_aload_n hx hb dJ0_charAt_5068e_0 rfl (lv_at hl 0 rfl) ?_
    obtain ⟨r1, hg2, hf⟩ := o1_at hf
    have hpm : (cZ g aZ (.ref qY) vZ ++ (cB g qY vY)).Perm ((cZ g aZ (.ref qY) vZ ++ (cB g qY vY)) ++ (([] : va_W))) := (kpc (fun P => by first | omega | (simp only [List.countP_append, List.countP_nil] <;> omega)))
    refine k_G (wc := cZ g aZ (.ref qY) vZ ++ (cB g qY vY)) (wr := ([] : va_W)) (w1 := fun (u : Nat → Nat) => cZ g aZ (.ref qY) vZ ++ (cB g qY vY)) (rv := fun (u : Nat → Nat) => (fun _ => some (.int r1)) u) hP hD hS hA hpm (va_runV (As := []) (rest := []) ⟨hx, hb, hml, hown, htu⟩ ((c_J0_isLatin1_aae02_d l g aZ vZ qY vY r1 hg2) H.size) (cwV 0 htu (gU_V mw_3_167 hcJ0_isLatin1_aae02) rfl rfl rfl hdJ0_isLatin1_aae02 ⟨Nat.le_of_ble_eq_true rfl, Nat.le_of_ble_eq_true rfl⟩) (k_preV (C := RJ0) hK hP hD hS hA hG hpm (va_recv (ci := 9) (q0 := 0) (fs := fcU (.ref qY) vZ) (q := (RJ0, TJ0, 4)) hK hP rfl rfl)) rfl rfl hl.1 rfl (lv_room (Nat.le_of_ble_eq_true rfl)) dJ0_charAt_5068e_1 ⟨Nat.zero_le _, Nat.zero_le _⟩) hQ_G (fun u4 H locs hP hD hS => ?_)
    refine W.eq (g2 := F0 m 4 ls [.int r1]) rfl ?_
    have hP : va_P g.1 vwCl ((cZ g aZ (.ref qY) vZ ++ (cB g qY vY)) ++ (([] : va_W))) H := hP
    have hD : va_D A ((cZ g aZ (.ref qY) vZ ++ (cB g qY vY)) ++ (([] : va_W))) := hD
    have hP : va_P g.1 vwCl (cZ g aZ (.ref qY) vZ ++ (cB g qY vY)) H := hP.perm (kpc (fun P => by first | omega | (simp only [List.countP_append, List.countP_nil] <;> omega)))
    have hD : va_D A (cZ g aZ (.ref qY) vZ ++ (cB g qY vY)) := hD.perm (kpc (fun P => by first | omega | (simp only [List.countP_append, List.countP_nil] <;> omega)))
    refine lv_if_eq (tgt := 16) hx hb dJ0_charAt_5068e_4 (by decide) (fun c5 => ?_) (fun c5 => ?_)
    · have hf := it_t hf c5
      cases hf
    · have hf := it_f hf c5
      refine lv_aload_n hx hb dJ0_charAt_5068e_7 rfl (lv_at hl 0 rfl) ?_
      refine va_get (D := g.1) (ci := 9) (fs := fcU (.ref qY) vZ) (v := .ref qY) (C := RJ0) (T := TJ0) (N := 4) hx hb htu hinJ0 hown hK hP 0 rfl rfl 0 (by decide) k_5_148 (fun x9 h9 => h9) rfl dJ0_charAt_5068e_8 ?_
      refine lv_iload_n hx hb dJ0_charAt_5068e_11 rfl (lv_at hl 1 rfl) ?_
      obtain ⟨r6, hg7, hf⟩ := o1_at hf
      have hpm : (cZ g aZ (.ref qY) vZ ++ (cB g qY vY)).Perm ((cB g qY vY) ++ (cZ g aZ (.ref qY) vZ)) := (kpc (fun P => by first | omega | (simp only [List.countP_append, List.countP_nil] <;> omega)))
      refine k_G (wc := cB g qY vY) (wr := cZ g aZ (.ref qY) vZ) (w1 := fun (u : Nat → Nat) => cB g qY vY) (rv := fun (u : Nat → Nat) => (fun _ => some (.int r6)) u) hP hD hS hA hpm (va_runS (As := [.ref qY, .int x1]) (rest := []) ⟨hx, hb, hml, hown, htu⟩ ((c_J1_charAt_3b067_d l g qY vY x1 r6 hg7) H.size) (va_cwS 2 htu (gU_S mw_3_171 hcJ1_charAt_3b067) rfl rfl rfl hdJ1_charAt_3b067 ⟨Nat.le_of_ble_eq_true rfl, Nat.le_of_ble_eq_true rfl⟩) (k_preS hK hP hD hS hA hG hpm) rfl rfl hl.1 rfl (lv_room (Nat.le_of_ble_eq_true rfl)) dJ0_charAt_5068e_12 ⟨Nat.zero_le _, Nat.zero_le _⟩) hQ_G (fun u9 H locs hP hD hS => ?_)
      refine W.eq (g2 := F0 m 15 ls [.int r6]) rfl ?_
      have hP : va_P g.1 vwCl ((cB g qY vY) ++ (cZ g aZ (.ref qY) vZ)) H := hP
      have hD : va_D A ((cB g qY vY) ++ (cZ g aZ (.ref qY) vZ)) := hD
      have hP : va_P g.1 vwCl (cB g qY vY ++ (cZ g aZ (.ref qY) vZ)) H := hP.perm (kpc (fun P => by first | omega | (simp only [List.countP_append, List.countP_nil] <;> omega)))
      have hD : va_D A (cB g qY vY ++ (cZ g aZ (.ref qY) vZ)) := hD.perm (kpc (fun P => by first | omega | (simp only [List.countP_append, List.countP_nil] <;> omega)))
      obtain ⟨h10, hf⟩ := gd_at hf
      have hP : va_P g.1 vwCl (cZ g aZ (.ref qY) vZ ++ (cB g qY vY)) H := k_dropP hP (w3 := ([] : va_W)) (kpc (fun P => by first | omega | (simp only [List.countP_append, List.countP_nil] <;> omega)))
      have hD : va_D A (cZ g aZ (.ref qY) vZ ++ (cB g qY vY)) := k_dropD hD (w3 := ([] : va_W)) (kpc (fun P => by first | omega | (simp only [List.countP_append, List.countP_nil] <;> omega)))
      have e11 := Option.some.inj hf
      exact k_Gnret (w1 := fun (u : Nat → Nat) => cZ g aZ (.ref qY) vZ ++ (cB g qY vY)) (rv := fun (u : Nat → Nat) => (fun _ => some (.int r)) u) (u := (fun i => 0)) hx hb hr hlocks hK hP hD hS rfl e11 (congrArg Value.int (of_decide_eq_true h10)) dJ0_charAt_5068e_15
  rw [hH, hlo] at hW
  exact hW
def f_J6_stringSize_0f7a4_L16 (x0_1 : Int32) (x1_2 : Int32) (self7 : Int32 → Int32 → Option (Int32)) (x2_5 : Int32) (x3_6 : Int32) : Option (Int32) :=
  if (10 : Int32) ≤ x3_6 then some (((10 : Int32) + x1_2)) else if x0_1 ≤ x2_5 then self7 ((10 : Int32) * x2_5) (x3_6 + (1 : Int32)) else some ((x3_6 + x1_2))
def f_J6_stringSize_0f7a4 (x0 : Int32) : Option (Int32) :=
  jn (fun (x0_1 : Int32) (x1_2 : Int32) => lp (f_J6_stringSize_0f7a4_L16 x0_1 x1_2) (fun _ _ => none) FU (-10 : Int32) (1 : Int32)) (fun k3 => if x0 < 0 then k3 x0 (1 : Int32) else k3 (-x0) (0 : Int32))
abbrev wsJ6_stringSize_0f7a4 : List Cond := .code yJ6_stringSize_0f7a4 cJ6_stringSize_0f7a4 4 (some .int) :: UW
abbrev rmJ6_stringSize_0f7a4 : Room := { frames := 1, cells := 0, slots := 0, locals := 24 }
set_option maxHeartbeats 4000000 in
set_option maxRecDepth 100000 in
theorem c_J6_stringSize_0f7a4 (l : Launch) (g : Gx) (x0 : Int32) (r : Int32) (hf : f_J6_stringSize_0f7a4 x0 = some r) : CtG l yJ6_stringSize_0f7a4 wsJ6_stringSize_0f7a4 rmJ6_stringSize_0f7a4 g [.int x0] (([] : va_W)) (fun (u : Nat → Nat) => ([] : va_W)) (fun (u : Nat → Nat) => (fun _ => some (.int r)) u) 0 0 := by
  unfold CtG
  intro sz
  refine Met.ofW (cc := cJ6_stringSize_0f7a4) (maxL := 4) (ret := (some .int)) (by decide) rfl ?_
  intro p e s m args below meth c s₁ B hml hv
  obtain ⟨rfl, hsz, hP, hK, hD0, hG⟩ := hv
  have hx := B.exec
  have hb := B.bytes
  have hr := B.returns
  have hts := atoms_spec (ws := wsJ6_stringSize_0f7a4) B.pre
  have hown : s.vm.findClass RJ6 = some m.cls := findClass_of_methodNamed B.named
  have hlocks := B.notSynchronized
  subst hsz
  have hD := hD0.self (sz := s.heap.size)
  generalize hAe : va_A (([] : va_W)) s.heap.size = A at hD hG ⊢
  have hA : ∀ q : Nat, s.heap.size ≤ q → A q := fun q h => by rw [← hAe]; exact Or.inr h
  clear hAe hD0
  have hS : va_S A s.heap s.heap [] := va_S.rf
  have hl := lv_entry ([.int x0]) (n := 4) (Nat.le_of_ble_eq_true rfl)
  rw [lg_entry_eq]
  generalize (lg_sl ([.int x0]) ++ List.replicate (4 - (lg_sl ([.int x0])).length) Slot.unset).toArray = ls at hl ⊢
  have hl : lv_has ls 4 [(0, .int x0)] := hl
  have htu : ∀ w ∈ UW, w.before _ s = true := fun w h => hts w (List.mem_cons_of_mem _ h)
  unfold f_J6_stringSize_0f7a4 at hf
  obtain ⟨H, hH⟩ : ∃ z, z = s.heap := ⟨_, rfl⟩
  obtain ⟨locs, hlo⟩ : ∃ z : List Loc, z = [] := ⟨_, rfl⟩
  have hS : va_S A s.heap H locs := by rw [hH, hlo]; exact hS
  rw [← hH] at hP
  have hW : W p l e (headSpec wsJ6_stringSize_0f7a4 rmJ6_stringSize_0f7a4).room s m ([.int x0] : List Value).toArray below meth c H locs 0 0 (MQ below (qG g A (fun (u : Nat → Nat) => ([] : va_W)) (fun (u : Nat → Nat) => (fun _ => some (.int r)) u)) ([.int x0] : List Value).toArray s 0 0 A) (F0 m 0 ls []) := by
    refine lv_iconst (v := (1 : Int32)) hx hb dJ6_stringSize_0f7a4_0 (by decide) ?_
    refine lv_istore_n (lv' := [(1, .int (1 : Int32)), (0, .int x0)]) hx hb dJ6_stringSize_0f7a4_1 rfl hl (by decide) rfl (fun ls hl => ?_)
    refine lv_iload_n hx hb dJ6_stringSize_0f7a4_2 rfl (lv_at hl 1 rfl) ?_
    obtain ⟨k3, hk14, hf⟩ := jn_at hf
    have hJ4 : ∀ (x0_1 : Int32) (x1_2 : Int32), k3 x0_1 x1_2 = some r → ∀ (H : Heap) (locs : List Loc), va_P g.1 vwCl (([] : va_W)) H → va_D A (([] : va_W)) → va_S A s.heap H locs → ∀ ls : Array Slot, lv_has ls 4 [(0, .int x0_1), (1, .int x1_2)] → W p l e (headSpec wsJ6_stringSize_0f7a4 rmJ6_stringSize_0f7a4).room s m ([.int x0] : List Value).toArray below meth c H locs 0 0 (MQ below (qG g A (fun (u : Nat → Nat) => ([] : va_W)) (fun (u : Nat → Nat) => (fun _ => some (.int r)) u)) ([.int x0] : List Value).toArray s 0 0 A) (F0 m 11 ls []) := by
      intro x0_1 x1_2 hf H locs hP hD hS ls hl
      rw [hk14] at hf
      dsimp only at hf
      clear hk14
      refine lv_bipush (v := (-10 : Int32)) hx hb dJ6_stringSize_0f7a4_11 (by decide) ?_
      refine lv_istore_n (lv' := [(2, .int (-10 : Int32)), (0, .int x0_1), (1, .int x1_2)]) hx hb dJ6_stringSize_0f7a4_13 rfl hl (by decide) rfl (fun ls hl => ?_)
      refine lv_iconst (v := (1 : Int32)) hx hb dJ6_stringSize_0f7a4_14 (by decide) ?_
      refine lv_istore_n (lv' := [(3, .int (1 : Int32)), (2, .int (-10 : Int32)), (0, .int x0_1), (1, .int x1_2)]) hx hb dJ6_stringSize_0f7a4_15 rfl hl (by decide) rfl (fun ls hl => ?_)
      have hL8 : ∀ (x2_5 : Int32) (x3_6 : Int32), lp (f_J6_stringSize_0f7a4_L16 x0_1 x1_2) (fun _ _ => none) FU x2_5 x3_6 = some r → ∀ (H : Heap) (locs : List Loc), va_P g.1 vwCl (([] : va_W)) H → va_D A (([] : va_W)) → va_S A s.heap H locs → ∀ ls : Array Slot, lv_has ls 4 [(0, .int x0_1), (1, .int x1_2), (2, .int x2_5), (3, .int x3_6)] → W p l e (headSpec wsJ6_stringSize_0f7a4 rmJ6_stringSize_0f7a4).room s m ([.int x0] : List Value).toArray below meth c H locs 0 0 (MQ below (qG g A (fun (u : Nat → Nat) => ([] : va_W)) (fun (u : Nat → Nat) => (fun _ => some (.int r)) u)) ([.int x0] : List Value).toArray s 0 0 A) (F0 m 16 ls []) := by
        refine lp_ind (T := Int32 → Int32 → Option (Int32)) (fun self7 => ∀ (x2_5 : Int32) (x3_6 : Int32), self7 x2_5 x3_6 = some r → ∀ (H : Heap) (locs : List Loc), va_P g.1 vwCl (([] : va_W)) H → va_D A (([] : va_W)) → va_S A s.heap H locs → ∀ ls : Array Slot, lv_has ls 4 [(0, .int x0_1), (1, .int x1_2), (2, .int x2_5), (3, .int x3_6)] → W p l e (headSpec wsJ6_stringSize_0f7a4 rmJ6_stringSize_0f7a4).room s m ([.int x0] : List Value).toArray below meth c H locs 0 0 (MQ below (qG g A (fun (u : Nat → Nat) => ([] : va_W)) (fun (u : Nat → Nat) => (fun _ => some (.int r)) u)) ([.int x0] : List Value).toArray s 0 0 A) (F0 m 16 ls [])) ?_ ?_ FU
        · intro x2_5 x3_6 hf; cases hf
        · intro self7 ih9 x2_5 x3_6 hf H locs hP hD hS ls hl
          unfold f_J6_stringSize_0f7a4_L16 at hf
          refine lv_iload_n hx hb dJ6_stringSize_0f7a4_16 rfl (lv_at hl 3 rfl) ?_
          refine lv_bipush (v := (10 : Int32)) hx hb dJ6_stringSize_0f7a4_17 (by decide) ?_
          refine lv_icmp_ge (tgt := 42) hx hb dJ6_stringSize_0f7a4_19 (by decide) (fun c10 => ?_) (fun c10 => ?_)
          · have hf := it_t hf c10
            refine lv_bipush (v := (10 : Int32)) hx hb dJ6_stringSize_0f7a4_42 (by decide) ?_
            refine lv_iload_n hx hb dJ6_stringSize_0f7a4_44 rfl (lv_at hl 1 rfl) ?_
            refine lv_iadd hx hb dJ6_stringSize_0f7a4_45 ?_
            have e11 := Option.some.inj hf
            exact k_Giret (w1 := fun (u : Nat → Nat) => ([] : va_W)) (rv := fun (u : Nat → Nat) => (fun _ => some (.int r)) u) (u := (fun i => 0)) hx hb hr hlocks hK hP hD hS rfl e11 dJ6_stringSize_0f7a4_46
          · have hf := it_f hf c10
            refine lv_iload_n hx hb dJ6_stringSize_0f7a4_22 rfl (lv_at hl 0 rfl) ?_
            refine lv_iload_n hx hb dJ6_stringSize_0f7a4_23 rfl (lv_at hl 2 rfl) ?_
            refine lv_icmp_le (tgt := 31) hx hb dJ6_stringSize_0f7a4_24 (by decide) (fun c12 => ?_) (fun c12 => ?_)
            · have hf := it_t hf c12
              refine lv_bipush (v := (10 : Int32)) hx hb dJ6_stringSize_0f7a4_31 (by decide) ?_
              refine lv_iload_n hx hb dJ6_stringSize_0f7a4_33 rfl (lv_at hl 2 rfl) ?_
              refine lv_imul hx hb dJ6_stringSize_0f7a4_34 ?_
              refine lv_istore_n (lv' := [(2, .int ((10 : Int32) * x2_5)), (0, .int x0_1), (1, .int x1_2), (3, .int x3_6)]) hx hb dJ6_stringSize_0f7a4_35 rfl hl (by decide) rfl (fun ls hl => ?_)
              refine lv_iinc (v := (x3_6 + (1 : Int32))) (lv' := [(3, .int (x3_6 + (1 : Int32))), (2, .int ((10 : Int32) * x2_5)), (0, .int x0_1), (1, .int x1_2)]) hx hb dJ6_stringSize_0f7a4_36 hl (k := 3) rfl rfl (by decide) rfl (fun ls hl => ?_)
              refine lv_goto (tgt := 16) hx hb dJ6_stringSize_0f7a4_39 (by decide) ?_
              exact ih9 ((10 : Int32) * x2_5) (x3_6 + (1 : Int32)) hf H locs hP hD hS _ (lv_sub hl [2, 3, 1, 0] rfl)
            · have hf := it_f hf c12
              refine lv_iload_n hx hb dJ6_stringSize_0f7a4_27 rfl (lv_at hl 3 rfl) ?_
              refine lv_iload_n hx hb dJ6_stringSize_0f7a4_28 rfl (lv_at hl 1 rfl) ?_
              refine lv_iadd hx hb dJ6_stringSize_0f7a4_29 ?_
              have e13 := Option.some.inj hf
              exact k_Giret (w1 := fun (u : Nat → Nat) => ([] : va_W)) (rv := fun (u : Nat → Nat) => (fun _ => some (.int r)) u) (u := (fun i => 0)) hx hb hr hlocks hK hP hD hS rfl e13 dJ6_stringSize_0f7a4_30
      exact hL8 (-10 : Int32) (1 : Int32) hf H locs hP hD hS _ (lv_sub hl [2, 3, 1, 0] rfl)
    refine lv_if_lt (tgt := 11) hx hb dJ6_stringSize_0f7a4_3 (by decide) (fun c15 => ?_) (fun c15 => ?_)
    · have hf := it_t hf c15
      exact hJ4 x0 (1 : Int32) hf H locs hP hD hS _ (lv_sub hl [1, 0] rfl)
    · have hf := it_f hf c15
      refine lv_iconst (v := (0 : Int32)) hx hb dJ6_stringSize_0f7a4_6 (by decide) ?_
      refine lv_istore_n (lv' := [(1, .int (0 : Int32)), (0, .int x0)]) hx hb dJ6_stringSize_0f7a4_7 rfl hl (by decide) rfl (fun ls hl => ?_)
      refine lv_iload_n hx hb dJ6_stringSize_0f7a4_8 rfl (lv_at hl 1 rfl) ?_
      refine lv_ineg hx hb dJ6_stringSize_0f7a4_9 ?_
      refine lv_istore_n (lv' := [(0, .int (-x0)), (1, .int (0 : Int32))]) hx hb dJ6_stringSize_0f7a4_10 rfl hl (by decide) rfl (fun ls hl => ?_)
      exact hJ4 (-x0) (0 : Int32) hf H locs hP hD hS _ (lv_sub hl [0, 1] rfl)
  rw [hH, hlo] at hW
  exact hW
def f_J6_getChars_ba4f3_L22 (vV : Vs) (t1 : Int32) (self6 : Int32 → Int32 → Option (Int32 × Vs)) (x0_4 : Int32) (x5_5 : Int32) : Option (Int32 × Vs) :=
  if (-100 : Int32) < x0_4 then gd (inb (-x0_4) 100) (gd (inb (x5_5 + (-1 : Int32)) (vV.1 9).toNatClampNeg) (bn (sI vV 0 ((x5_5 + (-1 : Int32))).toNatClampNeg (vp_nar .byte (digI ((-x0_4)).toNatClampNeg))) (fun (vV_12 : Vs) => jn (fun (x5_13 : Int32) => jn (fun (x5_16 : Int32) => some (x5_16, vV_12)) (fun k17 => if t1 = 0 then k17 x5_13 else none)) (fun k14 => if (-9 : Int32) ≤ x0_4 then k14 (x5_5 + (-1 : Int32)) else none)))) else none
def f_J6_getChars_ba4f3 (vV : Vs) (x0 : Int32) (x1 : Int32) : Option (Int32 × Vs) :=
  jn (fun (t1 : Int32) => if t1 = 0 then lp (f_J6_getChars_ba4f3_L22 vV t1) (fun _ _ => none) FU (-x0) x1 else lp (f_J6_getChars_ba4f3_L22 vV t1) (fun _ _ => none) FU x0 x1) (fun k2 => if 0 ≤ x0 then k2 (0 : Int32) else k2 (1 : Int32))
abbrev wsJ6_getChars_ba4f3 : List Cond := .code yJ6_getChars_ba4f3 cJ6_getChars_ba4f3 7 (some .int) :: UW
abbrev rmJ6_getChars_ba4f3 : Room := { frames := 1, cells := 0, slots := 0, locals := 24 }
set_option maxHeartbeats 4000000 in
set_option maxRecDepth 100000 in
theorem c_J6_getChars_ba4f3 (l : Launch) (g : Gx) (qV : Nat) (vV : Vs) (x0 : Int32) (x1 : Int32) (r : Int32) (vV1 : Vs) (hf : f_J6_getChars_ba4f3 vV x0 x1 = some (r, vV1)) : CtG l yJ6_getChars_ba4f3 wsJ6_getChars_ba4f3 rmJ6_getChars_ba4f3 g [.int x0, .int x1, .ref qV] (cB g qV vV) (fun (u : Nat → Nat) => cB g qV vV1) (fun (u : Nat → Nat) => (fun _ => some (.int r)) u) 0 0 := by
  unfold CtG
  intro sz
  refine Met.ofW (cc := cJ6_getChars_ba4f3) (maxL := 7) (ret := (some .int)) (by decide) rfl ?_
  intro p e s m args below meth c s₁ B hml hv
  obtain ⟨rfl, hsz, hP, hK, hD0, hG⟩ := hv
  have hx := B.exec
  have hb := B.bytes
  have hr := B.returns
  have hts := atoms_spec (ws := wsJ6_getChars_ba4f3) B.pre
  have hown : s.vm.findClass RJ6 = some m.cls := findClass_of_methodNamed B.named
  have hlocks := B.notSynchronized
  subst hsz
  have hD := hD0.self (sz := s.heap.size)
  generalize hAe : va_A (cB g qV vV) s.heap.size = A at hD hG ⊢
  have hA : ∀ q : Nat, s.heap.size ≤ q → A q := fun q h => by rw [← hAe]; exact Or.inr h
  clear hAe hD0
  have hS : va_S A s.heap s.heap [] := va_S.rf
  have hl := lv_entry ([.int x0, .int x1, .ref qV]) (n := 7) (Nat.le_of_ble_eq_true rfl)
  rw [lg_entry_eq]
  generalize (lg_sl ([.int x0, .int x1, .ref qV]) ++ List.replicate (7 - (lg_sl ([.int x0, .int x1, .ref qV])).length) Slot.unset).toArray = ls at hl ⊢
  have hl : lv_has ls 7 [(0, .int x0), (1, .int x1), (2, .ref qV)] := hl
  have htu : ∀ w ∈ UW, w.before _ s = true := fun w h => hts w (List.mem_cons_of_mem _ h)
  have k_5_90 := htu _ mw_5_90
  unfold f_J6_getChars_ba4f3 at hf
  obtain ⟨H, hH⟩ : ∃ z, z = s.heap := ⟨_, rfl⟩
  obtain ⟨locs, hlo⟩ : ∃ z : List Loc, z = [] := ⟨_, rfl⟩
  have hS : va_S A s.heap H locs := by rw [hH, hlo]; exact hS
  rw [← hH] at hP
  have hW : W p l e (headSpec wsJ6_getChars_ba4f3 rmJ6_getChars_ba4f3).room s m ([.int x0, .int x1, .ref qV] : List Value).toArray below meth c H locs 0 0 (MQ below (qG g A (fun (u : Nat → Nat) => cB g qV vV1) (fun (u : Nat → Nat) => (fun _ => some (.int r)) u)) ([.int x0, .int x1, .ref qV] : List Value).toArray s 0 0 A) (F0 m 0 ls []) := by
    refine lv_iload_n hx hb dJ6_getChars_ba4f3_0 rfl (lv_at hl 1 rfl) ?_
    refine lv_istore (lv' := [(5, .int x1), (0, .int x0), (1, .int x1), (2, .ref qV)]) hx hb dJ6_getChars_ba4f3_1 hl (by decide) rfl (fun ls hl => ?_)
    refine lv_iload_n hx hb dJ6_getChars_ba4f3_3 rfl (lv_at hl 1 rfl) ?_
    obtain ⟨k2, hk26, hf⟩ := jn_at hf
    have hJ3 : ∀ (t1 : Int32), k2 t1 = some (r, vV1) → ∀ (H : Heap) (locs : List Loc), va_P g.1 vwCl (cB g qV vV) H → va_D A (cB g qV vV) → va_S A s.heap H locs → ∀ ls : Array Slot, lv_has ls 7 [(0, .int x0), (2, .ref qV), (5, .int x1)] → W p l e (headSpec wsJ6_getChars_ba4f3 rmJ6_getChars_ba4f3).room s m ([.int x0, .int x1, .ref qV] : List Value).toArray below meth c H locs 0 0 (MQ below (qG g A (fun (u : Nat → Nat) => cB g qV vV1) (fun (u : Nat → Nat) => (fun _ => some (.int r)) u)) ([.int x0, .int x1, .ref qV] : List Value).toArray s 0 0 A) (F0 m 12 ls [.int t1]) := by
      intro t1 hf H locs hP hD hS ls hl
      rw [hk26] at hf
      dsimp only at hf
      clear hk26
      refine lv_istore (lv' := [(6, .int t1), (0, .int x0), (2, .ref qV), (5, .int x1)]) hx hb dJ6_getChars_ba4f3_12 hl (by decide) rfl (fun ls hl => ?_)
      refine lv_iload hx hb dJ6_getChars_ba4f3_14 (lv_at hl 0 rfl) ?_
      have hL7 : ∀ (x0_4 : Int32) (x5_5 : Int32), lp (f_J6_getChars_ba4f3_L22 vV t1) (fun _ _ => none) FU x0_4 x5_5 = some (r, vV1) → ∀ (H : Heap) (locs : List Loc), va_P g.1 vwCl (cB g qV vV) H → va_D A (cB g qV vV) → va_S A s.heap H locs → ∀ ls : Array Slot, lv_has ls 7 [(0, .int x0_4), (2, .ref qV), (5, .int x5_5), (6, .int t1)] → W p l e (headSpec wsJ6_getChars_ba4f3 rmJ6_getChars_ba4f3).room s m ([.int x0, .int x1, .ref qV] : List Value).toArray below meth c H locs 0 0 (MQ below (qG g A (fun (u : Nat → Nat) => cB g qV vV1) (fun (u : Nat → Nat) => (fun _ => some (.int r)) u)) ([.int x0, .int x1, .ref qV] : List Value).toArray s 0 0 A) (F0 m 22 ls []) := by
        refine lp_ind (T := Int32 → Int32 → Option (Int32 × Vs)) (fun self6 => ∀ (x0_4 : Int32) (x5_5 : Int32), self6 x0_4 x5_5 = some (r, vV1) → ∀ (H : Heap) (locs : List Loc), va_P g.1 vwCl (cB g qV vV) H → va_D A (cB g qV vV) → va_S A s.heap H locs → ∀ ls : Array Slot, lv_has ls 7 [(0, .int x0_4), (2, .ref qV), (5, .int x5_5), (6, .int t1)] → W p l e (headSpec wsJ6_getChars_ba4f3 rmJ6_getChars_ba4f3).room s m ([.int x0, .int x1, .ref qV] : List Value).toArray below meth c H locs 0 0 (MQ below (qG g A (fun (u : Nat → Nat) => cB g qV vV1) (fun (u : Nat → Nat) => (fun _ => some (.int r)) u)) ([.int x0, .int x1, .ref qV] : List Value).toArray s 0 0 A) (F0 m 22 ls [])) ?_ ?_ FU
        · intro x0_4 x5_5 hf; cases hf
        · intro self6 ih8 x0_4 x5_5 hf H locs hP hD hS ls hl
          unfold f_J6_getChars_ba4f3_L22 at hf
          refine lv_iload_n hx hb dJ6_getChars_ba4f3_22 rfl (lv_at hl 0 rfl) ?_
          refine lv_bipush (v := (-100 : Int32)) hx hb dJ6_getChars_ba4f3_23 (by decide) ?_
          refine lv_icmp_gt (tgt := 72) hx hb dJ6_getChars_ba4f3_25 (by decide) (fun c9 => ?_) (fun c9 => ?_)
          · have hf := it_t hf c9
            refine lv_aload_n hx hb dJ6_getChars_ba4f3_72 rfl (lv_at hl 1 rfl) ?_
            refine lv_iinc (v := (x5_5 + (-1 : Int32))) (lv' := [(5, .int (x5_5 + (-1 : Int32))), (0, .int x0_4), (2, .ref qV), (6, .int t1)]) hx hb dJ6_getChars_ba4f3_73 hl (k := 2) rfl rfl (by decide) rfl (fun ls hl => ?_)
            refine lv_iload hx hb dJ6_getChars_ba4f3_76 (lv_at hl 0 rfl) ?_
            refine va_gets (v := .ref (adS g 4)) hx hb hG.2.1.2.1.1 hS hown k_5_90 (fun _ h9 => h9) dJ6_getChars_ba4f3_78 ?_
            refine lv_iload_n hx hb dJ6_getChars_ba4f3_81 rfl (lv_at hl 1 rfl) ?_
            refine lv_ineg hx hb dJ6_getChars_ba4f3_82 ?_
            obtain ⟨h10, hf⟩ := gd_in hf
            refine va_tb (v := .int (digI ((-x0_4)).toNatClampNeg)) hx hb hG.2.1.2.1.2 hS h10 rfl dJ6_getChars_ba4f3_83 ?_
            obtain ⟨h11, hf⟩ := gd_in hf
            refine va_bast (D := g.1) (f := (vV.2.1 0)) hx hb hK hP hD hS 0 4 rfl rfl h11 dJ6_getChars_ba4f3_84 (fun H locs hP hD hS => ?_)
            obtain ⟨vV_12, evV_12⟩ : ∃ z : Vs, z = sI vV 0 ((x5_5 + (-1 : Int32))).toNatClampNeg (vp_nar .byte (digI ((-x0_4)).toNatClampNeg)) := ⟨_, rfl⟩
            have hf := bn_at hf evV_12
            have hP : va_P g.1 vwCl (cB g qV vV_12) H := by rw [evV_12]; exact hP
            have hD : va_D A (cB g qV vV_12) := by rw [evV_12]; exact hD
            refine lv_iload_n hx hb dJ6_getChars_ba4f3_85 rfl (lv_at hl 1 rfl) ?_
            refine lv_bipush (v := (-9 : Int32)) hx hb dJ6_getChars_ba4f3_86 (by decide) ?_
            obtain ⟨k14, hk23, hf⟩ := jn_at hf
            have hJ15 : ∀ (x5_13 : Int32), k14 x5_13 = some (r, vV1) → ∀ (H : Heap) (locs : List Loc), va_P g.1 vwCl (cB g qV vV_12) H → va_D A (cB g qV vV_12) → va_S A s.heap H locs → ∀ ls : Array Slot, lv_has ls 7 [(2, .ref qV), (5, .int x5_13), (6, .int t1)] → W p l e (headSpec wsJ6_getChars_ba4f3 rmJ6_getChars_ba4f3).room s m ([.int x0, .int x1, .ref qV] : List Value).toArray below meth c H locs 0 0 (MQ below (qG g A (fun (u : Nat → Nat) => cB g qV vV1) (fun (u : Nat → Nat) => (fun _ => some (.int r)) u)) ([.int x0, .int x1, .ref qV] : List Value).toArray s 0 0 A) (F0 m 104 ls []) := by
              intro x5_13 hf H locs hP hD hS ls hl
              rw [hk23] at hf
              dsimp only at hf
              clear hk23
              refine lv_iload hx hb dJ6_getChars_ba4f3_104 (lv_at hl 2 rfl) ?_
              obtain ⟨k17, hk21, hf⟩ := jn_at hf
              have hJ18 : ∀ (x5_16 : Int32), k17 x5_16 = some (r, vV1) → ∀ (H : Heap) (locs : List Loc), va_P g.1 vwCl (cB g qV vV_12) H → va_D A (cB g qV vV_12) → va_S A s.heap H locs → ∀ ls : Array Slot, lv_has ls 7 [(5, .int x5_16)] → W p l e (headSpec wsJ6_getChars_ba4f3 rmJ6_getChars_ba4f3).room s m ([.int x0, .int x1, .ref qV] : List Value).toArray below meth c H locs 0 0 (MQ below (qG g A (fun (u : Nat → Nat) => cB g qV vV1) (fun (u : Nat → Nat) => (fun _ => some (.int r)) u)) ([.int x0, .int x1, .ref qV] : List Value).toArray s 0 0 A) (F0 m 118 ls []) := by
                intro x5_16 hf H locs hP hD hS ls hl
                rw [hk21] at hf
                dsimp only at hf
                clear hk21
                refine lv_iload hx hb dJ6_getChars_ba4f3_118 (lv_at hl 0 rfl) ?_
                obtain ⟨e19, e20⟩ := kp_2 hf
                rw [e20] at hP hD
                exact k_Giret (w1 := fun (u : Nat → Nat) => cB g qV vV1) (rv := fun (u : Nat → Nat) => (fun _ => some (.int r)) u) (u := (fun i => 0)) hx hb hr hlocks hK hP hD hS rfl e19 dJ6_getChars_ba4f3_120
              refine lv_if_eq (tgt := 118) hx hb dJ6_getChars_ba4f3_106 (by decide) (fun c22 => ?_) (fun c22 => ?_)
              · have hf := it_t hf c22
                exact hJ18 x5_13 hf H locs hP hD hS _ (lv_sub hl [1] rfl)
              · have hf := it_f hf c22
                cases hf
            refine lv_icmp_ge (tgt := 104) hx hb dJ6_getChars_ba4f3_88 (by decide) (fun c24 => ?_) (fun c24 => ?_)
            · have hf := it_t hf c24
              exact hJ15 (x5_5 + (-1 : Int32)) hf H locs hP hD hS _ (lv_sub hl [2, 0, 3] rfl)
            · have hf := it_f hf c24
              cases hf
          · have hf := it_f hf c9
            cases hf
      refine lv_if_ne (tgt := 22) hx hb dJ6_getChars_ba4f3_16 (by decide) (fun c25 => ?_) (fun c25 => ?_)
      · have hf := it_f hf c25
        exact hL7 x0 x1 hf H locs hP hD hS _ (lv_sub hl [1, 2, 3, 0] rfl)
      · have hf := it_t hf c25
        refine lv_iload_n hx hb dJ6_getChars_ba4f3_19 rfl (lv_at hl 1 rfl) ?_
        refine lv_ineg hx hb dJ6_getChars_ba4f3_20 ?_
        refine lv_istore_n (lv' := [(0, .int (-x0)), (6, .int t1), (2, .ref qV), (5, .int x1)]) hx hb dJ6_getChars_ba4f3_21 rfl hl (by decide) rfl (fun ls hl => ?_)
        exact hL7 (-x0) x1 hf H locs hP hD hS _ (lv_sub hl [0, 2, 3, 1] rfl)
    refine lv_if_ge (tgt := 11) hx hb dJ6_getChars_ba4f3_4 (by decide) (fun c27 => ?_) (fun c27 => ?_)
    · have hf := it_t hf c27
      refine lv_iconst (v := (0 : Int32)) hx hb dJ6_getChars_ba4f3_11 (by decide) ?_
      exact hJ3 (0 : Int32) hf H locs hP hD hS _ (lv_sub hl [1, 3, 0] rfl)
    · have hf := it_f hf c27
      refine lv_iconst (v := (1 : Int32)) hx hb dJ6_getChars_ba4f3_7 (by decide) ?_
      refine lv_goto (tgt := 12) hx hb dJ6_getChars_ba4f3_8 (by decide) ?_
      exact hJ3 (1 : Int32) hf H locs hP hD hS _ (lv_sub hl [1, 3, 0] rfl)
  rw [hH, hlo] at hW
  exact hW
def f_J1_canEncode_fc78d (x0 : Int32) : Option (Int32) :=
  jn (fun (t1 : Int32) => gd (isB t1) (some (t1))) (fun k2 => if (255 : Int32) < x0 then k2 (0 : Int32) else k2 (1 : Int32))
abbrev wsJ1_canEncode_fc78d : List Cond := .code yJ1_canEncode_fc78d cJ1_canEncode_fc78d 1 (some .boolean) :: UW
abbrev rmJ1_canEncode_fc78d : Room := { frames := 1, cells := 0, slots := 0, locals := 24 }
set_option maxHeartbeats 4000000 in
set_option maxRecDepth 100000 in
theorem c_J1_canEncode_fc78d (l : Launch) (g : Gx) (x0 : Int32) (r : Int32) (hf : f_J1_canEncode_fc78d x0 = some r) : CtG l yJ1_canEncode_fc78d wsJ1_canEncode_fc78d rmJ1_canEncode_fc78d g [.int x0] (([] : va_W)) (fun (u : Nat → Nat) => ([] : va_W)) (fun (u : Nat → Nat) => (fun _ => some (.int r)) u) 0 0 := by
  unfold CtG
  intro sz
  refine Met.ofW (cc := cJ1_canEncode_fc78d) (maxL := 1) (ret := (some .boolean)) (by decide) rfl ?_
  intro p e s m args below meth c s₁ B hml hv
  obtain ⟨rfl, hsz, hP, hK, hD0, hG⟩ := hv
  have hx := B.exec
  have hb := B.bytes
  have hr := B.returns
  have hts := atoms_spec (ws := wsJ1_canEncode_fc78d) B.pre
  have hown : s.vm.findClass RJ1 = some m.cls := findClass_of_methodNamed B.named
  have hlocks := B.notSynchronized
  subst hsz
  have hD := hD0.self (sz := s.heap.size)
  generalize hAe : va_A (([] : va_W)) s.heap.size = A at hD hG ⊢
  have hA : ∀ q : Nat, s.heap.size ≤ q → A q := fun q h => by rw [← hAe]; exact Or.inr h
  clear hAe hD0
  have hS : va_S A s.heap s.heap [] := va_S.rf
  have hl := lv_entry ([.int x0]) (n := 1) (Nat.le_of_ble_eq_true rfl)
  rw [lg_entry_eq]
  generalize (lg_sl ([.int x0]) ++ List.replicate (1 - (lg_sl ([.int x0])).length) Slot.unset).toArray = ls at hl ⊢
  have hl : lv_has ls 1 [(0, .int x0)] := hl
  have htu : ∀ w ∈ UW, w.before _ s = true := fun w h => hts w (List.mem_cons_of_mem _ h)
  unfold f_J1_canEncode_fc78d at hf
  obtain ⟨H, hH⟩ : ∃ z, z = s.heap := ⟨_, rfl⟩
  obtain ⟨locs, hlo⟩ : ∃ z : List Loc, z = [] := ⟨_, rfl⟩
  have hS : va_S A s.heap H locs := by rw [hH, hlo]; exact hS
  rw [← hH] at hP
  have hW : W p l e (headSpec wsJ1_canEncode_fc78d rmJ1_canEncode_fc78d).room s m ([.int x0] : List Value).toArray below meth c H locs 0 0 (MQ below (qG g A (fun (u : Nat → Nat) => ([] : va_W)) (fun (u : Nat → Nat) => (fun _ => some (.int r)) u)) ([.int x0] : List Value).toArray s 0 0 A) (F0 m 0 ls []) := by
    refine lv_iload_n hx hb dJ1_canEncode_fc78d_0 rfl (lv_at hl 0 rfl) ?_
    refine lv_sipush (v := (255 : Int32)) hx hb dJ1_canEncode_fc78d_1 (by decide) ?_
    obtain ⟨k2, hk6, hf⟩ := jn_at hf
    have hJ3 : ∀ (t1 : Int32), k2 t1 = some r → ∀ (H : Heap) (locs : List Loc), va_P g.1 vwCl (([] : va_W)) H → va_D A (([] : va_W)) → va_S A s.heap H locs → ∀ ls : Array Slot, lv_has ls 1 [] → W p l e (headSpec wsJ1_canEncode_fc78d rmJ1_canEncode_fc78d).room s m ([.int x0] : List Value).toArray below meth c H locs 0 0 (MQ below (qG g A (fun (u : Nat → Nat) => ([] : va_W)) (fun (u : Nat → Nat) => (fun _ => some (.int r)) u)) ([.int x0] : List Value).toArray s 0 0 A) (F0 m 12 ls [.int t1]) := by
      intro t1 hf H locs hP hD hS ls hl
      rw [hk6] at hf
      dsimp only at hf
      clear hk6
      obtain ⟨h4, hf⟩ := gd_isB hf
      have e5 := Option.some.inj hf
      exact k_Gnret (w1 := fun (u : Nat → Nat) => ([] : va_W)) (rv := fun (u : Nat → Nat) => (fun _ => some (.int r)) u) (u := (fun i => 0)) hx hb hr hlocks hK hP hD hS rfl e5 (nar01 h4) dJ1_canEncode_fc78d_12
    refine lv_icmp_gt (tgt := 11) hx hb dJ1_canEncode_fc78d_4 (by decide) (fun c7 => ?_) (fun c7 => ?_)
    · have hf := it_t hf c7
      refine lv_iconst (v := (0 : Int32)) hx hb dJ1_canEncode_fc78d_11 (by decide) ?_
      exact hJ3 (0 : Int32) hf H locs hP hD hS _ (lv_sub hl [] rfl)
    · have hf := it_f hf c7
      refine lv_iconst (v := (1 : Int32)) hx hb dJ1_canEncode_fc78d_7 (by decide) ?_
      refine lv_goto (tgt := 12) hx hb dJ1_canEncode_fc78d_8 (by decide) ?_
      exact hJ3 (1 : Int32) hf H locs hP hD hS _ (lv_sub hl [] rfl)
  rw [hH, hlo] at hW
  exact hW
def f_J8_newLength_cabcc (x0 : Int32) (x1 : Int32) (x2 : Int32) : Option (Int32) :=
  if (x0 + (if x1 < x2 then x2 else x1)) ≤ (0 : Int32) then none else if (2147483639 : Int32) < (x0 + (if x1 < x2 then x2 else x1)) then none else some ((x0 + (if x1 < x2 then x2 else x1)))
abbrev wsJ8_newLength_cabcc : List Cond := .code yJ8_newLength_cabcc cJ8_newLength_cabcc 4 (some .int) :: UW
abbrev rmJ8_newLength_cabcc : Room := { frames := 1, cells := 0, slots := 0, locals := 90 }
set_option maxHeartbeats 4000000 in
set_option maxRecDepth 100000 in
theorem c_J8_newLength_cabcc (l : Launch) (g : Gx) (x0 : Int32) (x1 : Int32) (x2 : Int32) (r : Int32) (hf : f_J8_newLength_cabcc x0 x1 x2 = some r) : CtG l yJ8_newLength_cabcc wsJ8_newLength_cabcc rmJ8_newLength_cabcc g [.int x0, .int x1, .int x2] (([] : va_W)) (fun (u : Nat → Nat) => ([] : va_W)) (fun (u : Nat → Nat) => (fun _ => some (.int r)) u) 0 0 := by
  unfold CtG
  intro sz
  refine Met.ofW (cc := cJ8_newLength_cabcc) (maxL := 4) (ret := (some .int)) (by decide) rfl ?_
  intro p e s m args below meth c s₁ B hml hv
  obtain ⟨rfl, hsz, hP, hK, hD0, hG⟩ := hv
  have hx := B.exec
  have hb := B.bytes
  have hr := B.returns
  have hts := atoms_spec (ws := wsJ8_newLength_cabcc) B.pre
  have hown : s.vm.findClass RJ8 = some m.cls := findClass_of_methodNamed B.named
  have hlocks := B.notSynchronized
  subst hsz
  have hD := hD0.self (sz := s.heap.size)
  generalize hAe : va_A (([] : va_W)) s.heap.size = A at hD hG ⊢
  have hA : ∀ q : Nat, s.heap.size ≤ q → A q := fun q h => by rw [← hAe]; exact Or.inr h
  clear hAe hD0
  have hS : va_S A s.heap s.heap [] := va_S.rf
  have hl := lv_entry ([.int x0, .int x1, .int x2]) (n := 4) (Nat.le_of_ble_eq_true rfl)
  rw [lg_entry_eq]
  generalize (lg_sl ([.int x0, .int x1, .int x2]) ++ List.replicate (4 - (lg_sl ([.int x0, .int x1, .int x2])).length) Slot.unset).toArray = ls at hl ⊢
  have hl : lv_has ls 4 [(0, .int x0), (1, .int x1), (2, .int x2)] := hl
  have htu : ∀ w ∈ UW, w.before _ s = true := fun w h => hts w (List.mem_cons_of_mem _ h)
  have k_4_233 := htu _ mw_4_233
  have k_2_133 := htu _ mw_2_133
  have k_1_7 := htu _ mw_1_7
  have k_2_134 := htu _ mw_2_134
  have k_4_234 := htu _ mw_4_234
  unfold f_J8_newLength_cabcc at hf
  obtain ⟨H, hH⟩ : ∃ z, z = s.heap := ⟨_, rfl⟩
  obtain ⟨locs, hlo⟩ : ∃ z : List Loc, z = [] := ⟨_, rfl⟩
  have hS : va_S A s.heap H locs := by rw [hH, hlo]; exact hS
  rw [← hH] at hP
  have hW : W p l e (headSpec wsJ8_newLength_cabcc rmJ8_newLength_cabcc).room s m ([.int x0, .int x1, .int x2] : List Value).toArray below meth c H locs 0 0 (MQ below (qG g A (fun (u : Nat → Nat) => ([] : va_W)) (fun (u : Nat → Nat) => (fun _ => some (.int r)) u)) ([.int x0, .int x1, .int x2] : List Value).toArray s 0 0 A) (F0 m 0 ls []) := by
    refine lv_iload_n hx hb dJ8_newLength_cabcc_0 rfl (lv_at hl 0 rfl) ?_
    refine lv_iload_n hx hb dJ8_newLength_cabcc_1 rfl (lv_at hl 1 rfl) ?_
    refine lv_iload_n hx hb dJ8_newLength_cabcc_2 rfl (lv_at hl 2 rfl) ?_
    refine va_mmax hx hb (hml.trans hl.1.symm) hown k_4_233 k_2_133 k_1_7 k_2_134 (Nat.le_of_ble_eq_true rfl) (Nat.le_of_ble_eq_true rfl) (Nat.zero_le _) (Nat.zero_le _) dJ8_newLength_cabcc_3 ?_
    refine lv_iadd hx hb dJ8_newLength_cabcc_6 ?_
    refine lv_istore_n (lv' := [(3, .int (x0 + (if x1 < x2 then x2 else x1))), (0, .int x0), (1, .int x1), (2, .int x2)]) hx hb dJ8_newLength_cabcc_7 rfl hl (by decide) rfl (fun ls hl => ?_)
    refine lv_iconst (v := (0 : Int32)) hx hb dJ8_newLength_cabcc_8 (by decide) ?_
    refine lv_iload_n hx hb dJ8_newLength_cabcc_9 rfl (lv_at hl 0 rfl) ?_
    refine lv_icmp_ge (tgt := 21) hx hb dJ8_newLength_cabcc_10 (by decide) (fun c1 => ?_) (fun c1 => ?_)
    · have hf := it_t hf c1
      cases hf
    · have hf := it_f hf c1
      refine lv_iload_n hx hb dJ8_newLength_cabcc_13 rfl (lv_at hl 0 rfl) ?_
      refine lv_ldc (v := (2147483639 : Int32)) hx hb hown k_4_234 dJ8_newLength_cabcc_14 ?_
      refine lv_icmp_gt (tgt := 21) hx hb dJ8_newLength_cabcc_16 (by decide) (fun c2 => ?_) (fun c2 => ?_)
      · have hf := it_t hf c2
        cases hf
      · have hf := it_f hf c2
        refine lv_iload_n hx hb dJ8_newLength_cabcc_19 rfl (lv_at hl 0 rfl) ?_
        have e3 := Option.some.inj hf
        exact k_Giret (w1 := fun (u : Nat → Nat) => ([] : va_W)) (rv := fun (u : Nat → Nat) => (fun _ => some (.int r)) u) (u := (fun i => 0)) hx hb hr hlocks hK hP hD hS rfl e3 dJ8_newLength_cabcc_20
  rw [hH, hlo] at hW
  exact hW
def f_J7_copyOf_9075b (vV : Vs) (x1 : Int32) : Option (Vs) :=
  if x1 = (nI (vV.1 9).toNatClampNeg) then none else gd (decide (¬ x1 < 0 ∧ (x1).toNatClampNeg ≤ 65536 ∧ 0 + 1 ≤ 1 ∧ 0 + (x1).toNatClampNeg ≤ 400)) (bn (aV x1 (fun _ => 0)) (fun (vN15_4 : Vs) => gd (decide ((0 + 1) ≤ 1 ∧ (0 + (x1).toNatClampNeg) ≤ 400)) (gd (decide (¬ (0 : Int32) < 0 ∧ ¬ (0 : Int32) < 0 ∧ ¬ (if x1 < (nI (vV.1 9).toNatClampNeg) then x1 else (nI (vV.1 9).toNatClampNeg)) < 0 ∧ ((0 : Int32)).toNatClampNeg + ((if x1 < (nI (vV.1 9).toNatClampNeg) then x1 else (nI (vV.1 9).toNatClampNeg))).toNatClampNeg ≤ (vV.1 9).toNatClampNeg ∧ ((0 : Int32)).toNatClampNeg + ((if x1 < (nI (vV.1 9).toNatClampNeg) then x1 else (nI (vV.1 9).toNatClampNeg))).toNatClampNeg ≤ (vN15_4.1 9).toNatClampNeg) && fitA (vV.2.1 0) ((0 : Int32)).toNatClampNeg ((if x1 < (nI (vV.1 9).toNatClampNeg) then x1 else (nI (vV.1 9).toNatClampNeg))).toNatClampNeg) (bn (sA vN15_4 0 (va_cpy (vV.2.1 0) (vN15_4.2.1 0) ((0 : Int32)).toNatClampNeg ((0 : Int32)).toNatClampNeg ((if x1 < (nI (vV.1 9).toNatClampNeg) then x1 else (nI (vV.1 9).toNatClampNeg))).toNatClampNeg)) (fun (vN15_7 : Vs) => gd (decide ((0 + 1) ≤ 1 ∧ (0 + (x1).toNatClampNeg) ≤ 400)) (some (vN15_7)))))))
abbrev wsJ7_copyOf_9075b : List Cond := .code yJ7_copyOf_9075b cJ7_copyOf_9075b 3 (some (.array .byte)) :: UW
abbrev rmJ7_copyOf_9075b : Room := { frames := 1, cells := 1, slots := 400, locals := 90 }
set_option maxHeartbeats 4000000 in
set_option maxRecDepth 100000 in
theorem c_J7_copyOf_9075b (l : Launch) (g : Gx) (qV : Nat) (vV : Vs) (x1 : Int32) (vR01 : Vs) (hf : f_J7_copyOf_9075b vV x1 = some vR01) : CtG l yJ7_copyOf_9075b wsJ7_copyOf_9075b rmJ7_copyOf_9075b g [.ref qV, .int x1] (cB g qV vV) (fun (u : Nat → Nat) => cB g qV vV ++ (cB g (u 0) vR01)) (fun (u : Nat → Nat) => (fun u => some (.ref (u 0))) u) 1 400 := by
  unfold CtG
  intro sz
  refine Met.ofW (cc := cJ7_copyOf_9075b) (maxL := 3) (ret := (some (.array .byte))) (by decide) rfl ?_
  intro p e s m args below meth c s₁ B hml hv
  obtain ⟨rfl, hsz, hP, hK, hD0, hG⟩ := hv
  have hx := B.exec
  have hb := B.bytes
  have hr := B.returns
  have hts := atoms_spec (ws := wsJ7_copyOf_9075b) B.pre
  have hown : s.vm.findClass RJ7 = some m.cls := findClass_of_methodNamed B.named
  have hlocks := B.notSynchronized
  subst hsz
  have hD := hD0.self (sz := s.heap.size)
  generalize hAe : va_A (cB g qV vV) s.heap.size = A at hD hG ⊢
  have hA : ∀ q : Nat, s.heap.size ≤ q → A q := fun q h => by rw [← hAe]; exact Or.inr h
  clear hAe hD0
  have hS : va_S A s.heap s.heap [] := va_S.rf
  have hl := lv_entry ([.ref qV, .int x1]) (n := 3) (Nat.le_of_ble_eq_true rfl)
  rw [lg_entry_eq]
  generalize (lg_sl ([.ref qV, .int x1]) ++ List.replicate (3 - (lg_sl ([.ref qV, .int x1])).length) Slot.unset).toArray = ls at hl ⊢
  have hl : lv_has ls 3 [(0, .ref qV), (1, .int x1)] := hl
  have htu : ∀ w ∈ UW, w.before _ s = true := fun w h => hts w (List.mem_cons_of_mem _ h)
  have k_2_202 := htu _ mw_2_202
  have k_5_8 := htu _ mw_5_8
  have k_2_116 := htu _ mw_2_116
  have k_1_7 := htu _ mw_1_7
  have k_2_117 := htu _ mw_2_117
  have k_5_9 := htu _ mw_5_9
  have k_3_64 := htu _ mw_3_64
  have k_3_63 := htu _ mw_3_63
  have k_1_9 := htu _ mw_1_9
  unfold f_J7_copyOf_9075b at hf
  obtain ⟨H, hH⟩ : ∃ z, z = s.heap := ⟨_, rfl⟩
  obtain ⟨locs, hlo⟩ : ∃ z : List Loc, z = [] := ⟨_, rfl⟩
  have hS : va_S A s.heap H locs := by rw [hH, hlo]; exact hS
  rw [← hH] at hP
  have hW : W p l e (headSpec wsJ7_copyOf_9075b rmJ7_copyOf_9075b).room s m ([.ref qV, .int x1] : List Value).toArray below meth c H locs 0 0 (MQ below (qG g A (fun (u : Nat → Nat) => cB g qV vV ++ (cB g (u 0) vR01)) (fun (u : Nat → Nat) => (fun u => some (.ref (u 0))) u)) ([.ref qV, .int x1] : List Value).toArray s 1 400 A) (F0 m 0 ls []) := by
    refine lv_iload_n hx hb dJ7_copyOf_9075b_0 rfl (lv_at hl 1 rfl) ?_
    refine lv_aload_n hx hb dJ7_copyOf_9075b_1 rfl (lv_at hl 0 rfl) ?_
    refine va_alen (D := g.1) (v := (nI (vV.1 9).toNatClampNeg)) (ty := .byte) hx hb hK hP 0 4 rfl rfl rfl dJ7_copyOf_9075b_2 ?_
    refine lv_icmp_ne (tgt := 14) hx hb dJ7_copyOf_9075b_3 (by decide) (fun c1 => ?_) (fun c1 => ?_)
    · have hf := it_f hf c1
      refine lv_iload_n hx hb dJ7_copyOf_9075b_14 rfl (lv_at hl 1 rfl) ?_
      obtain ⟨h2, hf⟩ := gd_at hf
      obtain ⟨h2a, h2b, h2c, h2d⟩ := of_decide_eq_true h2
      refine k_newB (N' := (x1).toNatClampNeg) hx hb k_2_202 hK hP hD hS hA h2a rfl (Nat.le_trans (Nat.mul_le_mul_right _ h2b) (Nat.le_of_ble_eq_true rfl)) h2c h2d dJ7_copyOf_9075b_15 (fun q3 H hP hD hS => ?_)
      obtain ⟨vN15_4, evN15_4⟩ : ∃ z : Vs, z = aV x1 (fun _ => 0) := ⟨_, rfl⟩
      have hf := bn_at hf evN15_4
      have hP : va_P g.1 vwCl (cB g qV vV ++ (cB g q3 vN15_4)) H := by rw [evN15_4]; exact hP
      have hD : va_D A (cB g qV vV ++ (cB g q3 vN15_4)) := by rw [evN15_4]; exact hD
      have hP : va_P g.1 vwCl (cB g q3 vN15_4 ++ (cB g qV vV)) H := hP.perm (kpc (fun P => by first | omega | (simp only [List.countP_append, List.countP_nil] <;> omega)))
      have hD : va_D A (cB g q3 vN15_4 ++ (cB g qV vV)) := hD.perm (kpc (fun P => by first | omega | (simp only [List.countP_append, List.countP_nil] <;> omega)))
      refine lv_astore_n (lv' := [(2, .ref q3), (0, .ref qV), (1, .int x1)]) hx hb dJ7_copyOf_9075b_17 rfl hl (by decide) rfl (fun ls hl => ?_)
      refine lv_aload_n hx hb dJ7_copyOf_9075b_18 rfl (lv_at hl 1 rfl) ?_
      refine lv_iconst (v := (0 : Int32)) hx hb dJ7_copyOf_9075b_19 (by decide) ?_
      refine lv_aload_n hx hb dJ7_copyOf_9075b_20 rfl (lv_at hl 0 rfl) ?_
      refine lv_iconst (v := (0 : Int32)) hx hb dJ7_copyOf_9075b_21 (by decide) ?_
      refine lv_aload_n hx hb dJ7_copyOf_9075b_22 rfl (lv_at hl 1 rfl) ?_
      refine va_alen (D := g.1) (v := (nI (vV.1 9).toNatClampNeg)) (ty := .byte) hx hb hK hP 1 4 rfl rfl rfl dJ7_copyOf_9075b_23 ?_
      refine lv_iload_n hx hb dJ7_copyOf_9075b_24 rfl (lv_at hl 2 rfl) ?_
      obtain ⟨h5, hf⟩ := gd_at hf
      refine va_mmin hx hb (hml.trans hl.1.symm) hown k_5_8 k_2_116 k_1_7 k_2_117 (Nat.le_of_ble_eq_true rfl) (Nat.le_of_ble_eq_true rfl) (of_decide_eq_true h5).1 (of_decide_eq_true h5).2 dJ7_copyOf_9075b_25 ?_
      obtain ⟨h6, hf⟩ := gd_at hf
      rw [Bool.and_eq_true] at h6
      obtain ⟨h6a, h6b, h6c, h6d, h6e⟩ := of_decide_eq_true h6.1
      refine va_copyi (D := g.1) (f := (vV.2.1 0)) (g := (vN15_4.2.1 0)) (ty := .byte) hx hb (hml.trans hl.1.symm) hown k_5_9 k_3_64 k_3_63 k_1_9 hK hP hD hS 1 0 4 4 rfl rfl rfl rfl rfl h6a h6b h6c h6d h6e (fitA_at h6.2) (Nat.le_of_ble_eq_true rfl) (Nat.le_of_ble_eq_true rfl) dJ7_copyOf_9075b_28 (fun H locs hP hD hS => ?_)
      obtain ⟨vN15_7, evN15_7⟩ : ∃ z : Vs, z = sA vN15_4 0 (va_cpy (vV.2.1 0) (vN15_4.2.1 0) ((0 : Int32)).toNatClampNeg ((0 : Int32)).toNatClampNeg ((if x1 < (nI (vV.1 9).toNatClampNeg) then x1 else (nI (vV.1 9).toNatClampNeg))).toNatClampNeg) := ⟨_, rfl⟩
      have hf := bn_at hf evN15_7
      have hP : va_P g.1 vwCl (cB g q3 vN15_7 ++ (cB g qV vV)) H := by rw [evN15_7]; exact hP
      have hD : va_D A (cB g q3 vN15_7 ++ (cB g qV vV)) := by rw [evN15_7]; exact hD
      refine lv_aload_n hx hb dJ7_copyOf_9075b_31 rfl (lv_at hl 0 rfl) ?_
      obtain ⟨h8, hf⟩ := gd_at hf
      have hP : va_P g.1 vwCl (cB g qV vV ++ (cB g q3 vN15_7)) H := k_dropP hP (w3 := ([] : va_W)) (kpc (fun P => by first | omega | (simp only [List.countP_append, List.countP_nil] <;> omega)))
      have hD : va_D A (cB g qV vV ++ (cB g q3 vN15_7)) := k_dropD hD (w3 := ([] : va_W)) (kpc (fun P => by first | omega | (simp only [List.countP_append, List.countP_nil] <;> omega)))
      have e9 := Option.some.inj hf
      rw [e9] at hP hD
      refine W.widen (k := 1) (n := 400) (of_decide_eq_true h8).1 (of_decide_eq_true h8).2 ?_
      exact k_Garet (w1 := fun (u : Nat → Nat) => cB g qV vV ++ (cB g (u 0) vR01)) (rv := fun (u : Nat → Nat) => (fun u => some (.ref (u 0))) u) (u := (fun i => if i = 0 then q3 else 0)) hx hb hr (Or.inr ⟨_, rfl⟩) hlocks hK hP hD hS rfl dJ7_copyOf_9075b_32
    · have hf := it_t hf c1
      cases hf
  rw [hH, hlo] at hW
  exact hW
def f_J7_checkLength_df160 (x0 : Int32) (x1 : Int32) : Option (Unit) :=
  if x0 ≤ x1 then some () else none
abbrev wsJ7_checkLength_df160 : List Cond := .code yJ7_checkLength_df160 cJ7_checkLength_df160 2 none :: UW
abbrev rmJ7_checkLength_df160 : Room := { frames := 1, cells := 0, slots := 0, locals := 24 }
set_option maxHeartbeats 4000000 in
set_option maxRecDepth 100000 in
theorem c_J7_checkLength_df160 (l : Launch) (g : Gx) (x0 : Int32) (x1 : Int32) (hf : f_J7_checkLength_df160 x0 x1 = some ()) : CtG l yJ7_checkLength_df160 wsJ7_checkLength_df160 rmJ7_checkLength_df160 g [.int x0, .int x1] (([] : va_W)) (fun (u : Nat → Nat) => ([] : va_W)) (fun (u : Nat → Nat) => (fun _ => none) u) 0 0 := by
  unfold CtG
  intro sz
  refine Met.ofW (cc := cJ7_checkLength_df160) (maxL := 2) (ret := none) (by decide) rfl ?_
  intro p e s m args below meth c s₁ B hml hv
  obtain ⟨rfl, hsz, hP, hK, hD0, hG⟩ := hv
  have hx := B.exec
  have hb := B.bytes
  have hr := B.returns
  have hts := atoms_spec (ws := wsJ7_checkLength_df160) B.pre
  have hown : s.vm.findClass RJ7 = some m.cls := findClass_of_methodNamed B.named
  have hlocks := B.notSynchronized
  subst hsz
  have hD := hD0.self (sz := s.heap.size)
  generalize hAe : va_A (([] : va_W)) s.heap.size = A at hD hG ⊢
  have hA : ∀ q : Nat, s.heap.size ≤ q → A q := fun q h => by rw [← hAe]; exact Or.inr h
  clear hAe hD0
  have hS : va_S A s.heap s.heap [] := va_S.rf
  have hl := lv_entry ([.int x0, .int x1]) (n := 2) (Nat.le_of_ble_eq_true rfl)
  rw [lg_entry_eq]
  generalize (lg_sl ([.int x0, .int x1]) ++ List.replicate (2 - (lg_sl ([.int x0, .int x1])).length) Slot.unset).toArray = ls at hl ⊢
  have hl : lv_has ls 2 [(0, .int x0), (1, .int x1)] := hl
  have htu : ∀ w ∈ UW, w.before _ s = true := fun w h => hts w (List.mem_cons_of_mem _ h)
  unfold f_J7_checkLength_df160 at hf
  obtain ⟨H, hH⟩ : ∃ z, z = s.heap := ⟨_, rfl⟩
  obtain ⟨locs, hlo⟩ : ∃ z : List Loc, z = [] := ⟨_, rfl⟩
  have hS : va_S A s.heap H locs := by rw [hH, hlo]; exact hS
  rw [← hH] at hP
  have hW : W p l e (headSpec wsJ7_checkLength_df160 rmJ7_checkLength_df160).room s m ([.int x0, .int x1] : List Value).toArray below meth c H locs 0 0 (MQ below (qG g A (fun (u : Nat → Nat) => ([] : va_W)) (fun (u : Nat → Nat) => (fun _ => none) u)) ([.int x0, .int x1] : List Value).toArray s 0 0 A) (F0 m 0 ls []) := by
    refine lv_iload_n hx hb dJ7_checkLength_df160_0 rfl (lv_at hl 1 rfl) ?_
    refine lv_iload_n hx hb dJ7_checkLength_df160_1 rfl (lv_at hl 0 rfl) ?_
    refine lv_icmp_ge (tgt := 37) hx hb dJ7_checkLength_df160_2 (by decide) (fun c1 => ?_) (fun c1 => ?_)
    · have hf := it_t hf c1
      exact k_Gvret (w1 := fun (u : Nat → Nat) => ([] : va_W)) (rv := fun (u : Nat → Nat) => (fun _ => none) u) (u := (fun i => 0)) hx hb hr hlocks hK hP hD hS rfl dJ7_checkLength_df160_37
    · have hf := it_f hf c1
      cases hf
  rw [hH, hlo] at hW
  exact hW
def f_J7_copyOfRangeByte_39247 (vV : Vs) (x1 : Int32) (x2 : Int32) : Option (Vs) :=
  o1 (f_J7_checkLength_df160 x1 x2) (fun _ => gd (decide (¬ (x2 - x1) < 0 ∧ ((x2 - x1)).toNatClampNeg ≤ 65536 ∧ 0 + 1 ≤ 1 ∧ 0 + ((x2 - x1)).toNatClampNeg ≤ 400)) (bn (aV (x2 - x1) (fun _ => 0)) (fun (vN10_6 : Vs) => gd (decide ((0 + 1) ≤ 1 ∧ (0 + ((x2 - x1)).toNatClampNeg) ≤ 400)) (gd (decide (¬ x1 < 0 ∧ ¬ (0 : Int32) < 0 ∧ ¬ (if (x2 - x1) < ((nI (vV.1 9).toNatClampNeg) - x1) then (x2 - x1) else ((nI (vV.1 9).toNatClampNeg) - x1)) < 0 ∧ (x1).toNatClampNeg + ((if (x2 - x1) < ((nI (vV.1 9).toNatClampNeg) - x1) then (x2 - x1) else ((nI (vV.1 9).toNatClampNeg) - x1))).toNatClampNeg ≤ (vV.1 9).toNatClampNeg ∧ ((0 : Int32)).toNatClampNeg + ((if (x2 - x1) < ((nI (vV.1 9).toNatClampNeg) - x1) then (x2 - x1) else ((nI (vV.1 9).toNatClampNeg) - x1))).toNatClampNeg ≤ (vN10_6.1 9).toNatClampNeg) && fitA (vV.2.1 0) (x1).toNatClampNeg ((if (x2 - x1) < ((nI (vV.1 9).toNatClampNeg) - x1) then (x2 - x1) else ((nI (vV.1 9).toNatClampNeg) - x1))).toNatClampNeg) (bn (sA vN10_6 0 (va_cpy (vV.2.1 0) (vN10_6.2.1 0) (x1).toNatClampNeg ((0 : Int32)).toNatClampNeg ((if (x2 - x1) < ((nI (vV.1 9).toNatClampNeg) - x1) then (x2 - x1) else ((nI (vV.1 9).toNatClampNeg) - x1))).toNatClampNeg)) (fun (vN10_9 : Vs) => gd (decide ((0 + 1) ≤ 1 ∧ (0 + ((x2 - x1)).toNatClampNeg) ≤ 400)) (some (vN10_9))))))))
abbrev wsJ7_copyOfRangeByte_39247 : List Cond := .code yJ7_copyOfRangeByte_39247 cJ7_copyOfRangeByte_39247 5 (some (.array .byte)) :: UW
abbrev rmJ7_copyOfRangeByte_39247 : Room := { frames := 2, cells := 1, slots := 400, locals := 90 }
set_option maxHeartbeats 4000000 in
set_option maxRecDepth 100000 in
theorem c_J7_copyOfRangeByte_39247 (l : Launch) (g : Gx) (qV : Nat) (vV : Vs) (x1 : Int32) (x2 : Int32) (vR01 : Vs) (hf : f_J7_copyOfRangeByte_39247 vV x1 x2 = some vR01) : CtG l yJ7_copyOfRangeByte_39247 wsJ7_copyOfRangeByte_39247 rmJ7_copyOfRangeByte_39247 g [.ref qV, .int x1, .int x2] (cB g qV vV) (fun (u : Nat → Nat) => cB g qV vV ++ (cB g (u 0) vR01)) (fun (u : Nat → Nat) => (fun u => some (.ref (u 0))) u) 1 400 := by
  unfold CtG
  intro sz
  refine Met.ofW (cc := cJ7_copyOfRangeByte_39247) (maxL := 5) (ret := (some (.array .byte))) (by decide) rfl ?_
  intro p e s m args below meth c s₁ B hml hv
  obtain ⟨rfl, hsz, hP, hK, hD0, hG⟩ := hv
  have hx := B.exec
  have hb := B.bytes
  have hr := B.returns
  have hts := atoms_spec (ws := wsJ7_copyOfRangeByte_39247) B.pre
  have hown : s.vm.findClass RJ7 = some m.cls := findClass_of_methodNamed B.named
  have hlocks := B.notSynchronized
  subst hsz
  have hD := hD0.self (sz := s.heap.size)
  generalize hAe : va_A (cB g qV vV) s.heap.size = A at hD hG ⊢
  have hA : ∀ q : Nat, s.heap.size ≤ q → A q := fun q h => by rw [← hAe]; exact Or.inr h
  clear hAe hD0
  have hS : va_S A s.heap s.heap [] := va_S.rf
  have hl := lv_entry ([.ref qV, .int x1, .int x2]) (n := 5) (Nat.le_of_ble_eq_true rfl)
  rw [lg_entry_eq]
  generalize (lg_sl ([.ref qV, .int x1, .int x2]) ++ List.replicate (5 - (lg_sl ([.ref qV, .int x1, .int x2])).length) Slot.unset).toArray = ls at hl ⊢
  have hl : lv_has ls 5 [(0, .ref qV), (1, .int x1), (2, .int x2)] := hl
  have htu : ∀ w ∈ UW, w.before _ s = true := fun w h => hts w (List.mem_cons_of_mem _ h)
  have k_2_202 := htu _ mw_2_202
  have k_5_8 := htu _ mw_5_8
  have k_2_116 := htu _ mw_2_116
  have k_1_7 := htu _ mw_1_7
  have k_2_117 := htu _ mw_2_117
  have k_5_9 := htu _ mw_5_9
  have k_3_64 := htu _ mw_3_64
  have k_3_63 := htu _ mw_3_63
  have k_1_9 := htu _ mw_1_9
  unfold f_J7_copyOfRangeByte_39247 at hf
  obtain ⟨H, hH⟩ : ∃ z, z = s.heap := ⟨_, rfl⟩
  obtain ⟨locs, hlo⟩ : ∃ z : List Loc, z = [] := ⟨_, rfl⟩
  have hS : va_S A s.heap H locs := by rw [hH, hlo]; exact hS
  rw [← hH] at hP
  have hW : W p l e (headSpec wsJ7_copyOfRangeByte_39247 rmJ7_copyOfRangeByte_39247).room s m ([.ref qV, .int x1, .int x2] : List Value).toArray below meth c H locs 0 0 (MQ below (qG g A (fun (u : Nat → Nat) => cB g qV vV ++ (cB g (u 0) vR01)) (fun (u : Nat → Nat) => (fun u => some (.ref (u 0))) u)) ([.ref qV, .int x1, .int x2] : List Value).toArray s 1 400 A) (F0 m 0 ls []) := by
    refine lv_iload_n hx hb dJ7_copyOfRangeByte_39247_0 rfl (lv_at hl 1 rfl) ?_
    refine lv_iload_n hx hb dJ7_copyOfRangeByte_39247_1 rfl (lv_at hl 2 rfl) ?_
    obtain ⟨_, hg1, hf⟩ := o1_at hf
    have hpm : (cB g qV vV).Perm ((([] : va_W)) ++ (cB g qV vV)) := (kpc (fun P => by first | omega | (simp only [List.countP_append, List.countP_nil] <;> omega)))
    refine k_G (wc := ([] : va_W)) (wr := cB g qV vV) (w1 := fun (u : Nat → Nat) => ([] : va_W)) (rv := fun (u : Nat → Nat) => (fun _ => none) u) hP hD hS hA hpm (va_runS (As := [.int x1, .int x2]) (rest := []) ⟨hx, hb, hml, hown, htu⟩ ((c_J7_checkLength_df160 l g x1 x2 hg1) H.size) (va_cwS 2 htu (gU_S mw_5_135 hcJ7_checkLength_df160) rfl rfl rfl hdJ7_checkLength_df160 ⟨Nat.le_of_ble_eq_true rfl, Nat.le_of_ble_eq_true rfl⟩) (k_preS hK hP hD hS hA hG hpm) rfl rfl hl.1 rfl (lv_room (Nat.le_of_ble_eq_true rfl)) dJ7_copyOfRangeByte_39247_2 ⟨Nat.zero_le _, Nat.zero_le _⟩) hQ_G (fun u3 H locs hP hD hS => ?_)
    refine W.eq (g2 := F0 m 5 ls []) rfl ?_
    have hP : va_P g.1 vwCl ((([] : va_W)) ++ (cB g qV vV)) H := hP
    have hD : va_D A ((([] : va_W)) ++ (cB g qV vV)) := hD
    have hP : va_P g.1 vwCl (cB g qV vV) H := hP.perm (kpc (fun P => by first | omega | (simp only [List.countP_append, List.countP_nil] <;> omega)))
    have hD : va_D A (cB g qV vV) := hD.perm (kpc (fun P => by first | omega | (simp only [List.countP_append, List.countP_nil] <;> omega)))
    refine lv_iload_n hx hb dJ7_copyOfRangeByte_39247_5 rfl (lv_at hl 2 rfl) ?_
    refine lv_iload_n hx hb dJ7_copyOfRangeByte_39247_6 rfl (lv_at hl 1 rfl) ?_
    refine lv_isub hx hb dJ7_copyOfRangeByte_39247_7 ?_
    refine lv_istore_n (lv' := [(3, .int (x2 - x1)), (0, .ref qV), (1, .int x1), (2, .int x2)]) hx hb dJ7_copyOfRangeByte_39247_8 rfl hl (by decide) rfl (fun ls hl => ?_)
    refine lv_iload_n hx hb dJ7_copyOfRangeByte_39247_9 rfl (lv_at hl 0 rfl) ?_
    obtain ⟨h4, hf⟩ := gd_at hf
    obtain ⟨h4a, h4b, h4c, h4d⟩ := of_decide_eq_true h4
    refine k_newB (N' := ((x2 - x1)).toNatClampNeg) hx hb k_2_202 hK hP hD hS hA h4a rfl (Nat.le_trans (Nat.mul_le_mul_right _ h4b) (Nat.le_of_ble_eq_true rfl)) h4c h4d dJ7_copyOfRangeByte_39247_10 (fun q5 H hP hD hS => ?_)
    obtain ⟨vN10_6, evN10_6⟩ : ∃ z : Vs, z = aV (x2 - x1) (fun _ => 0) := ⟨_, rfl⟩
    have hf := bn_at hf evN10_6
    have hP : va_P g.1 vwCl (cB g qV vV ++ (cB g q5 vN10_6)) H := by rw [evN10_6]; exact hP
    have hD : va_D A (cB g qV vV ++ (cB g q5 vN10_6)) := by rw [evN10_6]; exact hD
    have hP : va_P g.1 vwCl (cB g q5 vN10_6 ++ (cB g qV vV)) H := hP.perm (kpc (fun P => by first | omega | (simp only [List.countP_append, List.countP_nil] <;> omega)))
    have hD : va_D A (cB g q5 vN10_6 ++ (cB g qV vV)) := hD.perm (kpc (fun P => by first | omega | (simp only [List.countP_append, List.countP_nil] <;> omega)))
    refine lv_astore (lv' := [(4, .ref q5), (3, .int (x2 - x1)), (0, .ref qV), (1, .int x1), (2, .int x2)]) hx hb dJ7_copyOfRangeByte_39247_12 hl (by decide) rfl (fun ls hl => ?_)
    refine lv_aload_n hx hb dJ7_copyOfRangeByte_39247_14 rfl (lv_at hl 2 rfl) ?_
    refine lv_iload_n hx hb dJ7_copyOfRangeByte_39247_15 rfl (lv_at hl 3 rfl) ?_
    refine lv_aload hx hb dJ7_copyOfRangeByte_39247_16 (lv_at hl 0 rfl) ?_
    refine lv_iconst (v := (0 : Int32)) hx hb dJ7_copyOfRangeByte_39247_18 (by decide) ?_
    refine lv_aload_n hx hb dJ7_copyOfRangeByte_39247_19 rfl (lv_at hl 2 rfl) ?_
    refine va_alen (D := g.1) (v := (nI (vV.1 9).toNatClampNeg)) (ty := .byte) hx hb hK hP 1 4 rfl rfl rfl dJ7_copyOfRangeByte_39247_20 ?_
    refine lv_iload_n hx hb dJ7_copyOfRangeByte_39247_21 rfl (lv_at hl 3 rfl) ?_
    refine lv_isub hx hb dJ7_copyOfRangeByte_39247_22 ?_
    refine lv_iload_n hx hb dJ7_copyOfRangeByte_39247_23 rfl (lv_at hl 1 rfl) ?_
    obtain ⟨h7, hf⟩ := gd_at hf
    refine va_mmin hx hb (hml.trans hl.1.symm) hown k_5_8 k_2_116 k_1_7 k_2_117 (Nat.le_of_ble_eq_true rfl) (Nat.le_of_ble_eq_true rfl) (of_decide_eq_true h7).1 (of_decide_eq_true h7).2 dJ7_copyOfRangeByte_39247_24 ?_
    obtain ⟨h8, hf⟩ := gd_at hf
    rw [Bool.and_eq_true] at h8
    obtain ⟨h8a, h8b, h8c, h8d, h8e⟩ := of_decide_eq_true h8.1
    refine va_copyi (D := g.1) (f := (vV.2.1 0)) (g := (vN10_6.2.1 0)) (ty := .byte) hx hb (hml.trans hl.1.symm) hown k_5_9 k_3_64 k_3_63 k_1_9 hK hP hD hS 1 0 4 4 rfl rfl rfl rfl rfl h8a h8b h8c h8d h8e (fitA_at h8.2) (Nat.le_of_ble_eq_true rfl) (Nat.le_of_ble_eq_true rfl) dJ7_copyOfRangeByte_39247_27 (fun H locs hP hD hS => ?_)
    obtain ⟨vN10_9, evN10_9⟩ : ∃ z : Vs, z = sA vN10_6 0 (va_cpy (vV.2.1 0) (vN10_6.2.1 0) (x1).toNatClampNeg ((0 : Int32)).toNatClampNeg ((if (x2 - x1) < ((nI (vV.1 9).toNatClampNeg) - x1) then (x2 - x1) else ((nI (vV.1 9).toNatClampNeg) - x1))).toNatClampNeg) := ⟨_, rfl⟩
    have hf := bn_at hf evN10_9
    have hP : va_P g.1 vwCl (cB g q5 vN10_9 ++ (cB g qV vV)) H := by rw [evN10_9]; exact hP
    have hD : va_D A (cB g q5 vN10_9 ++ (cB g qV vV)) := by rw [evN10_9]; exact hD
    refine lv_aload hx hb dJ7_copyOfRangeByte_39247_30 (lv_at hl 0 rfl) ?_
    obtain ⟨h10, hf⟩ := gd_at hf
    have hP : va_P g.1 vwCl (cB g qV vV ++ (cB g q5 vN10_9)) H := k_dropP hP (w3 := ([] : va_W)) (kpc (fun P => by first | omega | (simp only [List.countP_append, List.countP_nil] <;> omega)))
    have hD : va_D A (cB g qV vV ++ (cB g q5 vN10_9)) := k_dropD hD (w3 := ([] : va_W)) (kpc (fun P => by first | omega | (simp only [List.countP_append, List.countP_nil] <;> omega)))
    have e11 := Option.some.inj hf
    rw [e11] at hP hD
    refine W.widen (k := 1) (n := 400) (of_decide_eq_true h10).1 (of_decide_eq_true h10).2 ?_
    exact k_Garet (w1 := fun (u : Nat → Nat) => cB g qV vV ++ (cB g (u 0) vR01)) (rv := fun (u : Nat → Nat) => (fun u => some (.ref (u 0))) u) (u := (fun i => if i = 0 then q5 else 0)) hx hb hr (Or.inr ⟨_, rfl⟩) hlocks hK hP hD hS rfl dJ7_copyOfRangeByte_39247_32
  rw [hH, hlo] at hW
  exact hW
def f_J7_copyOfRange_39247 (vV : Vs) (x1 : Int32) (x2 : Int32) : Option (Vs) :=
  jn (gd (decide (0 + 1 ≤ 1 ∧ 0 + 400 ≤ 400)) (o1 (f_J7_copyOfRangeByte_39247 vV x1 x2) (fun (vN13_3 : Vs) => gd (decide ((0 + 1) ≤ 1 ∧ (0 + 400) ≤ 400)) (some (vN13_3))))) (fun k1 => if x1 = 0 then if x2 = (nI (vV.1 9).toNatClampNeg) then gd (decide (0 + 1 ≤ 1 ∧ 0 + (vV.1 9).toNatClampNeg ≤ 400) && fitA (vV.2.1 0) 0 (vV.1 9).toNatClampNeg) (bn (aV (vV.1 9) (vV.2.1 0)) (fun (vN18_14 : Vs) => gd (decide ((0 + 1) ≤ 1 ∧ (0 + (vV.1 9).toNatClampNeg) ≤ 400)) (some (vN18_14)))) else k1 else k1)
abbrev wsJ7_copyOfRange_39247 : List Cond := .code yJ7_copyOfRange_39247 cJ7_copyOfRange_39247 3 (some (.array .byte)) :: UW
abbrev rmJ7_copyOfRange_39247 : Room := { frames := 3, cells := 1, slots := 400, locals := 114 }
set_option maxHeartbeats 4000000 in
set_option maxRecDepth 100000 in
theorem c_J7_copyOfRange_39247 (l : Launch) (g : Gx) (qV : Nat) (vV : Vs) (x1 : Int32) (x2 : Int32) (vR01 : Vs) (hf : f_J7_copyOfRange_39247 vV x1 x2 = some vR01) : CtG l yJ7_copyOfRange_39247 wsJ7_copyOfRange_39247 rmJ7_copyOfRange_39247 g [.ref qV, .int x1, .int x2] (cB g qV vV) (fun (u : Nat → Nat) => cB g qV vV ++ (cB g (u 0) vR01)) (fun (u : Nat → Nat) => (fun u => some (.ref (u 0))) u) 1 400 := by
  unfold CtG
  intro sz
  refine Met.ofW (cc := cJ7_copyOfRange_39247) (maxL := 3) (ret := (some (.array .byte))) (by decide) rfl ?_
  intro p e s m args below meth c s₁ B hml hv
  obtain ⟨rfl, hsz, hP, hK, hD0, hG⟩ := hv
  have hx := B.exec
  have hb := B.bytes
  have hr := B.returns
  have hts := atoms_spec (ws := wsJ7_copyOfRange_39247) B.pre
  have hown : s.vm.findClass RJ7 = some m.cls := findClass_of_methodNamed B.named
  have hlocks := B.notSynchronized
  subst hsz
  have hD := hD0.self (sz := s.heap.size)
  generalize hAe : va_A (cB g qV vV) s.heap.size = A at hD hG ⊢
  have hA : ∀ q : Nat, s.heap.size ≤ q → A q := fun q h => by rw [← hAe]; exact Or.inr h
  clear hAe hD0
  have hS : va_S A s.heap s.heap [] := va_S.rf
  have hl := lv_entry ([.ref qV, .int x1, .int x2]) (n := 3) (Nat.le_of_ble_eq_true rfl)
  rw [lg_entry_eq]
  generalize (lg_sl ([.ref qV, .int x1, .int x2]) ++ List.replicate (3 - (lg_sl ([.ref qV, .int x1, .int x2])).length) Slot.unset).toArray = ls at hl ⊢
  have hl : lv_has ls 3 [(0, .ref qV), (1, .int x1), (2, .int x2)] := hl
  have htu : ∀ w ∈ UW, w.before _ s = true := fun w h => hts w (List.mem_cons_of_mem _ h)
  have k_5_1 := htu _ mw_5_1
  have k_5_2 := htu _ mw_5_2
  have k_5_3 := htu _ mw_5_3
  have k_5_4 := htu _ mw_5_4
  have k_5_5 := htu _ mw_5_5
  have k_5_7 := htu _ mw_5_7
  unfold f_J7_copyOfRange_39247 at hf
  obtain ⟨H, hH⟩ : ∃ z, z = s.heap := ⟨_, rfl⟩
  obtain ⟨locs, hlo⟩ : ∃ z : List Loc, z = [] := ⟨_, rfl⟩
  have hS : va_S A s.heap H locs := by rw [hH, hlo]; exact hS
  rw [← hH] at hP
  have hW : W p l e (headSpec wsJ7_copyOfRange_39247 rmJ7_copyOfRange_39247).room s m ([.ref qV, .int x1, .int x2] : List Value).toArray below meth c H locs 0 0 (MQ below (qG g A (fun (u : Nat → Nat) => cB g qV vV ++ (cB g (u 0) vR01)) (fun (u : Nat → Nat) => (fun u => some (.ref (u 0))) u)) ([.ref qV, .int x1, .int x2] : List Value).toArray s 1 400 A) (F0 m 0 ls []) := by
    refine lv_iload_n hx hb dJ7_copyOfRange_39247_0 rfl (lv_at hl 1 rfl) ?_
    obtain ⟨k1, hk9, hf⟩ := jn_at hf
    have hJ2 : k1 = some vR01 → ∀ (H : Heap) (locs : List Loc), va_P g.1 vwCl (cB g qV vV) H → va_D A (cB g qV vV) → va_S A s.heap H locs → ∀ ls : Array Slot, lv_has ls 3 [(0, .ref qV), (1, .int x1), (2, .int x2)] → W p l e (headSpec wsJ7_copyOfRange_39247 rmJ7_copyOfRange_39247).room s m ([.ref qV, .int x1, .int x2] : List Value).toArray below meth c H locs 0 0 (MQ below (qG g A (fun (u : Nat → Nat) => cB g qV vV ++ (cB g (u 0) vR01)) (fun (u : Nat → Nat) => (fun u => some (.ref (u 0))) u)) ([.ref qV, .int x1, .int x2] : List Value).toArray s 1 400 A) (F0 m 10 ls []) := by
      intro hf H locs hP hD hS ls hl
      rw [hk9] at hf
      clear hk9
      refine lv_aload_n hx hb dJ7_copyOfRange_39247_10 rfl (lv_at hl 0 rfl) ?_
      refine lv_iload_n hx hb dJ7_copyOfRange_39247_11 rfl (lv_at hl 1 rfl) ?_
      refine lv_iload_n hx hb dJ7_copyOfRange_39247_12 rfl (lv_at hl 2 rfl) ?_
      obtain ⟨h5, hf⟩ := gd_at hf
      obtain ⟨vN13_3, hg4, hf⟩ := o1_at hf
      have hpm : (cB g qV vV).Perm ((cB g qV vV) ++ (([] : va_W))) := (kpc (fun P => by first | omega | (simp only [List.countP_append, List.countP_nil] <;> omega)))
      refine k_G (wc := cB g qV vV) (wr := ([] : va_W)) (w1 := fun (u : Nat → Nat) => cB g qV vV ++ (cB g (u 0) vN13_3)) (rv := fun (u : Nat → Nat) => (fun u => some (.ref (u 0))) u) hP hD hS hA hpm (va_runS (As := [.ref qV, .int x1, .int x2]) (rest := []) ⟨hx, hb, hml, hown, htu⟩ ((c_J7_copyOfRangeByte_39247 l g qV vV x1 x2 vN13_3 hg4) H.size) (va_cwS 3 htu (gU_S mw_5_132 hcJ7_copyOfRangeByte_39247) rfl rfl rfl hdJ7_copyOfRangeByte_39247 ⟨Nat.le_of_ble_eq_true rfl, Nat.le_of_ble_eq_true rfl⟩) (k_preS hK hP hD hS hA hG hpm) rfl rfl hl.1 rfl (lv_room (Nat.le_of_ble_eq_true rfl)) dJ7_copyOfRange_39247_13 (of_decide_eq_true h5)) hQ_G (fun u6 H locs hP hD hS => ?_)
      refine W.eq (g2 := F0 m 16 ls [.ref (u6 0)]) rfl ?_
      have hP : va_P g.1 vwCl ((cB g qV vV ++ (cB g (u6 0) vN13_3)) ++ (([] : va_W))) H := hP
      have hD : va_D A ((cB g qV vV ++ (cB g (u6 0) vN13_3)) ++ (([] : va_W))) := hD
      have hP : va_P g.1 vwCl (cB g qV vV ++ (cB g (u6 0) vN13_3)) H := hP.perm (kpc (fun P => by first | omega | (simp only [List.countP_append, List.countP_nil] <;> omega)))
      have hD : va_D A (cB g qV vV ++ (cB g (u6 0) vN13_3)) := hD.perm (kpc (fun P => by first | omega | (simp only [List.countP_append, List.countP_nil] <;> omega)))
      obtain ⟨h7, hf⟩ := gd_at hf
      have e8 := Option.some.inj hf
      rw [e8] at hP hD
      refine W.widen (k := 1) (n := 400) (of_decide_eq_true h7).1 (of_decide_eq_true h7).2 ?_
      exact k_Garet (w1 := fun (u : Nat → Nat) => cB g qV vV ++ (cB g (u 0) vR01)) (rv := fun (u : Nat → Nat) => (fun u => some (.ref (u 0))) u) (u := (fun i => if i = 0 then (u6 0) else 0)) hx hb hr (Or.inr ⟨_, rfl⟩) hlocks hK hP hD hS rfl dJ7_copyOfRange_39247_16
    refine lv_if_ne (tgt := 10) hx hb dJ7_copyOfRange_39247_1 (by decide) (fun c10 => ?_) (fun c10 => ?_)
    · have hf := it_f hf c10
      exact hJ2 hf H locs hP hD hS _ (lv_sub hl [0, 1, 2] rfl)
    · have hf := it_t hf c10
      refine lv_iload_n hx hb dJ7_copyOfRange_39247_4 rfl (lv_at hl 2 rfl) ?_
      refine lv_aload_n hx hb dJ7_copyOfRange_39247_5 rfl (lv_at hl 0 rfl) ?_
      refine va_alen (D := g.1) (v := (nI (vV.1 9).toNatClampNeg)) (ty := .byte) hx hb hK hP 0 4 rfl rfl rfl dJ7_copyOfRange_39247_6 ?_
      refine lv_icmp_eq (tgt := 17) hx hb dJ7_copyOfRange_39247_7 (by decide) (fun c11 => ?_) (fun c11 => ?_)
      · have hf := it_t hf c11
        refine lv_aload_n hx hb dJ7_copyOfRange_39247_17 rfl (lv_at hl 0 rfl) ?_
        obtain ⟨h12, hf⟩ := gd_at hf
        rw [Bool.and_eq_true] at h12
        have h12d := of_decide_eq_true h12.1
        refine va_clone (D := g.1) (ty := .byte) hx hb (hml.trans hl.1.symm) hown k_5_1 k_5_2 k_5_3 k_5_4 k_5_5 hG.1.2.2.2.2.1 hK hP hD hS hA 0 4 rfl rfl (hK.2 4 (gBy g, .byte) rfl).2 (fitC h12.2) (Nat.le_of_ble_eq_true rfl) (Nat.le_of_ble_eq_true rfl) h12d.1 h12d.2 dJ7_copyOfRange_39247_18 (fun q13 H hK1 hP hD hS => ?_)
        obtain ⟨vN18_14, evN18_14⟩ : ∃ z : Vs, z = aV (vV.1 9) (vV.2.1 0) := ⟨_, rfl⟩
        have hf := bn_at hf evN18_14
        have hP : va_P g.1 vwCl (cB g qV vV ++ (cB g q13 vN18_14)) H := by rw [evN18_14]; exact hP
        have hD : va_D A (cB g qV vV ++ (cB g q13 vN18_14)) := by rw [evN18_14]; exact hD
        have hP : va_P g.1 vwCl (cB g q13 vN18_14 ++ (cB g qV vV)) H := hP.perm (kpc (fun P => by first | omega | (simp only [List.countP_append, List.countP_nil] <;> omega)))
        have hD : va_D A (cB g q13 vN18_14 ++ (cB g qV vV)) := hD.perm (kpc (fun P => by first | omega | (simp only [List.countP_append, List.countP_nil] <;> omega)))
        refine va_castA hx hb hown k_5_7 hP 0 rfl (hK.2 4 (gBy g, .byte) rfl).2 dJ7_copyOfRange_39247_21 ?_
        obtain ⟨h15, hf⟩ := gd_at hf
        have hP : va_P g.1 vwCl (cB g qV vV ++ (cB g q13 vN18_14)) H := k_dropP hP (w3 := ([] : va_W)) (kpc (fun P => by first | omega | (simp only [List.countP_append, List.countP_nil] <;> omega)))
        have hD : va_D A (cB g qV vV ++ (cB g q13 vN18_14)) := k_dropD hD (w3 := ([] : va_W)) (kpc (fun P => by first | omega | (simp only [List.countP_append, List.countP_nil] <;> omega)))
        have e16 := Option.some.inj hf
        rw [e16] at hP hD
        refine W.widen (k := 1) (n := 400) (of_decide_eq_true h15).1 (of_decide_eq_true h15).2 ?_
        exact k_Garet (w1 := fun (u : Nat → Nat) => cB g qV vV ++ (cB g (u 0) vR01)) (rv := fun (u : Nat → Nat) => (fun u => some (.ref (u 0))) u) (u := (fun i => if i = 0 then q13 else 0)) hx hb hr (Or.inr ⟨_, rfl⟩) hlocks hK hP hD hS rfl dJ7_copyOfRange_39247_24
      · have hf := it_f hf c11
        exact hJ2 hf H locs hP hD hS _ (lv_sub hl [0, 1, 2] rfl)
  rw [hH, hlo] at hW
  exact hW
def f_J0_getBytes_840e7_k (vV : Vs) (x2 : Int32) (x3 : Int32) (i0 : Nat) : Option (Vs) :=
  o1 (f_J0_coder_7d493 i0) (fun (r1 : Int32) => jn (fun (vV_5 : Vs) => some (vV_5)) (fun k6 => if r1 = x3 then gd (decide (¬ (0 : Int32) < 0 ∧ ¬ (x2 <<< (x3 &&& 31)) < 0 ∧ ¬ (Int32.ofNat (lenS.getD i0 0)) < 0 ∧ ((0 : Int32)).toNatClampNeg + ((Int32.ofNat (lenS.getD i0 0))).toNatClampNeg ≤ (lenS.getD i0 0) ∧ ((x2 <<< (x3 &&& 31))).toNatClampNeg + ((Int32.ofNat (lenS.getD i0 0))).toNatClampNeg ≤ (vV.1 9).toNatClampNeg) && fitA (fun j => (bytS.getD i0 []).getD j 0) ((0 : Int32)).toNatClampNeg ((Int32.ofNat (lenS.getD i0 0))).toNatClampNeg) (bn (sA vV 0 (va_cpy (fun j => (bytS.getD i0 []).getD j 0) (vV.2.1 0) ((0 : Int32)).toNatClampNeg ((x2 <<< (x3 &&& 31))).toNatClampNeg ((Int32.ofNat (lenS.getD i0 0))).toNatClampNeg)) (fun (vV_12 : Vs) => k6 vV_12)) else none))
abbrev wsJ0_getBytes_840e7 : List Cond := .code yJ0_getBytes_840e7 cJ0_getBytes_840e7 4 none :: UW
abbrev rmJ0_getBytes_840e7_k : Room := { frames := 1, cells := 0, slots := 0, locals := 90 }
set_option maxHeartbeats 4000000 in
set_option maxRecDepth 100000 in
theorem c_J0_getBytes_840e7_k (l : Launch) (g : Gx) (qV : Nat) (vV : Vs) (x2 : Int32) (x3 : Int32) (i0 : Nat) (hi0 : i0 < 27) (vV1 : Vs) (hf : f_J0_getBytes_840e7_k vV x2 x3 i0 = some vV1) : CtG l yJ0_getBytes_840e7 wsJ0_getBytes_840e7 rmJ0_getBytes_840e7_k g [.ref (adK g i0), .ref qV, .int x2, .int x3] (cB g qV vV) (fun (u : Nat → Nat) => cB g qV vV1) (fun (u : Nat → Nat) => (fun _ => none) u) 0 0 := by
  unfold CtG
  intro sz
  refine Met.ofW (cc := cJ0_getBytes_840e7) (maxL := 4) (ret := none) (by decide) rfl ?_
  intro p e s m args below meth c s₁ B hml hv
  obtain ⟨rfl, hsz, hP, hK, hD0, hG⟩ := hv
  have hx := B.exec
  have hb := B.bytes
  have hr := B.returns
  have hts := atoms_spec (ws := wsJ0_getBytes_840e7) B.pre
  have hown : s.vm.findClass RJ0 = some m.cls := findClass_of_methodNamed B.named
  have hlocks := B.notSynchronized
  subst hsz
  have hD := hD0.self (sz := s.heap.size)
  generalize hAe : va_A (cB g qV vV) s.heap.size = A at hD hG ⊢
  have hA : ∀ q : Nat, s.heap.size ≤ q → A q := fun q h => by rw [← hAe]; exact Or.inr h
  clear hAe hD0
  have hS : va_S A s.heap s.heap [] := va_S.rf
  have hl := lv_entry ([.ref (adK g i0), .ref qV, .int x2, .int x3]) (n := 4) (Nat.le_of_ble_eq_true rfl)
  rw [lg_entry_eq]
  generalize (lg_sl ([.ref (adK g i0), .ref qV, .int x2, .int x3]) ++ List.replicate (4 - (lg_sl ([.ref (adK g i0), .ref qV, .int x2, .int x3])).length) Slot.unset).toArray = ls at hl ⊢
  have hl : lv_has ls 4 [(0, .ref (adK g i0)), (1, .ref qV), (2, .int x2), (3, .int x3)] := hl
  have htu : ∀ w ∈ UW, w.before _ s = true := fun w h => hts w (List.mem_cons_of_mem _ h)
  have k_5_148 := htu _ mw_5_148
  have k_5_61 := htu _ mw_5_61
  have k_3_64 := htu _ mw_3_64
  have k_3_63 := htu _ mw_3_63
  have k_1_9 := htu _ mw_1_9
  unfold f_J0_getBytes_840e7_k at hf
  obtain ⟨H, hH⟩ : ∃ z, z = s.heap := ⟨_, rfl⟩
  obtain ⟨locs, hlo⟩ : ∃ z : List Loc, z = [] := ⟨_, rfl⟩
  have hS : va_S A s.heap H locs := by rw [hH, hlo]; exact hS
  rw [← hH] at hP
  have hW : W p l e (headSpec wsJ0_getBytes_840e7 rmJ0_getBytes_840e7_k).room s m ([.ref (adK g i0), .ref qV, .int x2, .int x3] : List Value).toArray below meth c H locs 0 0 (MQ below (qG g A (fun (u : Nat → Nat) => cB g qV vV1) (fun (u : Nat → Nat) => (fun _ => none) u)) ([.ref (adK g i0), .ref qV, .int x2, .int x3] : List Value).toArray s 0 0 A) (F0 m 0 ls []) := by
    refine lv_aload_n hx hb dJ0_getBytes_840e7_0 rfl (lv_at hl 0 rfl) ?_
    obtain ⟨r1, hg2, hf⟩ := o1_at hf
    have hpm : (cB g qV vV).Perm ((([] : va_W)) ++ (cB g qV vV)) := (kpc (fun P => by first | omega | (simp only [List.countP_append, List.countP_nil] <;> omega)))
    refine k_G (wc := ([] : va_W)) (wr := cB g qV vV) (w1 := fun (u : Nat → Nat) => ([] : va_W)) (rv := fun (u : Nat → Nat) => (fun _ => some (.int r1)) u) hP hD hS hA hpm (va_runV (As := []) (rest := []) ⟨hx, hb, hml, hown, htu⟩ ((c_J0_coder_7d493 l g i0 hi0 r1 hg2) H.size) (cwV 0 htu (gU_V mw_3_157 hcJ0_coder_7d493) rfl rfl rfl hdJ0_coder_7d493 ⟨Nat.le_of_ble_eq_true rfl, Nat.le_of_ble_eq_true rfl⟩) (k_preV hK hP hD hS hA hG hpm (vk_recv hG.2.2.1 hi0 hS)) rfl rfl hl.1 rfl (lv_room (Nat.le_of_ble_eq_true rfl)) dJ0_getBytes_840e7_1 ⟨Nat.zero_le _, Nat.zero_le _⟩) hQ_I (fun u4 H locs hP hD hS => ?_)
    refine W.eq (g2 := F0 m 4 ls [.int r1]) rfl ?_
    have hP : va_P g.1 vwCl ((([] : va_W)) ++ (cB g qV vV)) H := hP
    have hD : va_D A ((([] : va_W)) ++ (cB g qV vV)) := hD
    have hP : va_P g.1 vwCl (cB g qV vV) H := hP.perm (kpc (fun P => by first | omega | (simp only [List.countP_append, List.countP_nil] <;> omega)))
    have hD : va_D A (cB g qV vV) := hD.perm (kpc (fun P => by first | omega | (simp only [List.countP_append, List.countP_nil] <;> omega)))
    refine lv_iload_n hx hb dJ0_getBytes_840e7_4 rfl (lv_at hl 3 rfl) ?_
    obtain ⟨k6, hk9, hf⟩ := jn_at hf
    have hJ7 : ∀ (vV_5 : Vs), k6 vV_5 = some vV1 → ∀ (H : Heap) (locs : List Loc), va_P g.1 vwCl (cB g qV vV_5) H → va_D A (cB g qV vV_5) → va_S A s.heap H locs → ∀ ls : Array Slot, lv_has ls 4 [] → W p l e (headSpec wsJ0_getBytes_840e7 rmJ0_getBytes_840e7_k).room s m ([.ref (adK g i0), .ref qV, .int x2, .int x3] : List Value).toArray below meth c H locs 0 0 (MQ below (qG g A (fun (u : Nat → Nat) => cB g qV vV1) (fun (u : Nat → Nat) => (fun _ => none) u)) ([.ref (adK g i0), .ref qV, .int x2, .int x3] : List Value).toArray s 0 0 A) (F0 m 43 ls []) := by
      intro vV_5 hf H locs hP hD hS ls hl
      rw [hk9] at hf
      dsimp only at hf
      clear hk9
      have e8 := Option.some.inj hf
      rw [e8] at hP hD
      exact k_Gvret (w1 := fun (u : Nat → Nat) => cB g qV vV1) (rv := fun (u : Nat → Nat) => (fun _ => none) u) (u := (fun i => 0)) hx hb hr hlocks hK hP hD hS rfl dJ0_getBytes_840e7_43
    refine lv_icmp_ne (tgt := 28) hx hb dJ0_getBytes_840e7_5 (by decide) (fun c10 => ?_) (fun c10 => ?_)
    · have hf := it_f hf c10
      cases hf
    · have hf := it_t hf c10
      refine lv_aload_n hx hb dJ0_getBytes_840e7_8 rfl (lv_at hl 0 rfl) ?_
      refine vk_getf (v := .ref (adV g i0)) hx hb (hG.2.2.1.1 i0 hi0).2.2.1 hS hown k_5_148 (fun _ h9 => h9) dJ0_getBytes_840e7_9 ?_
      refine lv_iconst (v := (0 : Int32)) hx hb dJ0_getBytes_840e7_12 (by decide) ?_
      refine lv_aload_n hx hb dJ0_getBytes_840e7_13 rfl (lv_at hl 1 rfl) ?_
      refine lv_iload_n hx hb dJ0_getBytes_840e7_14 rfl (lv_at hl 2 rfl) ?_
      refine lv_iload_n hx hb dJ0_getBytes_840e7_15 rfl (lv_at hl 3 rfl) ?_
      refine lv_ishl hx hb dJ0_getBytes_840e7_16 ?_
      refine lv_aload_n hx hb dJ0_getBytes_840e7_17 rfl (lv_at hl 0 rfl) ?_
      refine vk_getf (v := .ref (adV g i0)) hx hb (hG.2.2.1.1 i0 hi0).2.2.1 hS hown k_5_148 (fun _ h9 => h9) dJ0_getBytes_840e7_18 ?_
      refine va_tlen (v := (Int32.ofNat (lenS.getD i0 0))) hx hb (hG.2.2.1.1 i0 hi0).2.2.2 hS rfl dJ0_getBytes_840e7_21 ?_
      obtain ⟨h11, hf⟩ := gd_at hf
      rw [Bool.and_eq_true] at h11
      obtain ⟨h11a, h11b, h11c, h11d, h11e⟩ := of_decide_eq_true h11.1
      refine vk_copyt (D := g.1) (f := (fun j => (bytS.getD i0 []).getD j 0)) (g := (vV.2.1 0)) hx hb (hml.trans hl.1.symm) hown k_5_61 k_3_64 k_3_63 k_1_9 hK hP hD hS (hG.2.2.1.1 i0 hi0).2.2.2 0 4 rfl rfl h11a h11b h11c h11d h11e (fitA_at h11.2) (Nat.le_of_ble_eq_true rfl) (Nat.le_of_ble_eq_true rfl) dJ0_getBytes_840e7_22 (fun H locs hP hD hS => ?_)
      obtain ⟨vV_12, evV_12⟩ : ∃ z : Vs, z = sA vV 0 (va_cpy (fun j => (bytS.getD i0 []).getD j 0) (vV.2.1 0) ((0 : Int32)).toNatClampNeg ((x2 <<< (x3 &&& 31))).toNatClampNeg ((Int32.ofNat (lenS.getD i0 0))).toNatClampNeg) := ⟨_, rfl⟩
      have hf := bn_at hf evV_12
      have hP : va_P g.1 vwCl (cB g qV vV_12) H := by rw [evV_12]; exact hP
      have hD : va_D A (cB g qV vV_12) := by rw [evV_12]; exact hD
      refine lv_goto (tgt := 43) hx hb dJ0_getBytes_840e7_25 (by decide) ?_
      exact hJ7 vV_12 hf H locs hP hD hS _ (lv_sub hl [] rfl)
  rw [hH, hlo] at hW
  exact hW
def f_J0_getBytes_840e7_d (vV : Vs) (vZ : Vs) (vY : Vs) (x2 : Int32) (x3 : Int32) : Option (Vs) :=
  o1 (f_J0_coder_7d493_d vZ vY) (fun (r1 : Int32) => jn (fun (vV_5 : Vs) => some (vV_5)) (fun k6 => if r1 = x3 then gd (decide (¬ (0 : Int32) < 0 ∧ ¬ (x2 <<< (x3 &&& 31)) < 0 ∧ ¬ (nI (vY.1 9).toNatClampNeg) < 0 ∧ ((0 : Int32)).toNatClampNeg + ((nI (vY.1 9).toNatClampNeg)).toNatClampNeg ≤ (vY.1 9).toNatClampNeg ∧ ((x2 <<< (x3 &&& 31))).toNatClampNeg + ((nI (vY.1 9).toNatClampNeg)).toNatClampNeg ≤ (vV.1 9).toNatClampNeg) && fitA (vY.2.1 0) ((0 : Int32)).toNatClampNeg ((nI (vY.1 9).toNatClampNeg)).toNatClampNeg) (bn (sA vV 0 (va_cpy (vY.2.1 0) (vV.2.1 0) ((0 : Int32)).toNatClampNeg ((x2 <<< (x3 &&& 31))).toNatClampNeg ((nI (vY.1 9).toNatClampNeg)).toNatClampNeg)) (fun (vV_12 : Vs) => k6 vV_12)) else none))
abbrev rmJ0_getBytes_840e7_d : Room := { frames := 2, cells := 0, slots := 0, locals := 90 }
set_option maxHeartbeats 4000000 in
set_option maxRecDepth 100000 in
theorem c_J0_getBytes_840e7_d (l : Launch) (g : Gx) (qV : Nat) (vV : Vs) (aZ : Nat) (vZ : Vs) (qY : Nat) (vY : Vs) (x2 : Int32) (x3 : Int32) (vV1 : Vs) (hf : f_J0_getBytes_840e7_d vV vZ vY x2 x3 = some vV1) : CtG l yJ0_getBytes_840e7 wsJ0_getBytes_840e7 rmJ0_getBytes_840e7_d g [.ref aZ, .ref qV, .int x2, .int x3] (cB g qV vV ++ (cZ g aZ (.ref qY) vZ ++ (cB g qY vY))) (fun (u : Nat → Nat) => cB g qV vV1 ++ (cZ g aZ (.ref qY) vZ ++ (cB g qY vY))) (fun (u : Nat → Nat) => (fun _ => none) u) 0 0 := by
  unfold CtG
  intro sz
  refine Met.ofW (cc := cJ0_getBytes_840e7) (maxL := 4) (ret := none) (by decide) rfl ?_
  intro p e s m args below meth c s₁ B hml hv
  obtain ⟨rfl, hsz, hP, hK, hD0, hG⟩ := hv
  have hx := B.exec
  have hb := B.bytes
  have hr := B.returns
  have hts := atoms_spec (ws := wsJ0_getBytes_840e7) B.pre
  have hown : s.vm.findClass RJ0 = some m.cls := findClass_of_methodNamed B.named
  have hlocks := B.notSynchronized
  subst hsz
  have hD := hD0.self (sz := s.heap.size)
  generalize hAe : va_A (cB g qV vV ++ (cZ g aZ (.ref qY) vZ ++ (cB g qY vY))) s.heap.size = A at hD hG ⊢
  have hA : ∀ q : Nat, s.heap.size ≤ q → A q := fun q h => by rw [← hAe]; exact Or.inr h
  clear hAe hD0
  have hS : va_S A s.heap s.heap [] := va_S.rf
  have hl := lv_entry ([.ref aZ, .ref qV, .int x2, .int x3]) (n := 4) (Nat.le_of_ble_eq_true rfl)
  rw [lg_entry_eq]
  generalize (lg_sl ([.ref aZ, .ref qV, .int x2, .int x3]) ++ List.replicate (4 - (lg_sl ([.ref aZ, .ref qV, .int x2, .int x3])).length) Slot.unset).toArray = ls at hl ⊢
  have hl : lv_has ls 4 [(0, .ref aZ), (1, .ref qV), (2, .int x2), (3, .int x3)] := hl
  have htu : ∀ w ∈ UW, w.before _ s = true := fun w h => hts w (List.mem_cons_of_mem _ h)
  have k_5_148 := htu _ mw_5_148
  have k_5_61 := htu _ mw_5_61
  have k_3_64 := htu _ mw_3_64
  have k_3_63 := htu _ mw_3_63
  have k_1_9 := htu _ mw_1_9
  unfold f_J0_getBytes_840e7_d at hf
  obtain ⟨H, hH⟩ : ∃ z, z = s.heap := ⟨_, rfl⟩
  obtain ⟨locs, hlo⟩ : ∃ z : List Loc, z = [] := ⟨_, rfl⟩
  have hS : va_S A s.heap H locs := by rw [hH, hlo]; exact hS
  rw [← hH] at hP
  have hW : W p l e (headSpec wsJ0_getBytes_840e7 rmJ0_getBytes_840e7_d).room s m ([.ref aZ, .ref qV, .int x2, .int x3] : List Value).toArray below meth c H locs 0 0 (MQ below (qG g A (fun (u : Nat → Nat) => cB g qV vV1 ++ (cZ g aZ (.ref qY) vZ ++ (cB g qY vY))) (fun (u : Nat → Nat) => (fun _ => none) u)) ([.ref aZ, .ref qV, .int x2, .int x3] : List Value).toArray s 0 0 A) (F0 m 0 ls []) := by
    refine lv_aload_n hx hb dJ0_getBytes_840e7_0 rfl (lv_at hl 0 rfl) ?_
    obtain ⟨r1, hg2, hf⟩ := o1_at hf
    have hpm : (cB g qV vV ++ (cZ g aZ (.ref qY) vZ ++ (cB g qY vY))).Perm ((cZ g aZ (.ref qY) vZ ++ (cB g qY vY)) ++ (cB g qV vV)) := (kpc (fun P => by first | omega | (simp only [List.countP_append, List.countP_nil] <;> omega)))
    refine k_G (wc := cZ g aZ (.ref qY) vZ ++ (cB g qY vY)) (wr := cB g qV vV) (w1 := fun (u : Nat → Nat) => cZ g aZ (.ref qY) vZ ++ (cB g qY vY)) (rv := fun (u : Nat → Nat) => (fun _ => some (.int r1)) u) hP hD hS hA hpm (va_runV (As := []) (rest := []) ⟨hx, hb, hml, hown, htu⟩ ((c_J0_coder_7d493_d l g aZ vZ qY vY r1 hg2) H.size) (cwV 0 htu (gU_V mw_3_157 hcJ0_coder_7d493) rfl rfl rfl hdJ0_coder_7d493 ⟨Nat.le_of_ble_eq_true rfl, Nat.le_of_ble_eq_true rfl⟩) (k_preV (C := RJ0) hK hP hD hS hA hG hpm (va_recv (ci := 9) (q0 := 1) (fs := fcU (.ref qY) vZ) (q := (RJ0, TJ0, 4)) hK hP rfl rfl)) rfl rfl hl.1 rfl (lv_room (Nat.le_of_ble_eq_true rfl)) dJ0_getBytes_840e7_1 ⟨Nat.zero_le _, Nat.zero_le _⟩) hQ_G (fun u4 H locs hP hD hS => ?_)
    refine W.eq (g2 := F0 m 4 ls [.int r1]) rfl ?_
    have hP : va_P g.1 vwCl ((cZ g aZ (.ref qY) vZ ++ (cB g qY vY)) ++ (cB g qV vV)) H := hP
    have hD : va_D A ((cZ g aZ (.ref qY) vZ ++ (cB g qY vY)) ++ (cB g qV vV)) := hD
    have hP : va_P g.1 vwCl (cZ g aZ (.ref qY) vZ ++ (cB g qY vY ++ (cB g qV vV))) H := hP.perm (kpc (fun P => by first | omega | (simp only [List.countP_append, List.countP_nil] <;> omega)))
    have hD : va_D A (cZ g aZ (.ref qY) vZ ++ (cB g qY vY ++ (cB g qV vV))) := hD.perm (kpc (fun P => by first | omega | (simp only [List.countP_append, List.countP_nil] <;> omega)))
    refine lv_iload_n hx hb dJ0_getBytes_840e7_4 rfl (lv_at hl 3 rfl) ?_
    obtain ⟨k6, hk9, hf⟩ := jn_at hf
    have hJ7 : ∀ (vV_5 : Vs), k6 vV_5 = some vV1 → ∀ (H : Heap) (locs : List Loc), va_P g.1 vwCl (cZ g aZ (.ref qY) vZ ++ (cB g qY vY ++ (cB g qV vV_5))) H → va_D A (cZ g aZ (.ref qY) vZ ++ (cB g qY vY ++ (cB g qV vV_5))) → va_S A s.heap H locs → ∀ ls : Array Slot, lv_has ls 4 [] → W p l e (headSpec wsJ0_getBytes_840e7 rmJ0_getBytes_840e7_d).room s m ([.ref aZ, .ref qV, .int x2, .int x3] : List Value).toArray below meth c H locs 0 0 (MQ below (qG g A (fun (u : Nat → Nat) => cB g qV vV1 ++ (cZ g aZ (.ref qY) vZ ++ (cB g qY vY))) (fun (u : Nat → Nat) => (fun _ => none) u)) ([.ref aZ, .ref qV, .int x2, .int x3] : List Value).toArray s 0 0 A) (F0 m 43 ls []) := by
      intro vV_5 hf H locs hP hD hS ls hl
      rw [hk9] at hf
      dsimp only at hf
      clear hk9
      have hP : va_P g.1 vwCl (cB g qV vV_5 ++ (cZ g aZ (.ref qY) vZ ++ (cB g qY vY))) H := k_dropP hP (w3 := ([] : va_W)) (kpc (fun P => by first | omega | (simp only [List.countP_append, List.countP_nil] <;> omega)))
      have hD : va_D A (cB g qV vV_5 ++ (cZ g aZ (.ref qY) vZ ++ (cB g qY vY))) := k_dropD hD (w3 := ([] : va_W)) (kpc (fun P => by first | omega | (simp only [List.countP_append, List.countP_nil] <;> omega)))
      have e8 := Option.some.inj hf
      rw [e8] at hP hD
      exact k_Gvret (w1 := fun (u : Nat → Nat) => cB g qV vV1 ++ (cZ g aZ (.ref qY) vZ ++ (cB g qY vY))) (rv := fun (u : Nat → Nat) => (fun _ => none) u) (u := (fun i => 0)) hx hb hr hlocks hK hP hD hS rfl dJ0_getBytes_840e7_43
    refine lv_icmp_ne (tgt := 28) hx hb dJ0_getBytes_840e7_5 (by decide) (fun c10 => ?_) (fun c10 => ?_)
    · have hf := it_f hf c10
      cases hf
    · have hf := it_t hf c10
      refine lv_aload_n hx hb dJ0_getBytes_840e7_8 rfl (lv_at hl 0 rfl) ?_
      refine va_get (D := g.1) (ci := 9) (fs := fcU (.ref qY) vZ) (v := .ref qY) (C := RJ0) (T := TJ0) (N := 4) hx hb htu hinJ0 hown hK hP 0 rfl rfl 0 (by decide) k_5_148 (fun x9 h9 => h9) rfl dJ0_getBytes_840e7_9 ?_
      refine lv_iconst (v := (0 : Int32)) hx hb dJ0_getBytes_840e7_12 (by decide) ?_
      refine lv_aload_n hx hb dJ0_getBytes_840e7_13 rfl (lv_at hl 1 rfl) ?_
      refine lv_iload_n hx hb dJ0_getBytes_840e7_14 rfl (lv_at hl 2 rfl) ?_
      refine lv_iload_n hx hb dJ0_getBytes_840e7_15 rfl (lv_at hl 3 rfl) ?_
      refine lv_ishl hx hb dJ0_getBytes_840e7_16 ?_
      refine lv_aload_n hx hb dJ0_getBytes_840e7_17 rfl (lv_at hl 0 rfl) ?_
      refine va_get (D := g.1) (ci := 9) (fs := fcU (.ref qY) vZ) (v := .ref qY) (C := RJ0) (T := TJ0) (N := 4) hx hb htu hinJ0 hown hK hP 0 rfl rfl 0 (by decide) k_5_148 (fun x9 h9 => h9) rfl dJ0_getBytes_840e7_18 ?_
      refine va_alen (D := g.1) (v := (nI (vY.1 9).toNatClampNeg)) (ty := .byte) hx hb hK hP 1 4 rfl rfl rfl dJ0_getBytes_840e7_21 ?_
      obtain ⟨h11, hf⟩ := gd_at hf
      rw [Bool.and_eq_true] at h11
      obtain ⟨h11a, h11b, h11c, h11d, h11e⟩ := of_decide_eq_true h11.1
      refine va_copyi (D := g.1) (f := (vY.2.1 0)) (g := (vV.2.1 0)) (ty := .byte) hx hb (hml.trans hl.1.symm) hown k_5_61 k_3_64 k_3_63 k_1_9 hK hP hD hS 1 2 4 4 rfl rfl rfl rfl rfl h11a h11b h11c h11d h11e (fitA_at h11.2) (Nat.le_of_ble_eq_true rfl) (Nat.le_of_ble_eq_true rfl) dJ0_getBytes_840e7_22 (fun H locs hP hD hS => ?_)
      obtain ⟨vV_12, evV_12⟩ : ∃ z : Vs, z = sA vV 0 (va_cpy (vY.2.1 0) (vV.2.1 0) ((0 : Int32)).toNatClampNeg ((x2 <<< (x3 &&& 31))).toNatClampNeg ((nI (vY.1 9).toNatClampNeg)).toNatClampNeg) := ⟨_, rfl⟩
      have hf := bn_at hf evV_12
      have hP : va_P g.1 vwCl (cZ g aZ (.ref qY) vZ ++ (cB g qY vY ++ (cB g qV vV_12))) H := by rw [evV_12]; exact hP
      have hD : va_D A (cZ g aZ (.ref qY) vZ ++ (cB g qY vY ++ (cB g qV vV_12))) := by rw [evV_12]; exact hD
      refine lv_goto (tgt := 43) hx hb dJ0_getBytes_840e7_25 (by decide) ?_
      exact hJ7 vV_12 hf H locs hP hD hS _ (lv_sub hl [] rfl)
  rw [hH, hlo] at hW
  exact hW
