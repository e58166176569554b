def f_J5_isLatin1_aae02 (vU : Vs) (vV : Vs) : Option (Int32) :=
  jn (fun (t1 : Int32) => gd (isB t1) (some (t1))) (fun k2 => jn (k2 (0 : Int32)) (fun k7 => if (1 : Int32) = 0 then k7 else if (vU.1 1) = 0 then k2 (1 : Int32) else k7))
abbrev wsJ5_isLatin1_aae02 : List Cond := .code yJ5_isLatin1_aae02 cJ5_isLatin1_aae02 1 (some .boolean) :: UW
abbrev rmJ5_isLatin1_aae02 : Room := { frames := 1, cells := 0, slots := 0, locals := 24 }
set_option maxHeartbeats 4000000 in
set_option maxRecDepth 100000 in
theorem c_J5_isLatin1_aae02 (l : Launch) (g : Gx) (aU : Nat) (vU : Vs) (qV : Nat) (vV : Vs) (r : Int32) (hf : f_J5_isLatin1_aae02 vU vV = some r) : CtG l yJ5_isLatin1_aae02 wsJ5_isLatin1_aae02 rmJ5_isLatin1_aae02 g [.ref aU] (cU g aU (.ref qV) vU ++ (cB g qV vV)) (fun (u : Nat → Nat) => cU g aU (.ref qV) vU ++ (cB g qV vV)) (fun (u : Nat → Nat) => (fun _ => some (.int r)) u) 0 0 := by
  unfold CtG
  intro sz
  refine Met.ofW (cc := cJ5_isLatin1_aae02) (maxL := 1) (ret := (some .boolean)) (by decide) rfl ?_
  intro p e s m args below meth c s₁ B hml hv
  obtain ⟨rfl, hsz, hP, hK, hD0, hG⟩ := hv
  have hx := B.exec
  have hb := B.bytes
  have hr := B.returns
  have hts := atoms_spec (ws := wsJ5_isLatin1_aae02) B.pre
  have hown : s.vm.findClass RJ5 = some m.cls := findClass_of_methodNamed B.named
  have hlocks := B.notSynchronized
  subst hsz
  have hD := hD0.self (sz := s.heap.size)
  generalize hAe : va_A (cU g aU (.ref qV) vU ++ (cB g qV vV)) s.heap.size = A at hD hG ⊢
  have hA : ∀ q : Nat, s.heap.size ≤ q → A q := fun q h => by rw [← hAe]; exact Or.inr h
  clear hAe hD0
  have hS : va_S A s.heap s.heap [] := va_S.rf
  have hl := lv_entry ([.ref aU]) (n := 1) (Nat.le_of_ble_eq_true rfl)
  rw [lg_entry_eq]
  generalize (lg_sl ([.ref aU]) ++ List.replicate (1 - (lg_sl ([.ref aU])).length) Slot.unset).toArray = ls at hl ⊢
  have hl : lv_has ls 1 [(0, .ref aU)] := hl
  have htu : ∀ w ∈ UW, w.before _ s = true := fun w h => hts w (List.mem_cons_of_mem _ h)
  have k_4_175 := htu _ mw_4_175
  have k_4_184 := htu _ mw_4_184
  unfold f_J5_isLatin1_aae02 at hf
  obtain ⟨H, hH⟩ : ∃ z, z = s.heap := ⟨_, rfl⟩
  obtain ⟨locs, hlo⟩ : ∃ z : List Loc, z = [] := ⟨_, rfl⟩
  have hS : va_S A s.heap H locs := by rw [hH, hlo]; exact hS
  rw [← hH] at hP
  have hW : W p l e (headSpec wsJ5_isLatin1_aae02 rmJ5_isLatin1_aae02).room s m ([.ref aU] : List Value).toArray below meth c H locs 0 0 (MQ below (qG g A (fun (u : Nat → Nat) => cU g aU (.ref qV) vU ++ (cB g qV vV)) (fun (u : Nat → Nat) => (fun _ => some (.int r)) u)) ([.ref aU] : List Value).toArray s 0 0 A) (F0 m 0 ls []) := by
    refine va_gets (v := .int 1) hx hb hG.2.2.2.1.1 hS hown k_4_175 (fun _ h9 => h9) dJ5_isLatin1_aae02_0 ?_
    obtain ⟨k2, hk6, hf⟩ := jn_at hf
    have hJ3 : ∀ (t1 : Int32), k2 t1 = some r → ∀ (H : Heap) (locs : List Loc), va_P g.1 vwCl (cU g aU (.ref qV) vU ++ (cB g qV vV)) H → va_D A (cU g aU (.ref qV) vU ++ (cB g qV vV)) → va_S A s.heap H locs → ∀ ls : Array Slot, lv_has ls 1 [] → W p l e (headSpec wsJ5_isLatin1_aae02 rmJ5_isLatin1_aae02).room s m ([.ref aU] : List Value).toArray below meth c H locs 0 0 (MQ below (qG g A (fun (u : Nat → Nat) => cU g aU (.ref qV) vU ++ (cB g qV vV)) (fun (u : Nat → Nat) => (fun _ => some (.int r)) u)) ([.ref aU] : List Value).toArray s 0 0 A) (F0 m 18 ls [.int t1]) := by
      intro t1 hf H locs hP hD hS ls hl
      rw [hk6] at hf
      dsimp only at hf
      clear hk6
      obtain ⟨h4, hf⟩ := gd_isB hf
      have e5 := Option.some.inj hf
      exact k_Gnret (w1 := fun (u : Nat → Nat) => cU g aU (.ref qV) vU ++ (cB g qV vV)) (rv := fun (u : Nat → Nat) => (fun _ => some (.int r)) u) (u := (fun i => 0)) hx hb hr hlocks hK hP hD hS rfl e5 (nar01 h4) dJ5_isLatin1_aae02_18
    obtain ⟨k7, hk9, hf⟩ := jn_at hf
    have hJ8 : k7 = some r → ∀ (H : Heap) (locs : List Loc), va_P g.1 vwCl (cU g aU (.ref qV) vU ++ (cB g qV vV)) H → va_D A (cU g aU (.ref qV) vU ++ (cB g qV vV)) → va_S A s.heap H locs → ∀ ls : Array Slot, lv_has ls 1 [] → W p l e (headSpec wsJ5_isLatin1_aae02 rmJ5_isLatin1_aae02).room s m ([.ref aU] : List Value).toArray below meth c H locs 0 0 (MQ below (qG g A (fun (u : Nat → Nat) => cU g aU (.ref qV) vU ++ (cB g qV vV)) (fun (u : Nat → Nat) => (fun _ => some (.int r)) u)) ([.ref aU] : List Value).toArray s 0 0 A) (F0 m 17 ls []) := by
      intro hf H locs hP hD hS ls hl
      rw [hk9] at hf
      clear hk9
      refine lv_iconst (v := (0 : Int32)) hx hb dJ5_isLatin1_aae02_17 (by decide) ?_
      exact hJ3 (0 : Int32) hf H locs hP hD hS _ (lv_sub hl [] rfl)
    refine lv_if_eq (tgt := 17) hx hb dJ5_isLatin1_aae02_3 (by decide) (fun c10 => ?_) (fun c10 => ?_)
    · have hf := it_t hf c10
      exact hJ8 hf H locs hP hD hS _ (lv_sub hl [] rfl)
    · have hf := it_f hf c10
      refine lv_aload_n hx hb dJ5_isLatin1_aae02_6 rfl (lv_at hl 0 rfl) ?_
      refine va_get (D := g.1) (ci := 10) (fs := fcU (.ref qV) vU) (v := .int (vU.1 1)) (C := RJ4) (T := TJ4) (N := 4) hx hb htu hinJ4 hown hK hP 0 rfl rfl 1 (by decide) k_4_184 (fun x9 h9 => h9) rfl dJ5_isLatin1_aae02_7 ?_
      refine lv_if_ne (tgt := 17) hx hb dJ5_isLatin1_aae02_10 (by decide) (fun c11 => ?_) (fun c11 => ?_)
      · have hf := it_f hf c11
        exact hJ8 hf H locs hP hD hS _ (lv_sub hl [] rfl)
      · have hf := it_t hf c11
        refine lv_iconst (v := (1 : Int32)) hx hb dJ5_isLatin1_aae02_13 (by decide) ?_
        refine lv_goto (tgt := 18) hx hb dJ5_isLatin1_aae02_14 (by decide) ?_
        exact hJ3 (1 : Int32) hf H locs hP hD hS _ (lv_sub hl [] rfl)
  rw [hH, hlo] at hW
  exact hW
def f_J5_getValue_6d5f1 (vU : Vs) (vV : Vs) : Option (Unit) :=
  some ()
abbrev wsJ5_getValue_6d5f1 : List Cond := .code yJ5_getValue_6d5f1 cJ5_getValue_6d5f1 1 (some (.array .byte)) :: UW
abbrev rmJ5_getValue_6d5f1 : Room := { frames := 1, cells := 0, slots := 0, locals := 24 }
set_option maxHeartbeats 4000000 in
set_option maxRecDepth 100000 in
theorem c_J5_getValue_6d5f1 (l : Launch) (g : Gx) (aU : Nat) (vU : Vs) (qV : Nat) (vV : Vs) (hf : f_J5_getValue_6d5f1 vU vV = some ()) : CtG l yJ5_getValue_6d5f1 wsJ5_getValue_6d5f1 rmJ5_getValue_6d5f1 g [.ref aU] (cU g aU (.ref qV) vU ++ (cB g qV vV)) (fun (u : Nat → Nat) => cU g aU (.ref qV) vU ++ (cB g qV vV)) (fun (u : Nat → Nat) => (fun u => some (.ref qV)) u) 0 0 := by
  unfold CtG
  intro sz
  refine Met.ofW (cc := cJ5_getValue_6d5f1) (maxL := 1) (ret := (some (.array .byte))) (by decide) rfl ?_
  intro p e s m args below meth c s₁ B hml hv
  obtain ⟨rfl, hsz, hP, hK, hD0, hG⟩ := hv
  have hx := B.exec
  have hb := B.bytes
  have hr := B.returns
  have hts := atoms_spec (ws := wsJ5_getValue_6d5f1) B.pre
  have hown : s.vm.findClass RJ5 = some m.cls := findClass_of_methodNamed B.named
  have hlocks := B.notSynchronized
  subst hsz
  have hD := hD0.self (sz := s.heap.size)
  generalize hAe : va_A (cU g aU (.ref qV) vU ++ (cB g qV vV)) s.heap.size = A at hD hG ⊢
  have hA : ∀ q : Nat, s.heap.size ≤ q → A q := fun q h => by rw [← hAe]; exact Or.inr h
  clear hAe hD0
  have hS : va_S A s.heap s.heap [] := va_S.rf
  have hl := lv_entry ([.ref aU]) (n := 1) (Nat.le_of_ble_eq_true rfl)
  rw [lg_entry_eq]
  generalize (lg_sl ([.ref aU]) ++ List.replicate (1 - (lg_sl ([.ref aU])).length) Slot.unset).toArray = ls at hl ⊢
  have hl : lv_has ls 1 [(0, .ref aU)] := hl
  have htu : ∀ w ∈ UW, w.before _ s = true := fun w h => hts w (List.mem_cons_of_mem _ h)
  have k_4_183 := htu _ mw_4_183
  unfold f_J5_getValue_6d5f1 at hf
  obtain ⟨H, hH⟩ : ∃ z, z = s.heap := ⟨_, rfl⟩
  obtain ⟨locs, hlo⟩ : ∃ z : List Loc, z = [] := ⟨_, rfl⟩
  have hS : va_S A s.heap H locs := by rw [hH, hlo]; exact hS
  rw [← hH] at hP
  have hW : W p l e (headSpec wsJ5_getValue_6d5f1 rmJ5_getValue_6d5f1).room s m ([.ref aU] : List Value).toArray below meth c H locs 0 0 (MQ below (qG g A (fun (u : Nat → Nat) => cU g aU (.ref qV) vU ++ (cB g qV vV)) (fun (u : Nat → Nat) => (fun u => some (.ref qV)) u)) ([.ref aU] : List Value).toArray s 0 0 A) (F0 m 0 ls []) := by
    refine lv_aload_n hx hb dJ5_getValue_6d5f1_0 rfl (lv_at hl 0 rfl) ?_
    refine va_get (D := g.1) (ci := 10) (fs := fcU (.ref qV) vU) (v := .ref qV) (C := RJ4) (T := TJ4) (N := 4) hx hb htu hinJ4 hown hK hP 0 rfl rfl 0 (by decide) k_4_183 (fun x9 h9 => h9) rfl dJ5_getValue_6d5f1_1 ?_
    exact k_Garet (w1 := fun (u : Nat → Nat) => cU g aU (.ref qV) vU ++ (cB g qV vV)) (rv := fun (u : Nat → Nat) => (fun u => some (.ref qV)) u) (u := (fun i => 0)) hx hb hr (Or.inr ⟨_, rfl⟩) hlocks hK hP hD hS rfl dJ5_getValue_6d5f1_4
  rw [hH, hlo] at hW
  exact hW
def f_J5_length_8abf5 (vU : Vs) (vV : Vs) : Option (Int32) :=
  some ((vU.1 3))
abbrev wsJ5_length_8abf5 : List Cond := .code yJ5_length_8abf5 cJ5_length_8abf5 1 (some .int) :: UW
abbrev rmJ5_length_8abf5 : Room := { frames := 1, cells := 0, slots := 0, locals := 24 }
set_option maxHeartbeats 4000000 in
set_option maxRecDepth 100000 in
theorem c_J5_length_8abf5 (l : Launch) (g : Gx) (aU : Nat) (vU : Vs) (qV : Nat) (vV : Vs) (r : Int32) (hf : f_J5_length_8abf5 vU vV = some r) : CtG l yJ5_length_8abf5 wsJ5_length_8abf5 rmJ5_length_8abf5 g [.ref aU] (cU g aU (.ref qV) vU ++ (cB g qV vV)) (fun (u : Nat → Nat) => cU g aU (.ref qV) vU ++ (cB g qV vV)) (fun (u : Nat → Nat) => (fun _ => some (.int r)) u) 0 0 := by
  unfold CtG
  intro sz
  refine Met.ofW (cc := cJ5_length_8abf5) (maxL := 1) (ret := (some .int)) (by decide) rfl ?_
  intro p e s m args below meth c s₁ B hml hv
  obtain ⟨rfl, hsz, hP, hK, hD0, hG⟩ := hv
  have hx := B.exec
  have hb := B.bytes
  have hr := B.returns
  have hts := atoms_spec (ws := wsJ5_length_8abf5) B.pre
  have hown : s.vm.findClass RJ5 = some m.cls := findClass_of_methodNamed B.named
  have hlocks := B.notSynchronized
  subst hsz
  have hD := hD0.self (sz := s.heap.size)
  generalize hAe : va_A (cU g aU (.ref qV) vU ++ (cB g qV vV)) s.heap.size = A at hD hG ⊢
  have hA : ∀ q : Nat, s.heap.size ≤ q → A q := fun q h => by rw [← hAe]; exact Or.inr h
  clear hAe hD0
  have hS : va_S A s.heap s.heap [] := va_S.rf
  have hl := lv_entry ([.ref aU]) (n := 1) (Nat.le_of_ble_eq_true rfl)
  rw [lg_entry_eq]
  generalize (lg_sl ([.ref aU]) ++ List.replicate (1 - (lg_sl ([.ref aU])).length) Slot.unset).toArray = ls at hl ⊢
  have hl : lv_has ls 1 [(0, .ref aU)] := hl
  have htu : ∀ w ∈ UW, w.before _ s = true := fun w h => hts w (List.mem_cons_of_mem _ h)
  have k_4_186 := htu _ mw_4_186
  unfold f_J5_length_8abf5 at hf
  obtain ⟨H, hH⟩ : ∃ z, z = s.heap := ⟨_, rfl⟩
  obtain ⟨locs, hlo⟩ : ∃ z : List Loc, z = [] := ⟨_, rfl⟩
  have hS : va_S A s.heap H locs := by rw [hH, hlo]; exact hS
  rw [← hH] at hP
  have hW : W p l e (headSpec wsJ5_length_8abf5 rmJ5_length_8abf5).room s m ([.ref aU] : List Value).toArray below meth c H locs 0 0 (MQ below (qG g A (fun (u : Nat → Nat) => cU g aU (.ref qV) vU ++ (cB g qV vV)) (fun (u : Nat → Nat) => (fun _ => some (.int r)) u)) ([.ref aU] : List Value).toArray s 0 0 A) (F0 m 0 ls []) := by
    refine lv_aload_n hx hb dJ5_length_8abf5_0 rfl (lv_at hl 0 rfl) ?_
    refine va_get (D := g.1) (ci := 10) (fs := fcU (.ref qV) vU) (v := .int (vU.1 3)) (C := RJ4) (T := TJ4) (N := 4) hx hb htu hinJ4 hown hK hP 0 rfl rfl 3 (by decide) k_4_186 (fun x9 h9 => h9) rfl dJ5_length_8abf5_1 ?_
    have e1 := Option.some.inj hf
    exact k_Giret (w1 := fun (u : Nat → Nat) => cU g aU (.ref qV) vU ++ (cB g qV vV)) (rv := fun (u : Nat → Nat) => (fun _ => some (.int r)) u) (u := (fun i => 0)) hx hb hr hlocks hK hP hD hS rfl e1 dJ5_length_8abf5_4
  rw [hH, hlo] at hW
  exact hW
def f_J4_length_8abf5 (vU : Vs) (vV : Vs) : Option (Int32) :=
  o1 (f_J5_length_8abf5 vU vV) (fun (r1 : Int32) => some (r1))
abbrev wsJ4_length_8abf5 : List Cond := .code yJ4_length_8abf5 cJ4_length_8abf5 1 (some .int) :: UW
abbrev rmJ4_length_8abf5 : Room := { frames := 2, cells := 0, slots := 0, locals := 44 }
set_option maxHeartbeats 4000000 in
set_option maxRecDepth 100000 in
theorem c_J4_length_8abf5 (l : Launch) (g : Gx) (aU : Nat) (vU : Vs) (qV : Nat) (vV : Vs) (r : Int32) (hf : f_J4_length_8abf5 vU vV = some r) : CtG l yJ4_length_8abf5 wsJ4_length_8abf5 rmJ4_length_8abf5 g [.ref aU] (cU g aU (.ref qV) vU ++ (cB g qV vV)) (fun (u : Nat → Nat) => cU g aU (.ref qV) vU ++ (cB g qV vV)) (fun (u : Nat → Nat) => (fun _ => some (.int r)) u) 0 0 := by
  unfold CtG
  intro sz
  refine Met.ofW (cc := cJ4_length_8abf5) (maxL := 1) (ret := (some .int)) (by decide) rfl ?_
  intro p e s m args below meth c s₁ B hml hv
  obtain ⟨rfl, hsz, hP, hK, hD0, hG⟩ := hv
  have hx := B.exec
  have hb := B.bytes
  have hr := B.returns
  have hts := atoms_spec (ws := wsJ4_length_8abf5) B.pre
  have hown : s.vm.findClass RJ4 = some m.cls := findClass_of_methodNamed B.named
  have hlocks := B.notSynchronized
  subst hsz
  have hD := hD0.self (sz := s.heap.size)
  generalize hAe : va_A (cU g aU (.ref qV) vU ++ (cB g qV vV)) s.heap.size = A at hD hG ⊢
  have hA : ∀ q : Nat, s.heap.size ≤ q → A q := fun q h => by rw [← hAe]; exact Or.inr h
  clear hAe hD0
  have hS : va_S A s.heap s.heap [] := va_S.rf
  have hl := lv_entry ([.ref aU]) (n := 1) (Nat.le_of_ble_eq_true rfl)
  rw [lg_entry_eq]
  generalize (lg_sl ([.ref aU]) ++ List.replicate (1 - (lg_sl ([.ref aU])).length) Slot.unset).toArray = ls at hl ⊢
  have hl : lv_has ls 1 [(0, .ref aU)] := hl
  have htu : ∀ w ∈ UW, w.before _ s = true := fun w h => hts w (List.mem_cons_of_mem _ h)
  unfold f_J4_length_8abf5 at hf
  obtain ⟨H, hH⟩ : ∃ z, z = s.heap := ⟨_, rfl⟩
  obtain ⟨locs, hlo⟩ : ∃ z : List Loc, z = [] := ⟨_, rfl⟩
  have hS : va_S A s.heap H locs := by rw [hH, hlo]; exact hS
  rw [← hH] at hP
  have hW : W p l e (headSpec wsJ4_length_8abf5 rmJ4_length_8abf5).room s m ([.ref aU] : List Value).toArray below meth c H locs 0 0 (MQ below (qG g A (fun (u : Nat → Nat) => cU g aU (.ref qV) vU ++ (cB g qV vV)) (fun (u : Nat → Nat) => (fun _ => some (.int r)) u)) ([.ref aU] : List Value).toArray s 0 0 A) (F0 m 0 ls []) := by
    refine lv_aload_n hx hb dJ4_length_8abf5_0 rfl (lv_at hl 0 rfl) ?_
    obtain ⟨r1, hg2, hf⟩ := o1_at hf
    have hpm : (cU g aU (.ref qV) vU ++ (cB g qV vV)).Perm ((cU g aU (.ref qV) vU ++ (cB g qV vV)) ++ (([] : va_W))) := (kpc (fun P => by first | omega | (simp only [List.countP_append, List.countP_nil] <;> omega)))
    refine k_G (wc := cU g aU (.ref qV) vU ++ (cB g qV vV)) (wr := ([] : va_W)) (w1 := fun (u : Nat → Nat) => cU g aU (.ref qV) vU ++ (cB g qV vV)) (rv := fun (u : Nat → Nat) => (fun _ => some (.int r1)) u) hP hD hS hA hpm (va_runSU (C := RJ4) (hK.1 10 (RJ4, TJ4, 4) rfl).2 (As := []) (rest := []) ⟨hx, hb, hml, hown, htu⟩ ((c_J5_length_8abf5 l g aU vU qV vV r1 hg2) H.size) (va_cwSU 0 htu (gU_SU mw_5_126 mw_5_122 mw_4_195 mw_5_121 mw_1_2 mw_5_127) rfl rfl rfl (by decide +kernel) ⟨Nat.le_of_ble_eq_true rfl, Nat.le_of_ble_eq_true rfl⟩) (k_preV (C := RJ4) hK hP hD hS hA hG hpm (va_recv (ci := 10) (q0 := 0) (fs := fcU (.ref qV) vU) (q := (RJ4, TJ4, 4)) hK hP rfl rfl)) rfl rfl hl.1 rfl (lv_room (Nat.le_of_ble_eq_true rfl)) dJ4_length_8abf5_1 ⟨Nat.zero_le _, Nat.zero_le _⟩) hQ_G (fun u4 H locs hP hD hS => ?_)
    refine W.eq (g2 := F0 m 4 ls [.int r1]) rfl ?_
    have hP : va_P g.1 vwCl ((cU g aU (.ref qV) vU ++ (cB g qV vV)) ++ (([] : va_W))) H := hP
    have hD : va_D A ((cU g aU (.ref qV) vU ++ (cB g qV vV)) ++ (([] : va_W))) := hD
    have hP : va_P g.1 vwCl (cU g aU (.ref qV) vU ++ (cB g qV vV)) H := hP.perm (kpc (fun P => by first | omega | (simp only [List.countP_append, List.countP_nil] <;> omega)))
    have hD : va_D A (cU g aU (.ref qV) vU ++ (cB g qV vV)) := hD.perm (kpc (fun P => by first | omega | (simp only [List.countP_append, List.countP_nil] <;> omega)))
    have e5 := Option.some.inj hf
    exact k_Giret (w1 := fun (u : Nat → Nat) => cU g aU (.ref qV) vU ++ (cB g qV vV)) (rv := fun (u : Nat → Nat) => (fun _ => some (.int r)) u) (u := (fun i => 0)) hx hb hr hlocks hK hP hD hS rfl e5 dJ4_length_8abf5_4
  rw [hH, hlo] at hW
  exact hW
def f_J5_newCapacity_0f7a4 (vU : Vs) (vV : Vs) (x1 : Int32) : Option (Int32) :=
  o1 (f_J8_newLength_cabcc (nI (vV.1 9).toNatClampNeg) ((x1 <<< ((vU.1 1) &&& 31)) - (nI (vV.1 9).toNatClampNeg)) ((nI (vV.1 9).toNatClampNeg) + ((2 : Int32) <<< ((vU.1 1) &&& 31)))) (fun (r1 : Int32) => if r1 = (2147483647 : Int32) then none else some ((r1 >>> ((vU.1 1) &&& 31))))
abbrev wsJ5_newCapacity_0f7a4 : List Cond := .code yJ5_newCapacity_0f7a4 cJ5_newCapacity_0f7a4 6 (some .int) :: UW
abbrev rmJ5_newCapacity_0f7a4 : Room := { frames := 2, cells := 0, slots := 0, locals := 113 }
set_option maxHeartbeats 4000000 in
set_option maxRecDepth 100000 in
theorem c_J5_newCapacity_0f7a4 (l : Launch) (g : Gx) (aU : Nat) (vU : Vs) (qV : Nat) (vV : Vs) (x1 : Int32) (r : Int32) (hf : f_J5_newCapacity_0f7a4 vU vV x1 = some r) : CtG l yJ5_newCapacity_0f7a4 wsJ5_newCapacity_0f7a4 rmJ5_newCapacity_0f7a4 g [.ref aU, .int x1] (cU g aU (.ref qV) vU ++ (cB g qV vV)) (fun (u : Nat → Nat) => cU g aU (.ref qV) vU ++ (cB g qV vV)) (fun (u : Nat → Nat) => (fun _ => some (.int r)) u) 0 0 := by
  unfold CtG
  intro sz
  refine Met.ofW (cc := cJ5_newCapacity_0f7a4) (maxL := 6) (ret := (some .int)) (by decide) rfl ?_
  intro p e s m args below meth c s₁ B hml hv
  obtain ⟨rfl, hsz, hP, hK, hD0, hG⟩ := hv
  have hx := B.exec
  have hb := B.bytes
  have hr := B.returns
  have hts := atoms_spec (ws := wsJ5_newCapacity_0f7a4) B.pre
  have hown : s.vm.findClass RJ5 = some m.cls := findClass_of_methodNamed B.named
  have hlocks := B.notSynchronized
  subst hsz
  have hD := hD0.self (sz := s.heap.size)
  generalize hAe : va_A (cU g aU (.ref qV) vU ++ (cB g qV vV)) s.heap.size = A at hD hG ⊢
  have hA : ∀ q : Nat, s.heap.size ≤ q → A q := fun q h => by rw [← hAe]; exact Or.inr h
  clear hAe hD0
  have hS : va_S A s.heap s.heap [] := va_S.rf
  have hl := lv_entry ([.ref aU, .int x1]) (n := 6) (Nat.le_of_ble_eq_true rfl)
  rw [lg_entry_eq]
  generalize (lg_sl ([.ref aU, .int x1]) ++ List.replicate (6 - (lg_sl ([.ref aU, .int x1])).length) Slot.unset).toArray = ls at hl ⊢
  have hl : lv_has ls 6 [(0, .ref aU), (1, .int x1)] := hl
  have htu : ∀ w ∈ UW, w.before _ s = true := fun w h => hts w (List.mem_cons_of_mem _ h)
  have k_4_183 := htu _ mw_4_183
  have k_4_184 := htu _ mw_4_184
  have k_4_204 := htu _ mw_4_204
  unfold f_J5_newCapacity_0f7a4 at hf
  obtain ⟨H, hH⟩ : ∃ z, z = s.heap := ⟨_, rfl⟩
  obtain ⟨locs, hlo⟩ : ∃ z : List Loc, z = [] := ⟨_, rfl⟩
  have hS : va_S A s.heap H locs := by rw [hH, hlo]; exact hS
  rw [← hH] at hP
  have hW : W p l e (headSpec wsJ5_newCapacity_0f7a4 rmJ5_newCapacity_0f7a4).room s m ([.ref aU, .int x1] : List Value).toArray below meth c H locs 0 0 (MQ below (qG g A (fun (u : Nat → Nat) => cU g aU (.ref qV) vU ++ (cB g qV vV)) (fun (u : Nat → Nat) => (fun _ => some (.int r)) u)) ([.ref aU, .int x1] : List Value).toArray s 0 0 A) (F0 m 0 ls []) := by
    refine lv_aload_n hx hb dJ5_newCapacity_0f7a4_0 rfl (lv_at hl 0 rfl) ?_
    refine va_get (D := g.1) (ci := 10) (fs := fcU (.ref qV) vU) (v := .ref qV) (C := RJ4) (T := TJ4) (N := 4) hx hb htu hinJ4 hown hK hP 0 rfl rfl 0 (by decide) k_4_183 (fun x9 h9 => h9) rfl dJ5_newCapacity_0f7a4_1 ?_
    refine va_alen (D := g.1) (v := (nI (vV.1 9).toNatClampNeg)) (ty := .byte) hx hb hK hP 1 4 rfl rfl rfl dJ5_newCapacity_0f7a4_4 ?_
    refine lv_istore_n (lv' := [(2, .int (nI (vV.1 9).toNatClampNeg)), (0, .ref aU), (1, .int x1)]) hx hb dJ5_newCapacity_0f7a4_5 rfl hl (by decide) rfl (fun ls hl => ?_)
    refine lv_iload_n hx hb dJ5_newCapacity_0f7a4_6 rfl (lv_at hl 2 rfl) ?_
    refine lv_aload_n hx hb dJ5_newCapacity_0f7a4_7 rfl (lv_at hl 1 rfl) ?_
    refine va_get (D := g.1) (ci := 10) (fs := fcU (.ref qV) vU) (v := .int (vU.1 1)) (C := RJ4) (T := TJ4) (N := 4) hx hb htu hinJ4 hown hK hP 0 rfl rfl 1 (by decide) k_4_184 (fun x9 h9 => h9) rfl dJ5_newCapacity_0f7a4_8 ?_
    refine lv_ishl hx hb dJ5_newCapacity_0f7a4_11 ?_
    refine lv_istore_n (lv' := [(3, .int (x1 <<< ((vU.1 1) &&& 31))), (2, .int (nI (vV.1 9).toNatClampNeg)), (0, .ref aU), (1, .int x1)]) hx hb dJ5_newCapacity_0f7a4_12 rfl hl (by decide) rfl (fun ls hl => ?_)
    refine lv_iload_n hx hb dJ5_newCapacity_0f7a4_13 rfl (lv_at hl 0 rfl) ?_
    refine lv_iload_n hx hb dJ5_newCapacity_0f7a4_14 rfl (lv_at hl 1 rfl) ?_
    refine lv_isub hx hb dJ5_newCapacity_0f7a4_15 ?_
    refine lv_istore (lv' := [(4, .int ((x1 <<< ((vU.1 1) &&& 31)) - (nI (vV.1 9).toNatClampNeg))), (3, .int (x1 <<< ((vU.1 1) &&& 31))), (2, .int (nI (vV.1 9).toNatClampNeg)), (0, .ref aU), (1, .int x1)]) hx hb dJ5_newCapacity_0f7a4_16 hl (by decide) rfl (fun ls hl => ?_)
    refine lv_iload_n hx hb dJ5_newCapacity_0f7a4_18 rfl (lv_at hl 2 rfl) ?_
    refine lv_iload hx hb dJ5_newCapacity_0f7a4_19 (lv_at hl 0 rfl) ?_
    refine lv_iload_n hx hb dJ5_newCapacity_0f7a4_21 rfl (lv_at hl 2 rfl) ?_
    refine lv_iconst (v := (2 : Int32)) hx hb dJ5_newCapacity_0f7a4_22 (by decide) ?_
    refine lv_aload_n hx hb dJ5_newCapacity_0f7a4_23 rfl (lv_at hl 3 rfl) ?_
    refine va_get (D := g.1) (ci := 10) (fs := fcU (.ref qV) vU) (v := .int (vU.1 1)) (C := RJ4) (T := TJ4) (N := 4) hx hb htu hinJ4 hown hK hP 0 rfl rfl 1 (by decide) k_4_184 (fun x9 h9 => h9) rfl dJ5_newCapacity_0f7a4_24 ?_
    refine lv_ishl hx hb dJ5_newCapacity_0f7a4_27 ?_
    refine lv_iadd hx hb dJ5_newCapacity_0f7a4_28 ?_
    obtain ⟨r1, hg2, hf⟩ := o1_at hf
    have hpm : (cU g aU (.ref qV) vU ++ (cB g qV vV)).Perm ((([] : va_W)) ++ (cU g aU (.ref qV) vU ++ (cB g qV vV))) := (kpc (fun P => by first | omega | (simp only [List.countP_append, List.countP_nil] <;> omega)))
    refine k_G (wc := ([] : va_W)) (wr := cU g aU (.ref qV) vU ++ (cB g qV vV)) (w1 := fun (u : Nat → Nat) => ([] : va_W)) (rv := fun (u : Nat → Nat) => (fun _ => some (.int r1)) u) hP hD hS hA hpm (va_runS (As := [.int (nI (vV.1 9).toNatClampNeg), .int ((x1 <<< ((vU.1 1) &&& 31)) - (nI (vV.1 9).toNatClampNeg)), .int ((nI (vV.1 9).toNatClampNeg) + ((2 : Int32) <<< ((vU.1 1) &&& 31)))]) (rest := []) ⟨hx, hb, hml, hown, htu⟩ ((c_J8_newLength_cabcc l g (nI (vV.1 9).toNatClampNeg) ((x1 <<< ((vU.1 1) &&& 31)) - (nI (vV.1 9).toNatClampNeg)) ((nI (vV.1 9).toNatClampNeg) + ((2 : Int32) <<< ((vU.1 1) &&& 31))) r1 hg2) H.size) (va_cwS 3 htu (gU_S mw_4_230 hcJ8_newLength_cabcc) rfl rfl rfl hdJ8_newLength_cabcc ⟨Nat.le_of_ble_eq_true rfl, Nat.le_of_ble_eq_true rfl⟩) (k_preS hK hP hD hS hA hG hpm) rfl rfl hl.1 rfl (lv_room (Nat.le_of_ble_eq_true rfl)) dJ5_newCapacity_0f7a4_29 ⟨Nat.zero_le _, Nat.zero_le _⟩) hQ_G (fun u4 H locs hP hD hS => ?_)
    refine W.eq (g2 := F0 m 32 ls [.int r1]) rfl ?_
    have hP : va_P g.1 vwCl ((([] : va_W)) ++ (cU g aU (.ref qV) vU ++ (cB g qV vV))) H := hP
    have hD : va_D A ((([] : va_W)) ++ (cU g aU (.ref qV) vU ++ (cB g qV vV))) := hD
    have hP : va_P g.1 vwCl (cU g aU (.ref qV) vU ++ (cB g qV vV)) H := hP.perm (kpc (fun P => by first | omega | (simp only [List.countP_append, List.countP_nil] <;> omega)))
    have hD : va_D A (cU g aU (.ref qV) vU ++ (cB g qV vV)) := hD.perm (kpc (fun P => by first | omega | (simp only [List.countP_append, List.countP_nil] <;> omega)))
    refine lv_istore (lv' := [(5, .int r1), (4, .int ((x1 <<< ((vU.1 1) &&& 31)) - (nI (vV.1 9).toNatClampNeg))), (3, .int (x1 <<< ((vU.1 1) &&& 31))), (2, .int (nI (vV.1 9).toNatClampNeg)), (0, .ref aU), (1, .int x1)]) hx hb dJ5_newCapacity_0f7a4_32 hl (by decide) rfl (fun ls hl => ?_)
    refine lv_iload hx hb dJ5_newCapacity_0f7a4_34 (lv_at hl 0 rfl) ?_
    refine lv_ldc (v := (2147483647 : Int32)) hx hb hown k_4_204 dJ5_newCapacity_0f7a4_36 ?_
    refine lv_icmp_ne (tgt := 51) hx hb dJ5_newCapacity_0f7a4_38 (by decide) (fun c5 => ?_) (fun c5 => ?_)
    · have hf := it_f hf c5
      refine lv_iload hx hb dJ5_newCapacity_0f7a4_51 (lv_at hl 0 rfl) ?_
      refine lv_aload_n hx hb dJ5_newCapacity_0f7a4_53 rfl (lv_at hl 4 rfl) ?_
      refine va_get (D := g.1) (ci := 10) (fs := fcU (.ref qV) vU) (v := .int (vU.1 1)) (C := RJ4) (T := TJ4) (N := 4) hx hb htu hinJ4 hown hK hP 0 rfl rfl 1 (by decide) k_4_184 (fun x9 h9 => h9) rfl dJ5_newCapacity_0f7a4_54 ?_
      refine lv_ishr hx hb dJ5_newCapacity_0f7a4_57 ?_
      have e6 := Option.some.inj hf
      exact k_Giret (w1 := fun (u : Nat → Nat) => cU g aU (.ref qV) vU ++ (cB g qV vV)) (rv := fun (u : Nat → Nat) => (fun _ => some (.int r)) u) (u := (fun i => 0)) hx hb hr hlocks hK hP hD hS rfl e6 dJ5_newCapacity_0f7a4_58
    · have hf := it_t hf c5
      cases hf
  rw [hH, hlo] at hW
  exact hW
def f_J5_ensureCapacityInternal_d00df (vU : Vs) (vV : Vs) (x1 : Int32) : Option (Vs) :=
  jn (fun (vV_1 : Vs) (kc2 : Nat) (ks3 : Nat) => gd (decide (kc2 ≤ 1 ∧ ks3 ≤ 400)) (some (vV_1))) (fun k5 => if (x1 - ((nI (vV.1 9).toNatClampNeg) >>> ((vU.1 1) &&& 31))) ≤ 0 then k5 vV 0 0 else o1 (f_J5_newCapacity_0f7a4 vU vV x1) (fun (r11 : Int32) => gd (decide (0 + 1 ≤ 1 ∧ 0 + 400 ≤ 400)) (o1 (f_J7_copyOf_9075b vV (r11 <<< ((vU.1 1) &&& 31))) (fun (vN32_15 : Vs) => k5 vN32_15 (0 + 1) (0 + 400)))))
abbrev wsJ5_ensureCapacityInternal_d00df : List Cond := .code yJ5_ensureCapacityInternal_d00df cJ5_ensureCapacityInternal_d00df 3 none :: UW
abbrev rmJ5_ensureCapacityInternal_d00df : Room := { frames := 3, cells := 1, slots := 400, locals := 138 }
set_option maxHeartbeats 4000000 in
set_option maxRecDepth 100000 in
theorem c_J5_ensureCapacityInternal_d00df (l : Launch) (g : Gx) (aU : Nat) (vU : Vs) (qV : Nat) (vV : Vs) (x1 : Int32) (vV1 : Vs) (hf : f_J5_ensureCapacityInternal_d00df vU vV x1 = some vV1) : CtG l yJ5_ensureCapacityInternal_d00df wsJ5_ensureCapacityInternal_d00df rmJ5_ensureCapacityInternal_d00df g [.ref aU, .int x1] (cU g aU (.ref qV) vU ++ (cB g qV vV)) (fun (u : Nat → Nat) => cU g aU (.ref (u 0)) vU ++ (cB g (u 0) vV1)) (fun (u : Nat → Nat) => (fun _ => none) u) 1 400 := by
  unfold CtG
  intro sz
  refine Met.ofW (cc := cJ5_ensureCapacityInternal_d00df) (maxL := 3) (ret := none) (by decide) rfl ?_
  intro p e s m args below meth c s₁ B hml hv
  obtain ⟨rfl, hsz, hP, hK, hD0, hG⟩ := hv
  have hx := B.exec
  have hb := B.bytes
  have hr := B.returns
  have hts := atoms_spec (ws := wsJ5_ensureCapacityInternal_d00df) B.pre
  have hown : s.vm.findClass RJ5 = some m.cls := findClass_of_methodNamed B.named
  have hlocks := B.notSynchronized
  subst hsz
  have hD := hD0.self (sz := s.heap.size)
  generalize hAe : va_A (cU g aU (.ref qV) vU ++ (cB g qV vV)) s.heap.size = A at hD hG ⊢
  have hA : ∀ q : Nat, s.heap.size ≤ q → A q := fun q h => by rw [← hAe]; exact Or.inr h
  clear hAe hD0
  have hS : va_S A s.heap s.heap [] := va_S.rf
  have hl := lv_entry ([.ref aU, .int x1]) (n := 3) (Nat.le_of_ble_eq_true rfl)
  rw [lg_entry_eq]
  generalize (lg_sl ([.ref aU, .int x1]) ++ List.replicate (3 - (lg_sl ([.ref aU, .int x1])).length) Slot.unset).toArray = ls at hl ⊢
  have hl : lv_has ls 3 [(0, .ref aU), (1, .int x1)] := hl
  have htu : ∀ w ∈ UW, w.before _ s = true := fun w h => hts w (List.mem_cons_of_mem _ h)
  have k_4_183 := htu _ mw_4_183
  have k_4_184 := htu _ mw_4_184
  unfold f_J5_ensureCapacityInternal_d00df at hf
  obtain ⟨H, hH⟩ : ∃ z, z = s.heap := ⟨_, rfl⟩
  obtain ⟨locs, hlo⟩ : ∃ z : List Loc, z = [] := ⟨_, rfl⟩
  have hS : va_S A s.heap H locs := by rw [hH, hlo]; exact hS
  rw [← hH] at hP
  have hW : W p l e (headSpec wsJ5_ensureCapacityInternal_d00df rmJ5_ensureCapacityInternal_d00df).room s m ([.ref aU, .int x1] : List Value).toArray below meth c H locs 0 0 (MQ below (qG g A (fun (u : Nat → Nat) => cU g aU (.ref (u 0)) vU ++ (cB g (u 0) vV1)) (fun (u : Nat → Nat) => (fun _ => none) u)) ([.ref aU, .int x1] : List Value).toArray s 1 400 A) (F0 m 0 ls []) := by
    refine lv_aload_n hx hb dJ5_ensureCapacityInternal_d00df_0 rfl (lv_at hl 0 rfl) ?_
    refine va_get (D := g.1) (ci := 10) (fs := fcU (.ref qV) vU) (v := .ref qV) (C := RJ4) (T := TJ4) (N := 4) hx hb htu hinJ4 hown hK hP 0 rfl rfl 0 (by decide) k_4_183 (fun x9 h9 => h9) rfl dJ5_ensureCapacityInternal_d00df_1 ?_
    refine va_alen (D := g.1) (v := (nI (vV.1 9).toNatClampNeg)) (ty := .byte) hx hb hK hP 1 4 rfl rfl rfl dJ5_ensureCapacityInternal_d00df_4 ?_
    refine lv_aload_n hx hb dJ5_ensureCapacityInternal_d00df_5 rfl (lv_at hl 0 rfl) ?_
    refine va_get (D := g.1) (ci := 10) (fs := fcU (.ref qV) vU) (v := .int (vU.1 1)) (C := RJ4) (T := TJ4) (N := 4) hx hb htu hinJ4 hown hK hP 0 rfl rfl 1 (by decide) k_4_184 (fun x9 h9 => h9) rfl dJ5_ensureCapacityInternal_d00df_6 ?_
    refine lv_ishr hx hb dJ5_ensureCapacityInternal_d00df_9 ?_
    refine lv_istore_n (lv' := [(2, .int ((nI (vV.1 9).toNatClampNeg) >>> ((vU.1 1) &&& 31))), (0, .ref aU), (1, .int x1)]) hx hb dJ5_ensureCapacityInternal_d00df_10 rfl hl (by decide) rfl (fun ls hl => ?_)
    refine lv_iload_n hx hb dJ5_ensureCapacityInternal_d00df_11 rfl (lv_at hl 2 rfl) ?_
    refine lv_iload_n hx hb dJ5_ensureCapacityInternal_d00df_12 rfl (lv_at hl 0 rfl) ?_
    refine lv_isub hx hb dJ5_ensureCapacityInternal_d00df_13 ?_
    obtain ⟨k5, hk9, hf⟩ := jn_at hf
    have hJ6 : ∀ (vV_1 : Vs) (kc2 : Nat) (ks3 : Nat), k5 vV_1 kc2 ks3 = some vV1 → ∀ (qV_4 : Nat), ∀ (H : Heap) (locs : List Loc), va_P g.1 vwCl (cU g aU (.ref qV_4) vU ++ (cB g qV_4 vV_1)) H → va_D A (cU g aU (.ref qV_4) vU ++ (cB g qV_4 vV_1)) → va_S A s.heap H locs → ∀ ls : Array Slot, lv_has ls 3 [] → W p l e (headSpec wsJ5_ensureCapacityInternal_d00df rmJ5_ensureCapacityInternal_d00df).room s m ([.ref aU, .int x1] : List Value).toArray below meth c H locs kc2 ks3 (MQ below (qG g A (fun (u : Nat → Nat) => cU g aU (.ref (u 0)) vU ++ (cB g (u 0) vV1)) (fun (u : Nat → Nat) => (fun _ => none) u)) ([.ref aU, .int x1] : List Value).toArray s 1 400 A) (F0 m 38 ls []) := by
      intro vV_1 kc2 ks3 hf qV_4 H locs hP hD hS ls hl
      rw [hk9] at hf
      dsimp only at hf
      clear hk9
      obtain ⟨h7, hf⟩ := gd_at hf
      have e8 := Option.some.inj hf
      rw [e8] at hP hD
      refine W.widen (k := 1) (n := 400) (of_decide_eq_true h7).1 (of_decide_eq_true h7).2 ?_
      exact k_Gvret (w1 := fun (u : Nat → Nat) => cU g aU (.ref (u 0)) vU ++ (cB g (u 0) vV1)) (rv := fun (u : Nat → Nat) => (fun _ => none) u) (u := (fun i => if i = 0 then qV_4 else 0)) hx hb hr hlocks hK hP hD hS rfl dJ5_ensureCapacityInternal_d00df_38
    refine lv_if_le (tgt := 38) hx hb dJ5_ensureCapacityInternal_d00df_14 (by decide) (fun c10 => ?_) (fun c10 => ?_)
    · have hf := it_t hf c10
      exact hJ6 vV 0 0 hf qV H locs hP hD hS _ (lv_sub hl [] rfl)
    · have hf := it_f hf c10
      refine lv_aload_n hx hb dJ5_ensureCapacityInternal_d00df_17 rfl (lv_at hl 1 rfl) ?_
      refine lv_aload_n hx hb dJ5_ensureCapacityInternal_d00df_18 rfl (lv_at hl 1 rfl) ?_
      refine va_get (D := g.1) (ci := 10) (fs := fcU (.ref qV) vU) (v := .ref qV) (C := RJ4) (T := TJ4) (N := 4) hx hb htu hinJ4 hown hK hP 0 rfl rfl 0 (by decide) k_4_183 (fun x9 h9 => h9) rfl dJ5_ensureCapacityInternal_d00df_19 ?_
      refine lv_aload_n hx hb dJ5_ensureCapacityInternal_d00df_22 rfl (lv_at hl 1 rfl) ?_
      refine lv_iload_n hx hb dJ5_ensureCapacityInternal_d00df_23 rfl (lv_at hl 2 rfl) ?_
      obtain ⟨r11, hg12, hf⟩ := o1_at hf
      have hpm : (cU g aU (.ref qV) vU ++ (cB g qV vV)).Perm ((cU g aU (.ref qV) vU ++ (cB g qV vV)) ++ (([] : va_W))) := (kpc (fun P => by first | omega | (simp only [List.countP_append, List.countP_nil] <;> omega)))
      refine k_G (wc := cU g aU (.ref qV) vU ++ (cB g qV vV)) (wr := ([] : va_W)) (w1 := fun (u : Nat → Nat) => cU g aU (.ref qV) vU ++ (cB g qV vV)) (rv := fun (u : Nat → Nat) => (fun _ => some (.int r11)) u) hP hD hS hA hpm (va_runU (As := [.int x1]) (rest := [.ref qV, .ref aU]) ⟨hx, hb, hml, hown, htu⟩ ((c_J5_newCapacity_0f7a4 l g aU vU qV vV x1 r11 hg12) H.size) (va_cwU (C := RJ4) (owner := "java/lang/AbstractStringBuilder") (x := ⟨"java/lang/AbstractStringBuilder", "newCapacity", "(I)I"⟩) 1 htu (gU_U (List.forall_mem_cons.mpr ⟨mw_4_226, (List.forall_mem_cons.mpr ⟨mw_5_170, (List.forall_mem_cons.mpr ⟨ms_2, (List.forall_mem_cons.mpr ⟨mw_4_228, (List.forall_mem_cons.mpr ⟨mw_1_2, (fun _ h => nomatch h)⟩)⟩)⟩)⟩)⟩) mw_4_229) rfl rfl rfl rfl ⟨by decide +kernel, by decide +kernel, by decide +kernel⟩ ⟨Nat.le_of_ble_eq_true rfl, Nat.le_of_ble_eq_true rfl⟩) (k_preV (C := RJ4) hK hP hD hS hA hG hpm (va_recv (ci := 10) (q0 := 0) (fs := fcU (.ref qV) vU) (q := (RJ4, TJ4, 4)) hK hP rfl rfl)) rfl rfl hl.1 rfl (lv_room (Nat.le_of_ble_eq_true rfl)) dJ5_ensureCapacityInternal_d00df_24 ⟨Nat.zero_le _, Nat.zero_le _⟩) hQ_G (fun u14 H locs hP hD hS => ?_)
      refine W.eq (g2 := F0 m 27 ls [.int r11, .ref qV, .ref aU]) rfl ?_
      have hP : va_P g.1 vwCl ((cU g aU (.ref qV) vU ++ (cB g qV vV)) ++ (([] : va_W))) H := hP
      have hD : va_D A ((cU g aU (.ref qV) vU ++ (cB g qV vV)) ++ (([] : va_W))) := hD
      have hP : va_P g.1 vwCl (cU g aU (.ref qV) vU ++ (cB g qV vV)) H := hP.perm (kpc (fun P => by first | omega | (simp only [List.countP_append, List.countP_nil] <;> omega)))
      have hD : va_D A (cU g aU (.ref qV) vU ++ (cB g qV vV)) := hD.perm (kpc (fun P => by first | omega | (simp only [List.countP_append, List.countP_nil] <;> omega)))
      refine lv_aload_n hx hb dJ5_ensureCapacityInternal_d00df_27 rfl (lv_at hl 1 rfl) ?_
      refine va_get (D := g.1) (ci := 10) (fs := fcU (.ref qV) vU) (v := .int (vU.1 1)) (C := RJ4) (T := TJ4) (N := 4) hx hb htu hinJ4 hown hK hP 0 rfl rfl 1 (by decide) k_4_184 (fun x9 h9 => h9) rfl dJ5_ensureCapacityInternal_d00df_28 ?_
      refine lv_ishl hx hb dJ5_ensureCapacityInternal_d00df_31 ?_
      obtain ⟨h17, hf⟩ := gd_at hf
      obtain ⟨vN32_15, hg16, hf⟩ := o1_at hf
      have hpm : (cU g aU (.ref qV) vU ++ (cB g qV vV)).Perm ((cB g qV vV) ++ (cU g aU (.ref qV) vU)) := (kpc (fun P => by first | omega | (simp only [List.countP_append, List.countP_nil] <;> omega)))
      refine k_G (wc := cB g qV vV) (wr := cU g aU (.ref qV) vU) (w1 := fun (u : Nat → Nat) => cB g qV vV ++ (cB g (u 0) vN32_15)) (rv := fun (u : Nat → Nat) => (fun u => some (.ref (u 0))) u) hP hD hS hA hpm (va_runS (As := [.ref qV, .int (r11 <<< ((vU.1 1) &&& 31))]) (rest := [.ref aU]) ⟨hx, hb, hml, hown, htu⟩ ((c_J7_copyOf_9075b l g qV vV (r11 <<< ((vU.1 1) &&& 31)) vN32_15 hg16) H.size) (va_cwS 2 htu (gU_S mw_4_238 hcJ7_copyOf_9075b) rfl rfl rfl hdJ7_copyOf_9075b ⟨Nat.le_of_ble_eq_true rfl, Nat.le_of_ble_eq_true rfl⟩) (k_preS hK hP hD hS hA hG hpm) rfl rfl hl.1 rfl (lv_room (Nat.le_of_ble_eq_true rfl)) dJ5_ensureCapacityInternal_d00df_32 (of_decide_eq_true h17)) hQ_G (fun u18 H locs hP hD hS => ?_)
      refine W.eq (g2 := F0 m 35 ls [.ref (u18 0), .ref aU]) rfl ?_
      have hP : va_P g.1 vwCl ((cB g qV vV ++ (cB g (u18 0) vN32_15)) ++ (cU g aU (.ref qV) vU)) H := hP
      have hD : va_D A ((cB g qV vV ++ (cB g (u18 0) vN32_15)) ++ (cU g aU (.ref qV) vU)) := hD
      have hP : va_P g.1 vwCl (cB g qV vV ++ (cB g (u18 0) vN32_15 ++ (cU g aU (.ref qV) vU))) H := hP.perm (kpc (fun P => by first | omega | (simp only [List.countP_append, List.countP_nil] <;> omega)))
      have hD : va_D A (cB g qV vV ++ (cB g (u18 0) vN32_15 ++ (cU g aU (.ref qV) vU))) := hD.perm (kpc (fun P => by first | omega | (simp only [List.countP_append, List.countP_nil] <;> omega)))
      refine va_put (D := g.1) (ci := 10) (fs := fcU (.ref qV) vU) (v := .ref (u18 0)) (ty := .array .byte) (C := RJ4) (T := TJ4) (N := 4) hx hb htu hinJ4 tyJ4 tyJ4_ok nmJ4 hown hK hP hD hS 2 rfl rfl 0 (by decide) k_4_183 (fun _ h9 => h9) rfl (by decide +kernel) rfl rfl (Nat.le_of_ble_eq_true rfl) dJ5_ensureCapacityInternal_d00df_35 (fun H locs hP hD hS => ?_)
      have hP : va_P g.1 vwCl (cB g qV vV ++ (cB g (u18 0) vN32_15 ++ (cU g aU (.ref (u18 0)) vU))) H := hP
      have hD : va_D A (cB g qV vV ++ (cB g (u18 0) vN32_15 ++ (cU g aU (.ref (u18 0)) vU))) := hD
      have hP : va_P g.1 vwCl (cB g (u18 0) vN32_15 ++ (cU g aU (.ref (u18 0)) vU)) H := k_dropP hP (w3 := cB g qV vV) (kpc (fun P => by first | omega | (simp only [List.countP_append, List.countP_nil] <;> omega)))
      have hD : va_D A (cB g (u18 0) vN32_15 ++ (cU g aU (.ref (u18 0)) vU)) := k_dropD hD (w3 := cB g qV vV) (kpc (fun P => by first | omega | (simp only [List.countP_append, List.countP_nil] <;> omega)))
      have hP : va_P g.1 vwCl (cU g aU (.ref (u18 0)) vU ++ (cB g (u18 0) vN32_15)) H := k_dropP hP (w3 := ([] : va_W)) (kpc (fun P => by first | omega | (simp only [List.countP_append, List.countP_nil] <;> omega)))
      have hD : va_D A (cU g aU (.ref (u18 0)) vU ++ (cB g (u18 0) vN32_15)) := k_dropD hD (w3 := ([] : va_W)) (kpc (fun P => by first | omega | (simp only [List.countP_append, List.countP_nil] <;> omega)))
      exact hJ6 vN32_15 (0 + 1) (0 + 400) hf (u18 0) H locs hP hD hS _ (lv_sub hl [] rfl)
  rw [hH, hlo] at hW
  exact hW
def f_J5_inflateIfNeededFor_a7421_k (vU : Vs) (vV : Vs) (i0 : Nat) : Option (Unit) :=
  jn (some ()) (fun k1 => if (1 : Int32) = 0 then k1 else o1 (f_J0_coder_7d493 i0) (fun (r5 : Int32) => if (vU.1 1) = r5 then k1 else none))
abbrev wsJ5_inflateIfNeededFor_a7421 : List Cond := .code yJ5_inflateIfNeededFor_a7421 cJ5_inflateIfNeededFor_a7421 2 none :: UW
abbrev rmJ5_inflateIfNeededFor_a7421_k : Room := { frames := 1, cells := 0, slots := 0, locals := 24 }
set_option maxHeartbeats 4000000 in
set_option maxRecDepth 100000 in
theorem c_J5_inflateIfNeededFor_a7421_k (l : Launch) (g : Gx) (aU : Nat) (vU : Vs) (qV : Nat) (vV : Vs) (i0 : Nat) (hi0 : i0 < 27) (hf : f_J5_inflateIfNeededFor_a7421_k vU vV i0 = some ()) : CtG l yJ5_inflateIfNeededFor_a7421 wsJ5_inflateIfNeededFor_a7421 rmJ5_inflateIfNeededFor_a7421_k g [.ref aU, .ref (adK g i0)] (cU g aU (.ref qV) vU ++ (cB g qV vV)) (fun (u : Nat → Nat) => cU g aU (.ref qV) vU ++ (cB g qV vV)) (fun (u : Nat → Nat) => (fun _ => none) u) 0 0 := by
  unfold CtG
  intro sz
  refine Met.ofW (cc := cJ5_inflateIfNeededFor_a7421) (maxL := 2) (ret := none) (by decide) rfl ?_
  intro p e s m args below meth c s₁ B hml hv
  obtain ⟨rfl, hsz, hP, hK, hD0, hG⟩ := hv
  have hx := B.exec
  have hb := B.bytes
  have hr := B.returns
  have hts := atoms_spec (ws := wsJ5_inflateIfNeededFor_a7421) B.pre
  have hown : s.vm.findClass RJ5 = some m.cls := findClass_of_methodNamed B.named
  have hlocks := B.notSynchronized
  subst hsz
  have hD := hD0.self (sz := s.heap.size)
  generalize hAe : va_A (cU g aU (.ref qV) vU ++ (cB g qV vV)) s.heap.size = A at hD hG ⊢
  have hA : ∀ q : Nat, s.heap.size ≤ q → A q := fun q h => by rw [← hAe]; exact Or.inr h
  clear hAe hD0
  have hS : va_S A s.heap s.heap [] := va_S.rf
  have hl := lv_entry ([.ref aU, .ref (adK g i0)]) (n := 2) (Nat.le_of_ble_eq_true rfl)
  rw [lg_entry_eq]
  generalize (lg_sl ([.ref aU, .ref (adK g i0)]) ++ List.replicate (2 - (lg_sl ([.ref aU, .ref (adK g i0)])).length) Slot.unset).toArray = ls at hl ⊢
  have hl : lv_has ls 2 [(0, .ref aU), (1, .ref (adK g i0))] := hl
  have htu : ∀ w ∈ UW, w.before _ s = true := fun w h => hts w (List.mem_cons_of_mem _ h)
  have k_4_175 := htu _ mw_4_175
  have k_4_184 := htu _ mw_4_184
  unfold f_J5_inflateIfNeededFor_a7421_k at hf
  obtain ⟨H, hH⟩ : ∃ z, z = s.heap := ⟨_, rfl⟩
  obtain ⟨locs, hlo⟩ : ∃ z : List Loc, z = [] := ⟨_, rfl⟩
  have hS : va_S A s.heap H locs := by rw [hH, hlo]; exact hS
  rw [← hH] at hP
  have hW : W p l e (headSpec wsJ5_inflateIfNeededFor_a7421 rmJ5_inflateIfNeededFor_a7421_k).room s m ([.ref aU, .ref (adK g i0)] : List Value).toArray below meth c H locs 0 0 (MQ below (qG g A (fun (u : Nat → Nat) => cU g aU (.ref qV) vU ++ (cB g qV vV)) (fun (u : Nat → Nat) => (fun _ => none) u)) ([.ref aU, .ref (adK g i0)] : List Value).toArray s 0 0 A) (F0 m 0 ls []) := by
    refine va_gets (v := .int 1) hx hb hG.2.2.2.1.1 hS hown k_4_175 (fun _ h9 => h9) dJ5_inflateIfNeededFor_a7421_0 ?_
    obtain ⟨k1, hk3, hf⟩ := jn_at hf
    have hJ2 : k1 = some () → ∀ (H : Heap) (locs : List Loc), va_P g.1 vwCl (cU g aU (.ref qV) vU ++ (cB g qV vV)) H → va_D A (cU g aU (.ref qV) vU ++ (cB g qV vV)) → va_S A s.heap H locs → ∀ ls : Array Slot, lv_has ls 2 [] → W p l e (headSpec wsJ5_inflateIfNeededFor_a7421 rmJ5_inflateIfNeededFor_a7421_k).room s m ([.ref aU, .ref (adK g i0)] : List Value).toArray below meth c H locs 0 0 (MQ below (qG g A (fun (u : Nat → Nat) => cU g aU (.ref qV) vU ++ (cB g qV vV)) (fun (u : Nat → Nat) => (fun _ => none) u)) ([.ref aU, .ref (adK g i0)] : List Value).toArray s 0 0 A) (F0 m 21 ls []) := by
      intro hf H locs hP hD hS ls hl
      rw [hk3] at hf
      clear hk3
      exact k_Gvret (w1 := fun (u : Nat → Nat) => cU g aU (.ref qV) vU ++ (cB g qV vV)) (rv := fun (u : Nat → Nat) => (fun _ => none) u) (u := (fun i => 0)) hx hb hr hlocks hK hP hD hS rfl dJ5_inflateIfNeededFor_a7421_21
    refine lv_if_eq (tgt := 21) hx hb dJ5_inflateIfNeededFor_a7421_3 (by decide) (fun c4 => ?_) (fun c4 => ?_)
    · have hf := it_t hf c4
      exact hJ2 hf H locs hP hD hS _ (lv_sub hl [] rfl)
    · have hf := it_f hf c4
      refine lv_aload_n hx hb dJ5_inflateIfNeededFor_a7421_6 rfl (lv_at hl 0 rfl) ?_
      refine va_get (D := g.1) (ci := 10) (fs := fcU (.ref qV) vU) (v := .int (vU.1 1)) (C := RJ4) (T := TJ4) (N := 4) hx hb htu hinJ4 hown hK hP 0 rfl rfl 1 (by decide) k_4_184 (fun x9 h9 => h9) rfl dJ5_inflateIfNeededFor_a7421_7 ?_
      refine lv_aload_n hx hb dJ5_inflateIfNeededFor_a7421_10 rfl (lv_at hl 1 rfl) ?_
      obtain ⟨r5, hg6, hf⟩ := o1_at hf
      have hpm : (cU g aU (.ref qV) vU ++ (cB g qV vV)).Perm ((([] : va_W)) ++ (cU g aU (.ref qV) vU ++ (cB g qV vV))) := (kpc (fun P => by first | omega | (simp only [List.countP_append, List.countP_nil] <;> omega)))
      refine k_G (wc := ([] : va_W)) (wr := cU g aU (.ref qV) vU ++ (cB g qV vV)) (w1 := fun (u : Nat → Nat) => ([] : va_W)) (rv := fun (u : Nat → Nat) => (fun _ => some (.int r5)) u) hP hD hS hA hpm (va_runV (As := []) (rest := [.int (vU.1 1)]) ⟨hx, hb, hml, hown, htu⟩ ((c_J0_coder_7d493 l g i0 hi0 r5 hg6) H.size) (cwV 0 htu (gU_V mw_4_205 hcJ0_coder_7d493) rfl rfl rfl hdJ0_coder_7d493 ⟨Nat.le_of_ble_eq_true rfl, Nat.le_of_ble_eq_true rfl⟩) (k_preV hK hP hD hS hA hG hpm (vk_recv hG.2.2.1 hi0 hS)) rfl rfl hl.1 rfl (lv_room (Nat.le_of_ble_eq_true rfl)) dJ5_inflateIfNeededFor_a7421_11 ⟨Nat.zero_le _, Nat.zero_le _⟩) hQ_I (fun u8 H locs hP hD hS => ?_)
      refine W.eq (g2 := F0 m 14 ls [.int r5, .int (vU.1 1)]) rfl ?_
      have hP : va_P g.1 vwCl ((([] : va_W)) ++ (cU g aU (.ref qV) vU ++ (cB g qV vV))) H := hP
      have hD : va_D A ((([] : va_W)) ++ (cU g aU (.ref qV) vU ++ (cB g qV vV))) := hD
      have hP : va_P g.1 vwCl (cU g aU (.ref qV) vU ++ (cB g qV vV)) H := hP.perm (kpc (fun P => by first | omega | (simp only [List.countP_append, List.countP_nil] <;> omega)))
      have hD : va_D A (cU g aU (.ref qV) vU ++ (cB g qV vV)) := hD.perm (kpc (fun P => by first | omega | (simp only [List.countP_append, List.countP_nil] <;> omega)))
      refine lv_icmp_eq (tgt := 21) hx hb dJ5_inflateIfNeededFor_a7421_14 (by decide) (fun c9 => ?_) (fun c9 => ?_)
      · have hf := it_t hf c9
        exact hJ2 hf H locs hP hD hS _ (lv_sub hl [] rfl)
      · have hf := it_f hf c9
        cases hf
  rw [hH, hlo] at hW
  exact hW
def f_J5_inflateIfNeededFor_a7421_d (vU : Vs) (vV : Vs) (vZ : Vs) (vY : Vs) : Option (Unit) :=
  jn (some ()) (fun k1 => if (1 : Int32) = 0 then k1 else o1 (f_J0_coder_7d493_d vZ vY) (fun (r5 : Int32) => if (vU.1 1) = r5 then k1 else none))
abbrev rmJ5_inflateIfNeededFor_a7421_d : Room := { frames := 2, cells := 0, slots := 0, locals := 44 }
set_option maxHeartbeats 4000000 in
set_option maxRecDepth 100000 in
theorem c_J5_inflateIfNeededFor_a7421_d (l : Launch) (g : Gx) (aU : Nat) (vU : Vs) (qV : Nat) (vV : Vs) (aZ : Nat) (vZ : Vs) (qY : Nat) (vY : Vs) (hf : f_J5_inflateIfNeededFor_a7421_d vU vV vZ vY = some ()) : CtG l yJ5_inflateIfNeededFor_a7421 wsJ5_inflateIfNeededFor_a7421 rmJ5_inflateIfNeededFor_a7421_d g [.ref aU, .ref aZ] (cU g aU (.ref qV) vU ++ (cB g qV vV ++ (cZ g aZ (.ref qY) vZ ++ (cB g qY vY)))) (fun (u : Nat → Nat) => cU g aU (.ref qV) vU ++ (cB g qV vV ++ (cZ g aZ (.ref qY) vZ ++ (cB g qY vY)))) (fun (u : Nat → Nat) => (fun _ => none) u) 0 0 := by
  unfold CtG
  intro sz
  refine Met.ofW (cc := cJ5_inflateIfNeededFor_a7421) (maxL := 2) (ret := none) (by decide) rfl ?_
  intro p e s m args below meth c s₁ B hml hv
  obtain ⟨rfl, hsz, hP, hK, hD0, hG⟩ := hv
  have hx := B.exec
  have hb := B.bytes
  have hr := B.returns
  have hts := atoms_spec (ws := wsJ5_inflateIfNeededFor_a7421) B.pre
  have hown : s.vm.findClass RJ5 = some m.cls := findClass_of_methodNamed B.named
  have hlocks := B.notSynchronized
  subst hsz
  have hD := hD0.self (sz := s.heap.size)
  generalize hAe : va_A (cU g aU (.ref qV) vU ++ (cB g qV vV ++ (cZ g aZ (.ref qY) vZ ++ (cB g qY vY)))) s.heap.size = A at hD hG ⊢
  have hA : ∀ q : Nat, s.heap.size ≤ q → A q := fun q h => by rw [← hAe]; exact Or.inr h
  clear hAe hD0
  have hS : va_S A s.heap s.heap [] := va_S.rf
  have hl := lv_entry ([.ref aU, .ref aZ]) (n := 2) (Nat.le_of_ble_eq_true rfl)
  rw [lg_entry_eq]
  generalize (lg_sl ([.ref aU, .ref aZ]) ++ List.replicate (2 - (lg_sl ([.ref aU, .ref aZ])).length) Slot.unset).toArray = ls at hl ⊢
  have hl : lv_has ls 2 [(0, .ref aU), (1, .ref aZ)] := hl
  have htu : ∀ w ∈ UW, w.before _ s = true := fun w h => hts w (List.mem_cons_of_mem _ h)
  have k_4_175 := htu _ mw_4_175
  have k_4_184 := htu _ mw_4_184
  unfold f_J5_inflateIfNeededFor_a7421_d at hf
  obtain ⟨H, hH⟩ : ∃ z, z = s.heap := ⟨_, rfl⟩
  obtain ⟨locs, hlo⟩ : ∃ z : List Loc, z = [] := ⟨_, rfl⟩
  have hS : va_S A s.heap H locs := by rw [hH, hlo]; exact hS
  rw [← hH] at hP
  have hW : W p l e (headSpec wsJ5_inflateIfNeededFor_a7421 rmJ5_inflateIfNeededFor_a7421_d).room s m ([.ref aU, .ref aZ] : List Value).toArray below meth c H locs 0 0 (MQ below (qG g A (fun (u : Nat → Nat) => cU g aU (.ref qV) vU ++ (cB g qV vV ++ (cZ g aZ (.ref qY) vZ ++ (cB g qY vY)))) (fun (u : Nat → Nat) => (fun _ => none) u)) ([.ref aU, .ref aZ] : List Value).toArray s 0 0 A) (F0 m 0 ls []) := by
    refine va_gets (v := .int 1) hx hb hG.2.2.2.1.1 hS hown k_4_175 (fun _ h9 => h9) dJ5_inflateIfNeededFor_a7421_0 ?_
    obtain ⟨k1, hk3, hf⟩ := jn_at hf
    have hJ2 : k1 = some () → ∀ (H : Heap) (locs : List Loc), va_P g.1 vwCl (cU g aU (.ref qV) vU ++ (cB g qV vV ++ (cZ g aZ (.ref qY) vZ ++ (cB g qY vY)))) H → va_D A (cU g aU (.ref qV) vU ++ (cB g qV vV ++ (cZ g aZ (.ref qY) vZ ++ (cB g qY vY)))) → va_S A s.heap H locs → ∀ ls : Array Slot, lv_has ls 2 [] → W p l e (headSpec wsJ5_inflateIfNeededFor_a7421 rmJ5_inflateIfNeededFor_a7421_d).room s m ([.ref aU, .ref aZ] : List Value).toArray below meth c H locs 0 0 (MQ below (qG g A (fun (u : Nat → Nat) => cU g aU (.ref qV) vU ++ (cB g qV vV ++ (cZ g aZ (.ref qY) vZ ++ (cB g qY vY)))) (fun (u : Nat → Nat) => (fun _ => none) u)) ([.ref aU, .ref aZ] : List Value).toArray s 0 0 A) (F0 m 21 ls []) := by
      intro hf H locs hP hD hS ls hl
      rw [hk3] at hf
      clear hk3
      exact k_Gvret (w1 := fun (u : Nat → Nat) => cU g aU (.ref qV) vU ++ (cB g qV vV ++ (cZ g aZ (.ref qY) vZ ++ (cB g qY vY)))) (rv := fun (u : Nat → Nat) => (fun _ => none) u) (u := (fun i => 0)) hx hb hr hlocks hK hP hD hS rfl dJ5_inflateIfNeededFor_a7421_21
    refine lv_if_eq (tgt := 21) hx hb dJ5_inflateIfNeededFor_a7421_3 (by decide) (fun c4 => ?_) (fun c4 => ?_)
    · have hf := it_t hf c4
      exact hJ2 hf H locs hP hD hS _ (lv_sub hl [] rfl)
    · have hf := it_f hf c4
      refine lv_aload_n hx hb dJ5_inflateIfNeededFor_a7421_6 rfl (lv_at hl 0 rfl) ?_
      refine va_get (D := g.1) (ci := 10) (fs := fcU (.ref qV) vU) (v := .int (vU.1 1)) (C := RJ4) (T := TJ4) (N := 4) hx hb htu hinJ4 hown hK hP 0 rfl rfl 1 (by decide) k_4_184 (fun x9 h9 => h9) rfl dJ5_inflateIfNeededFor_a7421_7 ?_
      refine lv_aload_n hx hb dJ5_inflateIfNeededFor_a7421_10 rfl (lv_at hl 1 rfl) ?_
      obtain ⟨r5, hg6, hf⟩ := o1_at hf
      have hpm : (cU g aU (.ref qV) vU ++ (cB g qV vV ++ (cZ g aZ (.ref qY) vZ ++ (cB g qY vY)))).Perm ((cZ g aZ (.ref qY) vZ ++ (cB g qY vY)) ++ (cU g aU (.ref qV) vU ++ (cB g qV vV))) := (kpc (fun P => by first | omega | (simp only [List.countP_append, List.countP_nil] <;> omega)))
      refine k_G (wc := cZ g aZ (.ref qY) vZ ++ (cB g qY vY)) (wr := cU g aU (.ref qV) vU ++ (cB g qV vV)) (w1 := fun (u : Nat → Nat) => cZ g aZ (.ref qY) vZ ++ (cB g qY vY)) (rv := fun (u : Nat → Nat) => (fun _ => some (.int r5)) u) hP hD hS hA hpm (va_runV (As := []) (rest := [.int (vU.1 1)]) ⟨hx, hb, hml, hown, htu⟩ ((c_J0_coder_7d493_d l g aZ vZ qY vY r5 hg6) H.size) (cwV 0 htu (gU_V mw_4_205 hcJ0_coder_7d493) rfl rfl rfl hdJ0_coder_7d493 ⟨Nat.le_of_ble_eq_true rfl, Nat.le_of_ble_eq_true rfl⟩) (k_preV (C := RJ0) hK hP hD hS hA hG hpm (va_recv (ci := 9) (q0 := 2) (fs := fcU (.ref qY) vZ) (q := (RJ0, TJ0, 4)) hK hP rfl rfl)) rfl rfl hl.1 rfl (lv_room (Nat.le_of_ble_eq_true rfl)) dJ5_inflateIfNeededFor_a7421_11 ⟨Nat.zero_le _, Nat.zero_le _⟩) hQ_G (fun u8 H locs hP hD hS => ?_)
      refine W.eq (g2 := F0 m 14 ls [.int r5, .int (vU.1 1)]) rfl ?_
      have hP : va_P g.1 vwCl ((cZ g aZ (.ref qY) vZ ++ (cB g qY vY)) ++ (cU g aU (.ref qV) vU ++ (cB g qV vV))) H := hP
      have hD : va_D A ((cZ g aZ (.ref qY) vZ ++ (cB g qY vY)) ++ (cU g aU (.ref qV) vU ++ (cB g qV vV))) := hD
      have hP : va_P g.1 vwCl (cZ g aZ (.ref qY) vZ ++ (cB g qY vY ++ (cU g aU (.ref qV) vU ++ (cB g qV vV)))) H := hP.perm (kpc (fun P => by first | omega | (simp only [List.countP_append, List.countP_nil] <;> omega)))
      have hD : va_D A (cZ g aZ (.ref qY) vZ ++ (cB g qY vY ++ (cU g aU (.ref qV) vU ++ (cB g qV vV)))) := hD.perm (kpc (fun P => by first | omega | (simp only [List.countP_append, List.countP_nil] <;> omega)))
      refine lv_icmp_eq (tgt := 21) hx hb dJ5_inflateIfNeededFor_a7421_14 (by decide) (fun c9 => ?_) (fun c9 => ?_)
      · have hf := it_t hf c9
        have hP : va_P g.1 vwCl (cU g aU (.ref qV) vU ++ (cB g qV vV ++ (cZ g aZ (.ref qY) vZ ++ (cB g qY vY)))) H := k_dropP hP (w3 := ([] : va_W)) (kpc (fun P => by first | omega | (simp only [List.countP_append, List.countP_nil] <;> omega)))
        have hD : va_D A (cU g aU (.ref qV) vU ++ (cB g qV vV ++ (cZ g aZ (.ref qY) vZ ++ (cB g qY vY)))) := k_dropD hD (w3 := ([] : va_W)) (kpc (fun P => by first | omega | (simp only [List.countP_append, List.countP_nil] <;> omega)))
        exact hJ2 hf H locs hP hD hS _ (lv_sub hl [] rfl)
      · have hf := it_f hf c9
        cases hf
  rw [hH, hlo] at hW
  exact hW
def f_J5_putStringAt_47b60_k (vU : Vs) (vV : Vs) (x1 : Int32) (i0 : Nat) : Option (Vs) :=
  o1 (f_J5_inflateIfNeededFor_a7421_k vU vV i0) (fun _ => o1 (f_J0_getBytes_840e7_k vV x1 (vU.1 1) i0) (fun (vV_4 : Vs) => some (vV_4)))
abbrev wsJ5_putStringAt_47b60 : List Cond := .code yJ5_putStringAt_47b60 cJ5_putStringAt_47b60 3 none :: UW
abbrev rmJ5_putStringAt_47b60_k : Room := { frames := 2, cells := 0, slots := 0, locals := 113 }
set_option maxHeartbeats 4000000 in
set_option maxRecDepth 100000 in
theorem c_J5_putStringAt_47b60_k (l : Launch) (g : Gx) (aU : Nat) (vU : Vs) (qV : Nat) (vV : Vs) (x1 : Int32) (i0 : Nat) (hi0 : i0 < 27) (vV1 : Vs) (hf : f_J5_putStringAt_47b60_k vU vV x1 i0 = some vV1) : CtG l yJ5_putStringAt_47b60 wsJ5_putStringAt_47b60 rmJ5_putStringAt_47b60_k g [.ref aU, .int x1, .ref (adK g i0)] (cU g aU (.ref qV) vU ++ (cB g qV vV)) (fun (u : Nat → Nat) => cU g aU (.ref qV) vU ++ (cB g qV vV1)) (fun (u : Nat → Nat) => (fun _ => none) u) 0 0 := by
  unfold CtG
  intro sz
  refine Met.ofW (cc := cJ5_putStringAt_47b60) (maxL := 3) (ret := none) (by decide) rfl ?_
  intro p e s m args below meth c s₁ B hml hv
  obtain ⟨rfl, hsz, hP, hK, hD0, hG⟩ := hv
  have hx := B.exec
  have hb := B.bytes
  have hr := B.returns
  have hts := atoms_spec (ws := wsJ5_putStringAt_47b60) B.pre
  have hown : s.vm.findClass RJ5 = some m.cls := findClass_of_methodNamed B.named
  have hlocks := B.notSynchronized
  subst hsz
  have hD := hD0.self (sz := s.heap.size)
  generalize hAe : va_A (cU g aU (.ref qV) vU ++ (cB g qV vV)) s.heap.size = A at hD hG ⊢
  have hA : ∀ q : Nat, s.heap.size ≤ q → A q := fun q h => by rw [← hAe]; exact Or.inr h
  clear hAe hD0
  have hS : va_S A s.heap s.heap [] := va_S.rf
  have hl := lv_entry ([.ref aU, .int x1, .ref (adK g i0)]) (n := 3) (Nat.le_of_ble_eq_true rfl)
  rw [lg_entry_eq]
  generalize (lg_sl ([.ref aU, .int x1, .ref (adK g i0)]) ++ List.replicate (3 - (lg_sl ([.ref aU, .int x1, .ref (adK g i0)])).length) Slot.unset).toArray = ls at hl ⊢
  have hl : lv_has ls 3 [(0, .ref aU), (1, .int x1), (2, .ref (adK g i0))] := hl
  have htu : ∀ w ∈ UW, w.before _ s = true := fun w h => hts w (List.mem_cons_of_mem _ h)
  have k_4_183 := htu _ mw_4_183
  have k_4_184 := htu _ mw_4_184
  unfold f_J5_putStringAt_47b60_k at hf
  obtain ⟨H, hH⟩ : ∃ z, z = s.heap := ⟨_, rfl⟩
  obtain ⟨locs, hlo⟩ : ∃ z : List Loc, z = [] := ⟨_, rfl⟩
  have hS : va_S A s.heap H locs := by rw [hH, hlo]; exact hS
  rw [← hH] at hP
  have hW : W p l e (headSpec wsJ5_putStringAt_47b60 rmJ5_putStringAt_47b60_k).room s m ([.ref aU, .int x1, .ref (adK g i0)] : List Value).toArray below meth c H locs 0 0 (MQ below (qG g A (fun (u : Nat → Nat) => cU g aU (.ref qV) vU ++ (cB g qV vV1)) (fun (u : Nat → Nat) => (fun _ => none) u)) ([.ref aU, .int x1, .ref (adK g i0)] : List Value).toArray s 0 0 A) (F0 m 0 ls []) := by
    refine lv_aload_n hx hb dJ5_putStringAt_47b60_0 rfl (lv_at hl 0 rfl) ?_
    refine lv_aload_n hx hb dJ5_putStringAt_47b60_1 rfl (lv_at hl 2 rfl) ?_
    obtain ⟨_, hg1, hf⟩ := o1_at hf
    have hpm : (cU g aU (.ref qV) vU ++ (cB g qV vV)).Perm ((cU g aU (.ref qV) vU ++ (cB g qV vV)) ++ (([] : va_W))) := (kpc (fun P => by first | omega | (simp only [List.countP_append, List.countP_nil] <;> omega)))
    refine k_G (wc := cU g aU (.ref qV) vU ++ (cB g qV vV)) (wr := ([] : va_W)) (w1 := fun (u : Nat → Nat) => cU g aU (.ref qV) vU ++ (cB g qV vV)) (rv := fun (u : Nat → Nat) => (fun _ => none) u) hP hD hS hA hpm (va_runU (As := [.ref (adK g i0)]) (rest := []) ⟨hx, hb, hml, hown, htu⟩ ((c_J5_inflateIfNeededFor_a7421_k l g aU vU qV vV i0 hi0 hg1) H.size) (va_cwU (C := RJ4) (owner := "java/lang/AbstractStringBuilder") (x := ⟨"java/lang/AbstractStringBuilder", "inflateIfNeededFor", "(Ljava/lang/String;)V"⟩) 1 htu (gU_U (List.forall_mem_cons.mpr ⟨mw_5_34, (List.forall_mem_cons.mpr ⟨mw_5_172, (List.forall_mem_cons.mpr ⟨ms_4, (List.forall_mem_cons.mpr ⟨mw_5_36, (List.forall_mem_cons.mpr ⟨mw_1_2, (fun _ h => nomatch h)⟩)⟩)⟩)⟩)⟩) mw_5_37) rfl rfl rfl rfl ⟨by decide +kernel, by decide +kernel, by decide +kernel⟩ ⟨Nat.le_of_ble_eq_true rfl, Nat.le_of_ble_eq_true rfl⟩) (k_preV (C := RJ4) hK hP hD hS hA hG hpm (va_recv (ci := 10) (q0 := 0) (fs := fcU (.ref qV) vU) (q := (RJ4, TJ4, 4)) hK hP rfl rfl)) rfl rfl hl.1 rfl (lv_room (Nat.le_of_ble_eq_true rfl)) dJ5_putStringAt_47b60_2 ⟨Nat.zero_le _, Nat.zero_le _⟩) hQ_G (fun u3 H locs hP hD hS => ?_)
    refine W.eq (g2 := F0 m 5 ls []) rfl ?_
    have hP : va_P g.1 vwCl ((cU g aU (.ref qV) vU ++ (cB g qV vV)) ++ (([] : va_W))) H := hP
    have hD : va_D A ((cU g aU (.ref qV) vU ++ (cB g qV vV)) ++ (([] : va_W))) := hD
    have hP : va_P g.1 vwCl (cU g aU (.ref qV) vU ++ (cB g qV vV)) H := hP.perm (kpc (fun P => by first | omega | (simp only [List.countP_append, List.countP_nil] <;> omega)))
    have hD : va_D A (cU g aU (.ref qV) vU ++ (cB g qV vV)) := hD.perm (kpc (fun P => by first | omega | (simp only [List.countP_append, List.countP_nil] <;> omega)))
    refine lv_aload_n hx hb dJ5_putStringAt_47b60_5 rfl (lv_at hl 2 rfl) ?_
    refine lv_aload_n hx hb dJ5_putStringAt_47b60_6 rfl (lv_at hl 0 rfl) ?_
    refine va_get (D := g.1) (ci := 10) (fs := fcU (.ref qV) vU) (v := .ref qV) (C := RJ4) (T := TJ4) (N := 4) hx hb htu hinJ4 hown hK hP 0 rfl rfl 0 (by decide) k_4_183 (fun x9 h9 => h9) rfl dJ5_putStringAt_47b60_7 ?_
    refine lv_iload_n hx hb dJ5_putStringAt_47b60_10 rfl (lv_at hl 1 rfl) ?_
    refine lv_aload_n hx hb dJ5_putStringAt_47b60_11 rfl (lv_at hl 0 rfl) ?_
    refine va_get (D := g.1) (ci := 10) (fs := fcU (.ref qV) vU) (v := .int (vU.1 1)) (C := RJ4) (T := TJ4) (N := 4) hx hb htu hinJ4 hown hK hP 0 rfl rfl 1 (by decide) k_4_184 (fun x9 h9 => h9) rfl dJ5_putStringAt_47b60_12 ?_
    obtain ⟨vV_4, hg5, hf⟩ := o1_at hf
    have hpm : (cU g aU (.ref qV) vU ++ (cB g qV vV)).Perm ((cB g qV vV) ++ (cU g aU (.ref qV) vU)) := (kpc (fun P => by first | omega | (simp only [List.countP_append, List.countP_nil] <;> omega)))
    refine k_G (wc := cB g qV vV) (wr := cU g aU (.ref qV) vU) (w1 := fun (u : Nat → Nat) => cB g qV vV_4) (rv := fun (u : Nat → Nat) => (fun _ => none) u) hP hD hS hA hpm (va_runV (As := [.ref qV, .int x1, .int (vU.1 1)]) (rest := []) ⟨hx, hb, hml, hown, htu⟩ ((c_J0_getBytes_840e7_k l g qV vV x1 (vU.1 1) i0 hi0 vV_4 hg5) H.size) (cwV 3 htu (gU_V mw_5_57 hcJ0_getBytes_840e7) rfl rfl rfl hdJ0_getBytes_840e7 ⟨Nat.le_of_ble_eq_true rfl, Nat.le_of_ble_eq_true rfl⟩) (k_preV hK hP hD hS hA hG hpm (vk_recv hG.2.2.1 hi0 hS)) rfl rfl hl.1 rfl (lv_room (Nat.le_of_ble_eq_true rfl)) dJ5_putStringAt_47b60_15 ⟨Nat.zero_le _, Nat.zero_le _⟩) hQ_G (fun u7 H locs hP hD hS => ?_)
    refine W.eq (g2 := F0 m 18 ls []) rfl ?_
    have hP : va_P g.1 vwCl ((cB g qV vV_4) ++ (cU g aU (.ref qV) vU)) H := hP
    have hD : va_D A ((cB g qV vV_4) ++ (cU g aU (.ref qV) vU)) := hD
    have hP : va_P g.1 vwCl (cB g qV vV_4 ++ (cU g aU (.ref qV) vU)) H := hP.perm (kpc (fun P => by first | omega | (simp only [List.countP_append, List.countP_nil] <;> omega)))
    have hD : va_D A (cB g qV vV_4 ++ (cU g aU (.ref qV) vU)) := hD.perm (kpc (fun P => by first | omega | (simp only [List.countP_append, List.countP_nil] <;> omega)))
    have hP : va_P g.1 vwCl (cU g aU (.ref qV) vU ++ (cB g qV vV_4)) H := k_dropP hP (w3 := ([] : va_W)) (kpc (fun P => by first | omega | (simp only [List.countP_append, List.countP_nil] <;> omega)))
    have hD : va_D A (cU g aU (.ref qV) vU ++ (cB g qV vV_4)) := k_dropD hD (w3 := ([] : va_W)) (kpc (fun P => by first | omega | (simp only [List.countP_append, List.countP_nil] <;> omega)))
    have e8 := Option.some.inj hf
    rw [e8] at hP hD
    exact k_Gvret (w1 := fun (u : Nat → Nat) => cU g aU (.ref qV) vU ++ (cB g qV vV1)) (rv := fun (u : Nat → Nat) => (fun _ => none) u) (u := (fun i => 0)) hx hb hr hlocks hK hP hD hS rfl dJ5_putStringAt_47b60_18
  rw [hH, hlo] at hW
  exact hW
def f_J5_putStringAt_47b60_d (vU : Vs) (vV : Vs) (vZ : Vs) (vY : Vs) (x1 : Int32) : Option (Vs) :=
  o1 (f_J5_inflateIfNeededFor_a7421_d vU vV vZ vY) (fun _ => o1 (f_J0_getBytes_840e7_d vV vZ vY x1 (vU.1 1)) (fun (vV_4 : Vs) => some (vV_4)))
abbrev rmJ5_putStringAt_47b60_d : Room := { frames := 3, cells := 0, slots := 0, locals := 113 }
set_option maxHeartbeats 4000000 in
set_option maxRecDepth 100000 in
theorem c_J5_putStringAt_47b60_d (l : Launch) (g : Gx) (aU : Nat) (vU : Vs) (qV : Nat) (vV : Vs) (aZ : Nat) (vZ : Vs) (qY : Nat) (vY : Vs) (x1 : Int32) (vV1 : Vs) (hf : f_J5_putStringAt_47b60_d vU vV vZ vY x1 = some vV1) : CtG l yJ5_putStringAt_47b60 wsJ5_putStringAt_47b60 rmJ5_putStringAt_47b60_d g [.ref aU, .int x1, .ref aZ] (cU g aU (.ref qV) vU ++ (cB g qV vV ++ (cZ g aZ (.ref qY) vZ ++ (cB g qY vY)))) (fun (u : Nat → Nat) => cU g aU (.ref qV) vU ++ (cB g qV vV1 ++ (cZ g aZ (.ref qY) vZ ++ (cB g qY vY)))) (fun (u : Nat → Nat) => (fun _ => none) u) 0 0 := by
  unfold CtG
  intro sz
  refine Met.ofW (cc := cJ5_putStringAt_47b60) (maxL := 3) (ret := none) (by decide) rfl ?_
  intro p e s m args below meth c s₁ B hml hv
  obtain ⟨rfl, hsz, hP, hK, hD0, hG⟩ := hv
  have hx := B.exec
  have hb := B.bytes
  have hr := B.returns
  have hts := atoms_spec (ws := wsJ5_putStringAt_47b60) B.pre
  have hown : s.vm.findClass RJ5 = some m.cls := findClass_of_methodNamed B.named
  have hlocks := B.notSynchronized
  subst hsz
  have hD := hD0.self (sz := s.heap.size)
  generalize hAe : va_A (cU g aU (.ref qV) vU ++ (cB g qV vV ++ (cZ g aZ (.ref qY) vZ ++ (cB g qY vY)))) s.heap.size = A at hD hG ⊢
  have hA : ∀ q : Nat, s.heap.size ≤ q → A q := fun q h => by rw [← hAe]; exact Or.inr h
  clear hAe hD0
  have hS : va_S A s.heap s.heap [] := va_S.rf
  have hl := lv_entry ([.ref aU, .int x1, .ref aZ]) (n := 3) (Nat.le_of_ble_eq_true rfl)
  rw [lg_entry_eq]
  generalize (lg_sl ([.ref aU, .int x1, .ref aZ]) ++ List.replicate (3 - (lg_sl ([.ref aU, .int x1, .ref aZ])).length) Slot.unset).toArray = ls at hl ⊢
  have hl : lv_has ls 3 [(0, .ref aU), (1, .int x1), (2, .ref aZ)] := hl
  have htu : ∀ w ∈ UW, w.before _ s = true := fun w h => hts w (List.mem_cons_of_mem _ h)
  have k_4_183 := htu _ mw_4_183
  have k_4_184 := htu _ mw_4_184
  unfold f_J5_putStringAt_47b60_d at hf
  obtain ⟨H, hH⟩ : ∃ z, z = s.heap := ⟨_, rfl⟩
  obtain ⟨locs, hlo⟩ : ∃ z : List Loc, z = [] := ⟨_, rfl⟩
  have hS : va_S A s.heap H locs := by rw [hH, hlo]; exact hS
  rw [← hH] at hP
  have hW : W p l e (headSpec wsJ5_putStringAt_47b60 rmJ5_putStringAt_47b60_d).room s m ([.ref aU, .int x1, .ref aZ] : List Value).toArray below meth c H locs 0 0 (MQ below (qG g A (fun (u : Nat → Nat) => cU g aU (.ref qV) vU ++ (cB g qV vV1 ++ (cZ g aZ (.ref qY) vZ ++ (cB g qY vY)))) (fun (u : Nat → Nat) => (fun _ => none) u)) ([.ref aU, .int x1, .ref aZ] : List Value).toArray s 0 0 A) (F0 m 0 ls []) := by
    refine lv_aload_n hx hb dJ5_putStringAt_47b60_0 rfl (lv_at hl 0 rfl) ?_
    refine lv_aload_n hx hb dJ5_putStringAt_47b60_1 rfl (lv_at hl 2 rfl) ?_
    obtain ⟨_, hg1, hf⟩ := o1_at hf
    have hpm : (cU g aU (.ref qV) vU ++ (cB g qV vV ++ (cZ g aZ (.ref qY) vZ ++ (cB g qY vY)))).Perm ((cU g aU (.ref qV) vU ++ (cB g qV vV ++ (cZ g aZ (.ref qY) vZ ++ (cB g qY vY)))) ++ (([] : va_W))) := (kpc (fun P => by first | omega | (simp only [List.countP_append, List.countP_nil] <;> omega)))
    refine k_G (wc := cU g aU (.ref qV) vU ++ (cB g qV vV ++ (cZ g aZ (.ref qY) vZ ++ (cB g qY vY)))) (wr := ([] : va_W)) (w1 := fun (u : Nat → Nat) => cU g aU (.ref qV) vU ++ (cB g qV vV ++ (cZ g aZ (.ref qY) vZ ++ (cB g qY vY)))) (rv := fun (u : Nat → Nat) => (fun _ => none) u) hP hD hS hA hpm (va_runU (As := [.ref aZ]) (rest := []) ⟨hx, hb, hml, hown, htu⟩ ((c_J5_inflateIfNeededFor_a7421_d l g aU vU qV vV aZ vZ qY vY hg1) H.size) (va_cwU (C := RJ4) (owner := "java/lang/AbstractStringBuilder") (x := ⟨"java/lang/AbstractStringBuilder", "inflateIfNeededFor", "(Ljava/lang/String;)V"⟩) 1 htu (gU_U (List.forall_mem_cons.mpr ⟨mw_5_34, (List.forall_mem_cons.mpr ⟨mw_5_172, (List.forall_mem_cons.mpr ⟨ms_4, (List.forall_mem_cons.mpr ⟨mw_5_36, (List.forall_mem_cons.mpr ⟨mw_1_2, (fun _ h => nomatch h)⟩)⟩)⟩)⟩)⟩) mw_5_37) rfl rfl rfl rfl ⟨by decide +kernel, by decide +kernel, by decide +kernel⟩ ⟨Nat.le_of_ble_eq_true rfl, Nat.le_of_ble_eq_true rfl⟩) (k_preV (C := RJ4) hK hP hD hS hA hG hpm (va_recv (ci := 10) (q0 := 0) (fs := fcU (.ref qV) vU) (q := (RJ4, TJ4, 4)) hK hP rfl rfl)) rfl rfl hl.1 rfl (lv_room (Nat.le_of_ble_eq_true rfl)) dJ5_putStringAt_47b60_2 ⟨Nat.zero_le _, Nat.zero_le _⟩) hQ_G (fun u3 H locs hP hD hS => ?_)
    refine W.eq (g2 := F0 m 5 ls []) rfl ?_
    have hP : va_P g.1 vwCl ((cU g aU (.ref qV) vU ++ (cB g qV vV ++ (cZ g aZ (.ref qY) vZ ++ (cB g qY vY)))) ++ (([] : va_W))) H := hP
    have hD : va_D A ((cU g aU (.ref qV) vU ++ (cB g qV vV ++ (cZ g aZ (.ref qY) vZ ++ (cB g qY vY)))) ++ (([] : va_W))) := hD
    have hP : va_P g.1 vwCl (cU g aU (.ref qV) vU ++ (cB g qV vV ++ (cZ g aZ (.ref qY) vZ ++ (cB g qY vY)))) H := hP.perm (kpc (fun P => by first | omega | (simp only [List.countP_append, List.countP_nil] <;> omega)))
    have hD : va_D A (cU g aU (.ref qV) vU ++ (cB g qV vV ++ (cZ g aZ (.ref qY) vZ ++ (cB g qY vY)))) := hD.perm (kpc (fun P => by first | omega | (simp only [List.countP_append, List.countP_nil] <;> omega)))
    refine lv_aload_n hx hb dJ5_putStringAt_47b60_5 rfl (lv_at hl 2 rfl) ?_
    refine lv_aload_n hx hb dJ5_putStringAt_47b60_6 rfl (lv_at hl 0 rfl) ?_
    refine va_get (D := g.1) (ci := 10) (fs := fcU (.ref qV) vU) (v := .ref qV) (C := RJ4) (T := TJ4) (N := 4) hx hb htu hinJ4 hown hK hP 0 rfl rfl 0 (by decide) k_4_183 (fun x9 h9 => h9) rfl dJ5_putStringAt_47b60_7 ?_
    refine lv_iload_n hx hb dJ5_putStringAt_47b60_10 rfl (lv_at hl 1 rfl) ?_
    refine lv_aload_n hx hb dJ5_putStringAt_47b60_11 rfl (lv_at hl 0 rfl) ?_
    refine va_get (D := g.1) (ci := 10) (fs := fcU (.ref qV) vU) (v := .int (vU.1 1)) (C := RJ4) (T := TJ4) (N := 4) hx hb htu hinJ4 hown hK hP 0 rfl rfl 1 (by decide) k_4_184 (fun x9 h9 => h9) rfl dJ5_putStringAt_47b60_12 ?_
    obtain ⟨vV_4, hg5, hf⟩ := o1_at hf
    have hpm : (cU g aU (.ref qV) vU ++ (cB g qV vV ++ (cZ g aZ (.ref qY) vZ ++ (cB g qY vY)))).Perm ((cB g qV vV ++ (cZ g aZ (.ref qY) vZ ++ (cB g qY vY))) ++ (cU g aU (.ref qV) vU)) := (kpc (fun P => by first | omega | (simp only [List.countP_append, List.countP_nil] <;> omega)))
    refine k_G (wc := cB g qV vV ++ (cZ g aZ (.ref qY) vZ ++ (cB g qY vY))) (wr := cU g aU (.ref qV) vU) (w1 := fun (u : Nat → Nat) => cB g qV vV_4 ++ (cZ g aZ (.ref qY) vZ ++ (cB g qY vY))) (rv := fun (u : Nat → Nat) => (fun _ => none) u) hP hD hS hA hpm (va_runV (As := [.ref qV, .int x1, .int (vU.1 1)]) (rest := []) ⟨hx, hb, hml, hown, htu⟩ ((c_J0_getBytes_840e7_d l g qV vV aZ vZ qY vY x1 (vU.1 1) vV_4 hg5) H.size) (cwV 3 htu (gU_V mw_5_57 hcJ0_getBytes_840e7) rfl rfl rfl hdJ0_getBytes_840e7 ⟨Nat.le_of_ble_eq_true rfl, Nat.le_of_ble_eq_true rfl⟩) (k_preV (C := RJ0) hK hP hD hS hA hG hpm (va_recv (ci := 9) (q0 := 2) (fs := fcU (.ref qY) vZ) (q := (RJ0, TJ0, 4)) hK hP rfl rfl)) rfl rfl hl.1 rfl (lv_room (Nat.le_of_ble_eq_true rfl)) dJ5_putStringAt_47b60_15 ⟨Nat.zero_le _, Nat.zero_le _⟩) hQ_G (fun u7 H locs hP hD hS => ?_)
    refine W.eq (g2 := F0 m 18 ls []) rfl ?_
    have hP : va_P g.1 vwCl ((cB g qV vV_4 ++ (cZ g aZ (.ref qY) vZ ++ (cB g qY vY))) ++ (cU g aU (.ref qV) vU)) H := hP
    have hD : va_D A ((cB g qV vV_4 ++ (cZ g aZ (.ref qY) vZ ++ (cB g qY vY))) ++ (cU g aU (.ref qV) vU)) := hD
    have hP : va_P g.1 vwCl (cB g qV vV_4 ++ (cZ g aZ (.ref qY) vZ ++ (cB g qY vY ++ (cU g aU (.ref qV) vU)))) H := hP.perm (kpc (fun P => by first | omega | (simp only [List.countP_append, List.countP_nil] <;> omega)))
    have hD : va_D A (cB g qV vV_4 ++ (cZ g aZ (.ref qY) vZ ++ (cB g qY vY ++ (cU g aU (.ref qV) vU)))) := hD.perm (kpc (fun P => by first | omega | (simp only [List.countP_append, List.countP_nil] <;> omega)))
    have hP : va_P g.1 vwCl (cU g aU (.ref qV) vU ++ (cB g qV vV_4 ++ (cZ g aZ (.ref qY) vZ ++ (cB g qY vY)))) H := k_dropP hP (w3 := ([] : va_W)) (kpc (fun P => by first | omega | (simp only [List.countP_append, List.countP_nil] <;> omega)))
    have hD : va_D A (cU g aU (.ref qV) vU ++ (cB g qV vV_4 ++ (cZ g aZ (.ref qY) vZ ++ (cB g qY vY)))) := k_dropD hD (w3 := ([] : va_W)) (kpc (fun P => by first | omega | (simp only [List.countP_append, List.countP_nil] <;> omega)))
    have e8 := Option.some.inj hf
    rw [e8] at hP hD
    exact k_Gvret (w1 := fun (u : Nat → Nat) => cU g aU (.ref qV) vU ++ (cB g qV vV1 ++ (cZ g aZ (.ref qY) vZ ++ (cB g qY vY)))) (rv := fun (u : Nat → Nat) => (fun _ => none) u) (u := (fun i => 0)) hx hb hr hlocks hK hP hD hS rfl dJ5_putStringAt_47b60_18
  rw [hH, hlo] at hW
  exact hW
def f_J5_append_cf1ce_k (vU : Vs) (vV : Vs) (i0 : Nat) : Option (Vs × Vs) :=
  o1 (f_J0_length_8abf5 i0) (fun (r1 : Int32) => gd (decide (0 + 1 ≤ 1 ∧ 0 + 400 ≤ 400)) (o1 (f_J5_ensureCapacityInternal_d00df vU vV ((vU.1 3) + r1)) (fun (vV_5 : Vs) => gd (decide ((0 + 1) ≤ 1 ∧ (0 + 400) ≤ 400)) (o1 (f_J5_putStringAt_47b60_k vU vV_5 (vU.1 3) i0) (fun (vV_9 : Vs) => bn (sF vU 3 ((vU.1 3) + r1)) (fun (vU_13 : Vs) => gd (decide ((0 + 1) ≤ 1 ∧ (0 + 400) ≤ 400)) (some (vU_13, vV_9))))))))
abbrev wsJ5_append_cf1ce : List Cond := .code yJ5_append_cf1ce cJ5_append_cf1ce 3 (some (.object "java/lang/AbstractStringBuilder")) :: UW
abbrev rmJ5_append_cf1ce_k : Room := { frames := 4, cells := 1, slots := 400, locals := 160 }
set_option maxHeartbeats 4000000 in
set_option maxRecDepth 100000 in
theorem c_J5_append_cf1ce_k (l : Launch) (g : Gx) (aU : Nat) (vU : Vs) (qV : Nat) (vV : Vs) (i0 : Nat) (hi0 : i0 < 27) (vU1 : Vs) (vV1 : Vs) (hf : f_J5_append_cf1ce_k vU vV i0 = some (vU1, vV1)) : CtG l yJ5_append_cf1ce wsJ5_append_cf1ce rmJ5_append_cf1ce_k g [.ref aU, .ref (adK g i0)] (cU g aU (.ref qV) vU ++ (cB g qV vV)) (fun (u : Nat → Nat) => cU g aU (.ref (u 0)) vU1 ++ (cB g (u 0) vV1)) (fun (u : Nat → Nat) => (fun u => some (.ref aU)) u) 1 400 := by
  unfold CtG
  intro sz
  refine Met.ofW (cc := cJ5_append_cf1ce) (maxL := 3) (ret := (some (.object "java/lang/AbstractStringBuilder"))) (by decide) rfl ?_
  intro p e s m args below meth c s₁ B hml hv
  obtain ⟨rfl, hsz, hP, hK, hD0, hG⟩ := hv
  have hx := B.exec
  have hb := B.bytes
  have hr := B.returns
  have hts := atoms_spec (ws := wsJ5_append_cf1ce) B.pre
  have hown : s.vm.findClass RJ5 = some m.cls := findClass_of_methodNamed B.named
  have hlocks := B.notSynchronized
  subst hsz
  have hD := hD0.self (sz := s.heap.size)
  generalize hAe : va_A (cU g aU (.ref qV) vU ++ (cB g qV vV)) s.heap.size = A at hD hG ⊢
  have hA : ∀ q : Nat, s.heap.size ≤ q → A q := fun q h => by rw [← hAe]; exact Or.inr h
  clear hAe hD0
  have hS : va_S A s.heap s.heap [] := va_S.rf
  have hl := lv_entry ([.ref aU, .ref (adK g i0)]) (n := 3) (Nat.le_of_ble_eq_true rfl)
  rw [lg_entry_eq]
  generalize (lg_sl ([.ref aU, .ref (adK g i0)]) ++ List.replicate (3 - (lg_sl ([.ref aU, .ref (adK g i0)])).length) Slot.unset).toArray = ls at hl ⊢
  have hl : lv_has ls 3 [(0, .ref aU), (1, .ref (adK g i0))] := hl
  have htu : ∀ w ∈ UW, w.before _ s = true := fun w h => hts w (List.mem_cons_of_mem _ h)
  have k_4_186 := htu _ mw_4_186
  unfold f_J5_append_cf1ce_k at hf
  obtain ⟨H, hH⟩ : ∃ z, z = s.heap := ⟨_, rfl⟩
  obtain ⟨locs, hlo⟩ : ∃ z : List Loc, z = [] := ⟨_, rfl⟩
  have hS : va_S A s.heap H locs := by rw [hH, hlo]; exact hS
  rw [← hH] at hP
  have hW : W p l e (headSpec wsJ5_append_cf1ce rmJ5_append_cf1ce_k).room s m ([.ref aU, .ref (adK g i0)] : List Value).toArray below meth c H locs 0 0 (MQ below (qG g A (fun (u : Nat → Nat) => cU g aU (.ref (u 0)) vU1 ++ (cB g (u 0) vV1)) (fun (u : Nat → Nat) => (fun u => some (.ref aU)) u)) ([.ref aU, .ref (adK g i0)] : List Value).toArray s 1 400 A) (F0 m 0 ls []) := by
    refine lv_aload_n hx hb dJ5_append_cf1ce_0 rfl (lv_at hl 1 rfl) ?_
    refine lv_ifnonnull (tgt := 9) hx hb dJ5_append_cf1ce_1 (by decide) ?_
    refine lv_aload_n hx hb dJ5_append_cf1ce_9 rfl (lv_at hl 1 rfl) ?_
    obtain ⟨r1, hg2, hf⟩ := o1_at hf
    have hpm : (cU g aU (.ref qV) vU ++ (cB g qV vV)).Perm ((([] : va_W)) ++ (cU g aU (.ref qV) vU ++ (cB g qV vV))) := (kpc (fun P => by first | omega | (simp only [List.countP_append, List.countP_nil] <;> omega)))
    refine k_G (wc := ([] : va_W)) (wr := cU g aU (.ref qV) vU ++ (cB g qV vV)) (w1 := fun (u : Nat → Nat) => ([] : va_W)) (rv := fun (u : Nat → Nat) => (fun _ => some (.int r1)) u) hP hD hS hA hpm (va_runV (As := []) (rest := []) ⟨hx, hb, hml, hown, htu⟩ ((c_J0_length_8abf5 l g i0 hi0 r1 hg2) H.size) (cwV 0 htu (gU_V mw_4_202 hcJ0_length_8abf5) rfl rfl rfl hdJ0_length_8abf5 ⟨Nat.le_of_ble_eq_true rfl, Nat.le_of_ble_eq_true rfl⟩) (k_preV hK hP hD hS hA hG hpm (vk_recv hG.2.2.1 hi0 hS)) rfl rfl hl.1 rfl (lv_room (Nat.le_of_ble_eq_true rfl)) dJ5_append_cf1ce_10 ⟨Nat.zero_le _, Nat.zero_le _⟩) hQ_I (fun u4 H locs hP hD hS => ?_)
    refine W.eq (g2 := F0 m 13 ls [.int r1]) rfl ?_
    have hP : va_P g.1 vwCl ((([] : va_W)) ++ (cU g aU (.ref qV) vU ++ (cB g qV vV))) H := hP
    have hD : va_D A ((([] : va_W)) ++ (cU g aU (.ref qV) vU ++ (cB g qV vV))) := hD
    have hP : va_P g.1 vwCl (cU g aU (.ref qV) vU ++ (cB g qV vV)) H := hP.perm (kpc (fun P => by first | omega | (simp only [List.countP_append, List.countP_nil] <;> omega)))
    have hD : va_D A (cU g aU (.ref qV) vU ++ (cB g qV vV)) := hD.perm (kpc (fun P => by first | omega | (simp only [List.countP_append, List.countP_nil] <;> omega)))
    refine lv_istore_n (lv' := [(2, .int r1), (0, .ref aU), (1, .ref (adK g i0))]) hx hb dJ5_append_cf1ce_13 rfl hl (by decide) rfl (fun ls hl => ?_)
    refine lv_aload_n hx hb dJ5_append_cf1ce_14 rfl (lv_at hl 1 rfl) ?_
    refine lv_aload_n hx hb dJ5_append_cf1ce_15 rfl (lv_at hl 1 rfl) ?_
    refine va_get (D := g.1) (ci := 10) (fs := fcU (.ref qV) vU) (v := .int (vU.1 3)) (C := RJ4) (T := TJ4) (N := 4) hx hb htu hinJ4 hown hK hP 0 rfl rfl 3 (by decide) k_4_186 (fun x9 h9 => h9) rfl dJ5_append_cf1ce_16 ?_
    refine lv_iload_n hx hb dJ5_append_cf1ce_19 rfl (lv_at hl 0 rfl) ?_
    refine lv_iadd hx hb dJ5_append_cf1ce_20 ?_
    obtain ⟨h7, hf⟩ := gd_at hf
    obtain ⟨vV_5, hg6, hf⟩ := o1_at hf
    have hpm : (cU g aU (.ref qV) vU ++ (cB g qV vV)).Perm ((cU g aU (.ref qV) vU ++ (cB g qV vV)) ++ (([] : va_W))) := (kpc (fun P => by first | omega | (simp only [List.countP_append, List.countP_nil] <;> omega)))
    refine k_G (wc := cU g aU (.ref qV) vU ++ (cB g qV vV)) (wr := ([] : va_W)) (w1 := fun (u : Nat → Nat) => cU g aU (.ref (u 0)) vU ++ (cB g (u 0) vV_5)) (rv := fun (u : Nat → Nat) => (fun _ => none) u) hP hD hS hA hpm (va_runU (As := [.int ((vU.1 3) + r1)]) (rest := []) ⟨hx, hb, hml, hown, htu⟩ ((c_J5_ensureCapacityInternal_d00df l g aU vU qV vV ((vU.1 3) + r1) vV_5 hg6) H.size) (va_cwU (C := RJ4) (owner := "java/lang/AbstractStringBuilder") (x := ⟨"java/lang/AbstractStringBuilder", "ensureCapacityInternal", "(I)V"⟩) 1 htu (gU_U (List.forall_mem_cons.mpr ⟨mw_4_222, (List.forall_mem_cons.mpr ⟨mw_5_169, (List.forall_mem_cons.mpr ⟨ms_1, (List.forall_mem_cons.mpr ⟨mw_4_224, (List.forall_mem_cons.mpr ⟨mw_1_2, (fun _ h => nomatch h)⟩)⟩)⟩)⟩)⟩) mw_4_225) rfl rfl rfl rfl ⟨by decide +kernel, by decide +kernel, by decide +kernel⟩ ⟨Nat.le_of_ble_eq_true rfl, Nat.le_of_ble_eq_true rfl⟩) (k_preV (C := RJ4) hK hP hD hS hA hG hpm (va_recv (ci := 10) (q0 := 0) (fs := fcU (.ref qV) vU) (q := (RJ4, TJ4, 4)) hK hP rfl rfl)) rfl rfl hl.1 rfl (lv_room (Nat.le_of_ble_eq_true rfl)) dJ5_append_cf1ce_21 (of_decide_eq_true h7)) hQ_G (fun u8 H locs hP hD hS => ?_)
    refine W.eq (g2 := F0 m 24 ls []) rfl ?_
    have hP : va_P g.1 vwCl ((cU g aU (.ref (u8 0)) vU ++ (cB g (u8 0) vV_5)) ++ (([] : va_W))) H := hP
    have hD : va_D A ((cU g aU (.ref (u8 0)) vU ++ (cB g (u8 0) vV_5)) ++ (([] : va_W))) := hD
    have hP : va_P g.1 vwCl (cU g aU (.ref (u8 0)) vU ++ (cB g (u8 0) vV_5)) H := hP.perm (kpc (fun P => by first | omega | (simp only [List.countP_append, List.countP_nil] <;> omega)))
    have hD : va_D A (cU g aU (.ref (u8 0)) vU ++ (cB g (u8 0) vV_5)) := hD.perm (kpc (fun P => by first | omega | (simp only [List.countP_append, List.countP_nil] <;> omega)))
    refine lv_aload_n hx hb dJ5_append_cf1ce_24 rfl (lv_at hl 1 rfl) ?_
    refine lv_aload_n hx hb dJ5_append_cf1ce_25 rfl (lv_at hl 1 rfl) ?_
    refine va_get (D := g.1) (ci := 10) (fs := fcU (.ref (u8 0)) vU) (v := .int (vU.1 3)) (C := RJ4) (T := TJ4) (N := 4) hx hb htu hinJ4 hown hK hP 0 rfl rfl 3 (by decide) k_4_186 (fun x9 h9 => h9) rfl dJ5_append_cf1ce_26 ?_
    refine lv_aload_n hx hb dJ5_append_cf1ce_29 rfl (lv_at hl 2 rfl) ?_
    obtain ⟨h11, hf⟩ := gd_at hf
    obtain ⟨vV_9, hg10, hf⟩ := o1_at hf
    have hpm : (cU g aU (.ref (u8 0)) vU ++ (cB g (u8 0) vV_5)).Perm ((cU g aU (.ref (u8 0)) vU ++ (cB g (u8 0) vV_5)) ++ (([] : va_W))) := (kpc (fun P => by first | omega | (simp only [List.countP_append, List.countP_nil] <;> omega)))
    refine k_G (wc := cU g aU (.ref (u8 0)) vU ++ (cB g (u8 0) vV_5)) (wr := ([] : va_W)) (w1 := fun (u : Nat → Nat) => cU g aU (.ref (u8 0)) vU ++ (cB g (u8 0) vV_9)) (rv := fun (u : Nat → Nat) => (fun _ => none) u) hP hD hS hA hpm (va_runU (As := [.int (vU.1 3), .ref (adK g i0)]) (rest := []) ⟨hx, hb, hml, hown, htu⟩ ((c_J5_putStringAt_47b60_k l g aU vU (u8 0) vV_5 (vU.1 3) i0 hi0 vV_9 hg10) H.size) (va_cwU (C := RJ4) (owner := "java/lang/AbstractStringBuilder") (x := ⟨"java/lang/AbstractStringBuilder", "putStringAt", "(ILjava/lang/String;)V"⟩) 2 htu (gU_U (List.forall_mem_cons.mpr ⟨mw_5_30, (List.forall_mem_cons.mpr ⟨mw_5_171, (List.forall_mem_cons.mpr ⟨ms_3, (List.forall_mem_cons.mpr ⟨mw_5_32, (List.forall_mem_cons.mpr ⟨mw_1_2, (fun _ h => nomatch h)⟩)⟩)⟩)⟩)⟩) mw_5_33) rfl rfl rfl rfl ⟨by decide +kernel, by decide +kernel, by decide +kernel⟩ ⟨Nat.le_of_ble_eq_true rfl, Nat.le_of_ble_eq_true rfl⟩) (k_preV (C := RJ4) hK hP hD hS hA hG hpm (va_recv (ci := 10) (q0 := 0) (fs := fcU (.ref (u8 0)) vU) (q := (RJ4, TJ4, 4)) hK hP rfl rfl)) rfl rfl hl.1 rfl (lv_room (Nat.le_of_ble_eq_true rfl)) dJ5_append_cf1ce_30 (of_decide_eq_true h11)) hQ_G (fun u12 H locs hP hD hS => ?_)
    refine W.eq (g2 := F0 m 33 ls []) rfl ?_
    have hP : va_P g.1 vwCl ((cU g aU (.ref (u8 0)) vU ++ (cB g (u8 0) vV_9)) ++ (([] : va_W))) H := hP
    have hD : va_D A ((cU g aU (.ref (u8 0)) vU ++ (cB g (u8 0) vV_9)) ++ (([] : va_W))) := hD
    have hP : va_P g.1 vwCl (cU g aU (.ref (u8 0)) vU ++ (cB g (u8 0) vV_9)) H := hP.perm (kpc (fun P => by first | omega | (simp only [List.countP_append, List.countP_nil] <;> omega)))
    have hD : va_D A (cU g aU (.ref (u8 0)) vU ++ (cB g (u8 0) vV_9)) := hD.perm (kpc (fun P => by first | omega | (simp only [List.countP_append, List.countP_nil] <;> omega)))
    refine lv_aload_n hx hb dJ5_append_cf1ce_33 rfl (lv_at hl 1 rfl) ?_
    refine lv_dup hx hb dJ5_append_cf1ce_34 rfl ?_
    refine va_get (D := g.1) (ci := 10) (fs := fcU (.ref (u8 0)) vU) (v := .int (vU.1 3)) (C := RJ4) (T := TJ4) (N := 4) hx hb htu hinJ4 hown hK hP 0 rfl rfl 3 (by decide) k_4_186 (fun x9 h9 => h9) rfl dJ5_append_cf1ce_35 ?_
    refine lv_iload_n hx hb dJ5_append_cf1ce_38 rfl (lv_at hl 0 rfl) ?_
    refine lv_iadd hx hb dJ5_append_cf1ce_39 ?_
    refine va_put (D := g.1) (ci := 10) (fs := fcU (.ref (u8 0)) vU) (v := .int ((vU.1 3) + r1)) (ty := .int) (C := RJ4) (T := TJ4) (N := 4) hx hb htu hinJ4 tyJ4 tyJ4_ok nmJ4 hown hK hP hD hS 0 rfl rfl 3 (by decide) k_4_186 (fun _ h9 => h9) rfl (by decide +kernel) rfl rfl (Nat.le_of_ble_eq_true rfl) dJ5_append_cf1ce_40 (fun H locs hP hD hS => ?_)
    obtain ⟨vU_13, evU_13⟩ : ∃ z : Vs, z = sF vU 3 ((vU.1 3) + r1) := ⟨_, rfl⟩
    have hf := bn_at hf evU_13
    have hP : va_P g.1 vwCl (cU g aU (.ref (u8 0)) vU_13 ++ (cB g (u8 0) vV_9)) H := by rw [evU_13]; exact hP
    have hD : va_D A (cU g aU (.ref (u8 0)) vU_13 ++ (cB g (u8 0) vV_9)) := by rw [evU_13]; exact hD
    refine lv_aload_n hx hb dJ5_append_cf1ce_43 rfl (lv_at hl 1 rfl) ?_
    obtain ⟨h14, hf⟩ := gd_at hf
    obtain ⟨e15, e16⟩ := kp_2 hf
    rw [e15] at hP hD
    rw [e16] at hP hD
    refine W.widen (k := 1) (n := 400) (of_decide_eq_true h14).1 (of_decide_eq_true h14).2 ?_
    exact k_Garet (w1 := fun (u : Nat → Nat) => cU g aU (.ref (u 0)) vU1 ++ (cB g (u 0) vV1)) (rv := fun (u : Nat → Nat) => (fun u => some (.ref aU)) u) (u := (fun i => if i = 0 then (u8 0) else 0)) hx hb hr (Or.inl ⟨_, rfl⟩) hlocks hK hP hD hS rfl dJ5_append_cf1ce_44
  rw [hH, hlo] at hW
  exact hW
def f_J5_append_cf1ce_d (vU : Vs) (vV : Vs) (vZ : Vs) (vY : Vs) : Option (Vs × Vs) :=
  o1 (f_J0_length_8abf5_d vZ vY) (fun (r1 : Int32) => gd (decide (0 + 1 ≤ 1 ∧ 0 + 400 ≤ 400)) (o1 (f_J5_ensureCapacityInternal_d00df vU vV ((vU.1 3) + r1)) (fun (vV_5 : Vs) => gd (decide ((0 + 1) ≤ 1 ∧ (0 + 400) ≤ 400)) (o1 (f_J5_putStringAt_47b60_d vU vV_5 vZ vY (vU.1 3)) (fun (vV_9 : Vs) => bn (sF vU 3 ((vU.1 3) + r1)) (fun (vU_13 : Vs) => gd (decide ((0 + 1) ≤ 1 ∧ (0 + 400) ≤ 400)) (some (vU_13, vV_9))))))))
abbrev rmJ5_append_cf1ce_d : Room := { frames := 4, cells := 1, slots := 400, locals := 160 }
set_option maxHeartbeats 4000000 in
set_option maxRecDepth 100000 in
theorem c_J5_append_cf1ce_d (l : Launch) (g : Gx) (aU : Nat) (vU : Vs) (qV : Nat) (vV : Vs) (aZ : Nat) (vZ : Vs) (qY : Nat) (vY : Vs) (vU1 : Vs) (vV1 : Vs) (hf : f_J5_append_cf1ce_d vU vV vZ vY = some (vU1, vV1)) : CtG l yJ5_append_cf1ce wsJ5_append_cf1ce rmJ5_append_cf1ce_d g [.ref aU, .ref aZ] (cU g aU (.ref qV) vU ++ (cB g qV vV ++ (cZ g aZ (.ref qY) vZ ++ (cB g qY vY)))) (fun (u : Nat → Nat) => cU g aU (.ref (u 0)) vU1 ++ (cB g (u 0) vV1 ++ (cZ g aZ (.ref qY) vZ ++ (cB g qY vY)))) (fun (u : Nat → Nat) => (fun u => some (.ref aU)) u) 1 400 := by
  unfold CtG
  intro sz
  refine Met.ofW (cc := cJ5_append_cf1ce) (maxL := 3) (ret := (some (.object "java/lang/AbstractStringBuilder"))) (by decide) rfl ?_
  intro p e s m args below meth c s₁ B hml hv
  obtain ⟨rfl, hsz, hP, hK, hD0, hG⟩ := hv
  have hx := B.exec
  have hb := B.bytes
  have hr := B.returns
  have hts := atoms_spec (ws := wsJ5_append_cf1ce) B.pre
  have hown : s.vm.findClass RJ5 = some m.cls := findClass_of_methodNamed B.named
  have hlocks := B.notSynchronized
  subst hsz
  have hD := hD0.self (sz := s.heap.size)
  generalize hAe : va_A (cU g aU (.ref qV) vU ++ (cB g qV vV ++ (cZ g aZ (.ref qY) vZ ++ (cB g qY vY)))) s.heap.size = A at hD hG ⊢
  have hA : ∀ q : Nat, s.heap.size ≤ q → A q := fun q h => by rw [← hAe]; exact Or.inr h
  clear hAe hD0
  have hS : va_S A s.heap s.heap [] := va_S.rf
  have hl := lv_entry ([.ref aU, .ref aZ]) (n := 3) (Nat.le_of_ble_eq_true rfl)
  rw [lg_entry_eq]
  generalize (lg_sl ([.ref aU, .ref aZ]) ++ List.replicate (3 - (lg_sl ([.ref aU, .ref aZ])).length) Slot.unset).toArray = ls at hl ⊢
  have hl : lv_has ls 3 [(0, .ref aU), (1, .ref aZ)] := hl
  have htu : ∀ w ∈ UW, w.before _ s = true := fun w h => hts w (List.mem_cons_of_mem _ h)
  have k_4_186 := htu _ mw_4_186
  unfold f_J5_append_cf1ce_d at hf
  obtain ⟨H, hH⟩ : ∃ z, z = s.heap := ⟨_, rfl⟩
  obtain ⟨locs, hlo⟩ : ∃ z : List Loc, z = [] := ⟨_, rfl⟩
  have hS : va_S A s.heap H locs := by rw [hH, hlo]; exact hS
  rw [← hH] at hP
  have hW : W p l e (headSpec wsJ5_append_cf1ce rmJ5_append_cf1ce_d).room s m ([.ref aU, .ref aZ] : List Value).toArray below meth c H locs 0 0 (MQ below (qG g A (fun (u : Nat → Nat) => cU g aU (.ref (u 0)) vU1 ++ (cB g (u 0) vV1 ++ (cZ g aZ (.ref qY) vZ ++ (cB g qY vY)))) (fun (u : Nat → Nat) => (fun u => some (.ref aU)) u)) ([.ref aU, .ref aZ] : List Value).toArray s 1 400 A) (F0 m 0 ls []) := by
    refine lv_aload_n hx hb dJ5_append_cf1ce_0 rfl (lv_at hl 1 rfl) ?_
    refine lv_ifnonnull (tgt := 9) hx hb dJ5_append_cf1ce_1 (by decide) ?_
    refine lv_aload_n hx hb dJ5_append_cf1ce_9 rfl (lv_at hl 1 rfl) ?_
    obtain ⟨r1, hg2, hf⟩ := o1_at hf
    have hpm : (cU g aU (.ref qV) vU ++ (cB g qV vV ++ (cZ g aZ (.ref qY) vZ ++ (cB g qY vY)))).Perm ((cZ g aZ (.ref qY) vZ ++ (cB g qY vY)) ++ (cU g aU (.ref qV) vU ++ (cB g qV vV))) := (kpc (fun P => by first | omega | (simp only [List.countP_append, List.countP_nil] <;> omega)))
    refine k_G (wc := cZ g aZ (.ref qY) vZ ++ (cB g qY vY)) (wr := cU g aU (.ref qV) vU ++ (cB g qV vV)) (w1 := fun (u : Nat → Nat) => cZ g aZ (.ref qY) vZ ++ (cB g qY vY)) (rv := fun (u : Nat → Nat) => (fun _ => some (.int r1)) u) hP hD hS hA hpm (va_runV (As := []) (rest := []) ⟨hx, hb, hml, hown, htu⟩ ((c_J0_length_8abf5_d l g aZ vZ qY vY r1 hg2) H.size) (cwV 0 htu (gU_V mw_4_202 hcJ0_length_8abf5) rfl rfl rfl hdJ0_length_8abf5 ⟨Nat.le_of_ble_eq_true rfl, Nat.le_of_ble_eq_true rfl⟩) (k_preV (C := RJ0) hK hP hD hS hA hG hpm (va_recv (ci := 9) (q0 := 2) (fs := fcU (.ref qY) vZ) (q := (RJ0, TJ0, 4)) hK hP rfl rfl)) rfl rfl hl.1 rfl (lv_room (Nat.le_of_ble_eq_true rfl)) dJ5_append_cf1ce_10 ⟨Nat.zero_le _, Nat.zero_le _⟩) hQ_G (fun u4 H locs hP hD hS => ?_)
    refine W.eq (g2 := F0 m 13 ls [.int r1]) rfl ?_
    have hP : va_P g.1 vwCl ((cZ g aZ (.ref qY) vZ ++ (cB g qY vY)) ++ (cU g aU (.ref qV) vU ++ (cB g qV vV))) H := hP
    have hD : va_D A ((cZ g aZ (.ref qY) vZ ++ (cB g qY vY)) ++ (cU g aU (.ref qV) vU ++ (cB g qV vV))) := hD
    have hP : va_P g.1 vwCl (cZ g aZ (.ref qY) vZ ++ (cB g qY vY ++ (cU g aU (.ref qV) vU ++ (cB g qV vV)))) H := hP.perm (kpc (fun P => by first | omega | (simp only [List.countP_append, List.countP_nil] <;> omega)))
    have hD : va_D A (cZ g aZ (.ref qY) vZ ++ (cB g qY vY ++ (cU g aU (.ref qV) vU ++ (cB g qV vV)))) := hD.perm (kpc (fun P => by first | omega | (simp only [List.countP_append, List.countP_nil] <;> omega)))
    refine lv_istore_n (lv' := [(2, .int r1), (0, .ref aU), (1, .ref aZ)]) hx hb dJ5_append_cf1ce_13 rfl hl (by decide) rfl (fun ls hl => ?_)
    refine lv_aload_n hx hb dJ5_append_cf1ce_14 rfl (lv_at hl 1 rfl) ?_
    refine lv_aload_n hx hb dJ5_append_cf1ce_15 rfl (lv_at hl 1 rfl) ?_
    refine va_get (D := g.1) (ci := 10) (fs := fcU (.ref qV) vU) (v := .int (vU.1 3)) (C := RJ4) (T := TJ4) (N := 4) hx hb htu hinJ4 hown hK hP 2 rfl rfl 3 (by decide) k_4_186 (fun x9 h9 => h9) rfl dJ5_append_cf1ce_16 ?_
    refine lv_iload_n hx hb dJ5_append_cf1ce_19 rfl (lv_at hl 0 rfl) ?_
    refine lv_iadd hx hb dJ5_append_cf1ce_20 ?_
    obtain ⟨h7, hf⟩ := gd_at hf
    obtain ⟨vV_5, hg6, hf⟩ := o1_at hf
    have hpm : (cZ g aZ (.ref qY) vZ ++ (cB g qY vY ++ (cU g aU (.ref qV) vU ++ (cB g qV vV)))).Perm ((cU g aU (.ref qV) vU ++ (cB g qV vV)) ++ (cZ g aZ (.ref qY) vZ ++ (cB g qY vY))) := (kpc (fun P => by first | omega | (simp only [List.countP_append, List.countP_nil] <;> omega)))
    refine k_G (wc := cU g aU (.ref qV) vU ++ (cB g qV vV)) (wr := cZ g aZ (.ref qY) vZ ++ (cB g qY vY)) (w1 := fun (u : Nat → Nat) => cU g aU (.ref (u 0)) vU ++ (cB g (u 0) vV_5)) (rv := fun (u : Nat → Nat) => (fun _ => none) u) hP hD hS hA hpm (va_runU (As := [.int ((vU.1 3) + r1)]) (rest := []) ⟨hx, hb, hml, hown, htu⟩ ((c_J5_ensureCapacityInternal_d00df l g aU vU qV vV ((vU.1 3) + r1) vV_5 hg6) H.size) (va_cwU (C := RJ4) (owner := "java/lang/AbstractStringBuilder") (x := ⟨"java/lang/AbstractStringBuilder", "ensureCapacityInternal", "(I)V"⟩) 1 htu (gU_U (List.forall_mem_cons.mpr ⟨mw_4_222, (List.forall_mem_cons.mpr ⟨mw_5_169, (List.forall_mem_cons.mpr ⟨ms_1, (List.forall_mem_cons.mpr ⟨mw_4_224, (List.forall_mem_cons.mpr ⟨mw_1_2, (fun _ h => nomatch h)⟩)⟩)⟩)⟩)⟩) mw_4_225) rfl rfl rfl rfl ⟨by decide +kernel, by decide +kernel, by decide +kernel⟩ ⟨Nat.le_of_ble_eq_true rfl, Nat.le_of_ble_eq_true rfl⟩) (k_preV (C := RJ4) hK hP hD hS hA hG hpm (va_recv (ci := 10) (q0 := 2) (fs := fcU (.ref qV) vU) (q := (RJ4, TJ4, 4)) hK hP rfl rfl)) rfl rfl hl.1 rfl (lv_room (Nat.le_of_ble_eq_true rfl)) dJ5_append_cf1ce_21 (of_decide_eq_true h7)) hQ_G (fun u8 H locs hP hD hS => ?_)
    refine W.eq (g2 := F0 m 24 ls []) rfl ?_
    have hP : va_P g.1 vwCl ((cU g aU (.ref (u8 0)) vU ++ (cB g (u8 0) vV_5)) ++ (cZ g aZ (.ref qY) vZ ++ (cB g qY vY))) H := hP
    have hD : va_D A ((cU g aU (.ref (u8 0)) vU ++ (cB g (u8 0) vV_5)) ++ (cZ g aZ (.ref qY) vZ ++ (cB g qY vY))) := hD
    have hP : va_P g.1 vwCl (cU g aU (.ref (u8 0)) vU ++ (cB g (u8 0) vV_5 ++ (cZ g aZ (.ref qY) vZ ++ (cB g qY vY)))) H := hP.perm (kpc (fun P => by first | omega | (simp only [List.countP_append, List.countP_nil] <;> omega)))
    have hD : va_D A (cU g aU (.ref (u8 0)) vU ++ (cB g (u8 0) vV_5 ++ (cZ g aZ (.ref qY) vZ ++ (cB g qY vY)))) := hD.perm (kpc (fun P => by first | omega | (simp only [List.countP_append, List.countP_nil] <;> omega)))
    refine lv_aload_n hx hb dJ5_append_cf1ce_24 rfl (lv_at hl 1 rfl) ?_
    refine lv_aload_n hx hb dJ5_append_cf1ce_25 rfl (lv_at hl 1 rfl) ?_
    refine va_get (D := g.1) (ci := 10) (fs := fcU (.ref (u8 0)) vU) (v := .int (vU.1 3)) (C := RJ4) (T := TJ4) (N := 4) hx hb htu hinJ4 hown hK hP 0 rfl rfl 3 (by decide) k_4_186 (fun x9 h9 => h9) rfl dJ5_append_cf1ce_26 ?_
    refine lv_aload_n hx hb dJ5_append_cf1ce_29 rfl (lv_at hl 2 rfl) ?_
    obtain ⟨h11, hf⟩ := gd_at hf
    obtain ⟨vV_9, hg10, hf⟩ := o1_at hf
    have hpm : (cU g aU (.ref (u8 0)) vU ++ (cB g (u8 0) vV_5 ++ (cZ g aZ (.ref qY) vZ ++ (cB g qY vY)))).Perm ((cU g aU (.ref (u8 0)) vU ++ (cB g (u8 0) vV_5 ++ (cZ g aZ (.ref qY) vZ ++ (cB g qY vY)))) ++ (([] : va_W))) := (kpc (fun P => by first | omega | (simp only [List.countP_append, List.countP_nil] <;> omega)))
    refine k_G (wc := cU g aU (.ref (u8 0)) vU ++ (cB g (u8 0) vV_5 ++ (cZ g aZ (.ref qY) vZ ++ (cB g qY vY)))) (wr := ([] : va_W)) (w1 := fun (u : Nat → Nat) => cU g aU (.ref (u8 0)) vU ++ (cB g (u8 0) vV_9 ++ (cZ g aZ (.ref qY) vZ ++ (cB g qY vY)))) (rv := fun (u : Nat → Nat) => (fun _ => none) u) hP hD hS hA hpm (va_runU (As := [.int (vU.1 3), .ref aZ]) (rest := []) ⟨hx, hb, hml, hown, htu⟩ ((c_J5_putStringAt_47b60_d l g aU vU (u8 0) vV_5 aZ vZ qY vY (vU.1 3) vV_9 hg10) H.size) (va_cwU (C := RJ4) (owner := "java/lang/AbstractStringBuilder") (x := ⟨"java/lang/AbstractStringBuilder", "putStringAt", "(ILjava/lang/String;)V"⟩) 2 htu (gU_U (List.forall_mem_cons.mpr ⟨mw_5_30, (List.forall_mem_cons.mpr ⟨mw_5_171, (List.forall_mem_cons.mpr ⟨ms_3, (List.forall_mem_cons.mpr ⟨mw_5_32, (List.forall_mem_cons.mpr ⟨mw_1_2, (fun _ h => nomatch h)⟩)⟩)⟩)⟩)⟩) mw_5_33) rfl rfl rfl rfl ⟨by decide +kernel, by decide +kernel, by decide +kernel⟩ ⟨Nat.le_of_ble_eq_true rfl, Nat.le_of_ble_eq_true rfl⟩) (k_preV (C := RJ4) hK hP hD hS hA hG hpm (va_recv (ci := 10) (q0 := 0) (fs := fcU (.ref (u8 0)) vU) (q := (RJ4, TJ4, 4)) hK hP rfl rfl)) rfl rfl hl.1 rfl (lv_room (Nat.le_of_ble_eq_true rfl)) dJ5_append_cf1ce_30 (of_decide_eq_true h11)) hQ_G (fun u12 H locs hP hD hS => ?_)
    refine W.eq (g2 := F0 m 33 ls []) rfl ?_
    have hP : va_P g.1 vwCl ((cU g aU (.ref (u8 0)) vU ++ (cB g (u8 0) vV_9 ++ (cZ g aZ (.ref qY) vZ ++ (cB g qY vY)))) ++ (([] : va_W))) H := hP
    have hD : va_D A ((cU g aU (.ref (u8 0)) vU ++ (cB g (u8 0) vV_9 ++ (cZ g aZ (.ref qY) vZ ++ (cB g qY vY)))) ++ (([] : va_W))) := hD
    have hP : va_P g.1 vwCl (cU g aU (.ref (u8 0)) vU ++ (cB g (u8 0) vV_9 ++ (cZ g aZ (.ref qY) vZ ++ (cB g qY vY)))) H := hP.perm (kpc (fun P => by first | omega | (simp only [List.countP_append, List.countP_nil] <;> omega)))
    have hD : va_D A (cU g aU (.ref (u8 0)) vU ++ (cB g (u8 0) vV_9 ++ (cZ g aZ (.ref qY) vZ ++ (cB g qY vY)))) := hD.perm (kpc (fun P => by first | omega | (simp only [List.countP_append, List.countP_nil] <;> omega)))
    refine lv_aload_n hx hb dJ5_append_cf1ce_33 rfl (lv_at hl 1 rfl) ?_
    refine lv_dup hx hb dJ5_append_cf1ce_34 rfl ?_
    refine va_get (D := g.1) (ci := 10) (fs := fcU (.ref (u8 0)) vU) (v := .int (vU.1 3)) (C := RJ4) (T := TJ4) (N := 4) hx hb htu hinJ4 hown hK hP 0 rfl rfl 3 (by decide) k_4_186 (fun x9 h9 => h9) rfl dJ5_append_cf1ce_35 ?_
    refine lv_iload_n hx hb dJ5_append_cf1ce_38 rfl (lv_at hl 0 rfl) ?_
    refine lv_iadd hx hb dJ5_append_cf1ce_39 ?_
    refine va_put (D := g.1) (ci := 10) (fs := fcU (.ref (u8 0)) vU) (v := .int ((vU.1 3) + r1)) (ty := .int) (C := RJ4) (T := TJ4) (N := 4) hx hb htu hinJ4 tyJ4 tyJ4_ok nmJ4 hown hK hP hD hS 0 rfl rfl 3 (by decide) k_4_186 (fun _ h9 => h9) rfl (by decide +kernel) rfl rfl (Nat.le_of_ble_eq_true rfl) dJ5_append_cf1ce_40 (fun H locs hP hD hS => ?_)
    obtain ⟨vU_13, evU_13⟩ : ∃ z : Vs, z = sF vU 3 ((vU.1 3) + r1) := ⟨_, rfl⟩
    have hf := bn_at hf evU_13
    have hP : va_P g.1 vwCl (cU g aU (.ref (u8 0)) vU_13 ++ (cB g (u8 0) vV_9 ++ (cZ g aZ (.ref qY) vZ ++ (cB g qY vY)))) H := by rw [evU_13]; exact hP
    have hD : va_D A (cU g aU (.ref (u8 0)) vU_13 ++ (cB g (u8 0) vV_9 ++ (cZ g aZ (.ref qY) vZ ++ (cB g qY vY)))) := by rw [evU_13]; exact hD
    refine lv_aload_n hx hb dJ5_append_cf1ce_43 rfl (lv_at hl 1 rfl) ?_
    obtain ⟨h14, hf⟩ := gd_at hf
    obtain ⟨e15, e16⟩ := kp_2 hf
    rw [e15] at hP hD
    rw [e16] at hP hD
    refine W.widen (k := 1) (n := 400) (of_decide_eq_true h14).1 (of_decide_eq_true h14).2 ?_
    exact k_Garet (w1 := fun (u : Nat → Nat) => cU g aU (.ref (u 0)) vU1 ++ (cB g (u 0) vV1 ++ (cZ g aZ (.ref qY) vZ ++ (cB g qY vY)))) (rv := fun (u : Nat → Nat) => (fun u => some (.ref aU)) u) (u := (fun i => if i = 0 then (u8 0) else 0)) hx hb hr (Or.inl ⟨_, rfl⟩) hlocks hK hP hD hS rfl dJ5_append_cf1ce_44
  rw [hH, hlo] at hW
  exact hW
def f_J5_append_3fe6f (vU : Vs) (vV : Vs) (x1 : Int32) : Option (Vs × Vs) :=
  gd (decide (0 + 1 ≤ 1 ∧ 0 + 400 ≤ 400)) (o1 (f_J5_ensureCapacityInternal_d00df vU vV ((vU.1 3) + (1 : Int32))) (fun (vV_1 : Vs) => gd (decide ((0 + 1) ≤ 1 ∧ (0 + 400) ≤ 400)) (o1 (f_J5_isLatin1_aae02 vU vV_1) (fun (r5 : Int32) => jn (fun (vU_9 : Vs) (vV_10 : Vs) => gd (decide ((0 + 1) ≤ 1 ∧ (0 + 400) ≤ 400)) (some (vU_9, vV_10))) (fun k11 => if r5 = 0 then none else gd (decide ((0 + 1) ≤ 1 ∧ (0 + 400) ≤ 400)) (o1 (f_J1_canEncode_fc78d x1) (fun (r18 : Int32) => if r18 = 0 then none else bn (sF vU 3 ((vU.1 3) + (1 : Int32))) (fun (vU_23 : Vs) => gd (inb (vU.1 3) (vV_1.1 9).toNatClampNeg) (bn (sI vV_1 0 ((vU.1 3)).toNatClampNeg (vp_nar .byte ((x1).toInt8.toInt32))) (fun (vV_25 : Vs) => k11 vU_23 vV_25))))))))))
abbrev wsJ5_append_3fe6f : List Cond := .code yJ5_append_3fe6f cJ5_append_3fe6f 2 (some (.object "java/lang/AbstractStringBuilder")) :: UW
abbrev rmJ5_append_3fe6f : Room := { frames := 4, cells := 1, slots := 400, locals := 160 }
set_option maxHeartbeats 4000000 in
set_option maxRecDepth 100000 in
theorem c_J5_append_3fe6f (l : Launch) (g : Gx) (aU : Nat) (vU : Vs) (qV : Nat) (vV : Vs) (x1 : Int32) (vU1 : Vs) (vV1 : Vs) (hf : f_J5_append_3fe6f vU vV x1 = some (vU1, vV1)) : CtG l yJ5_append_3fe6f wsJ5_append_3fe6f rmJ5_append_3fe6f g [.ref aU, .int x1] (cU g aU (.ref qV) vU ++ (cB g qV vV)) (fun (u : Nat → Nat) => cU g aU (.ref (u 0)) vU1 ++ (cB g (u 0) vV1)) (fun (u : Nat → Nat) => (fun u => some (.ref aU)) u) 1 400 := by
  unfold CtG
  intro sz
  refine Met.ofW (cc := cJ5_append_3fe6f) (maxL := 2) (ret := (some (.object "java/lang/AbstractStringBuilder"))) (by decide) rfl ?_
  intro p e s m args below meth c s₁ B hml hv
  obtain ⟨rfl, hsz, hP, hK, hD0, hG⟩ := hv
  have hx := B.exec
  have hb := B.bytes
  have hr := B.returns
  have hts := atoms_spec (ws := wsJ5_append_3fe6f) B.pre
  have hown : s.vm.findClass RJ5 = some m.cls := findClass_of_methodNamed B.named
  have hlocks := B.notSynchronized
  subst hsz
  have hD := hD0.self (sz := s.heap.size)
  generalize hAe : va_A (cU g aU (.ref qV) vU ++ (cB g qV vV)) s.heap.size = A at hD hG ⊢
  have hA : ∀ q : Nat, s.heap.size ≤ q → A q := fun q h => by rw [← hAe]; exact Or.inr h
  clear hAe hD0
  have hS : va_S A s.heap s.heap [] := va_S.rf
  have hl := lv_entry ([.ref aU, .int x1]) (n := 2) (Nat.le_of_ble_eq_true rfl)
  rw [lg_entry_eq]
  generalize (lg_sl ([.ref aU, .int x1]) ++ List.replicate (2 - (lg_sl ([.ref aU, .int x1])).length) Slot.unset).toArray = ls at hl ⊢
  have hl : lv_has ls 2 [(0, .ref aU), (1, .int x1)] := hl
  have htu : ∀ w ∈ UW, w.before _ s = true := fun w h => hts w (List.mem_cons_of_mem _ h)
  have k_4_186 := htu _ mw_4_186
  have k_4_183 := htu _ mw_4_183
  unfold f_J5_append_3fe6f at hf
  obtain ⟨H, hH⟩ : ∃ z, z = s.heap := ⟨_, rfl⟩
  obtain ⟨locs, hlo⟩ : ∃ z : List Loc, z = [] := ⟨_, rfl⟩
  have hS : va_S A s.heap H locs := by rw [hH, hlo]; exact hS
  rw [← hH] at hP
  have hW : W p l e (headSpec wsJ5_append_3fe6f rmJ5_append_3fe6f).room s m ([.ref aU, .int x1] : List Value).toArray below meth c H locs 0 0 (MQ below (qG g A (fun (u : Nat → Nat) => cU g aU (.ref (u 0)) vU1 ++ (cB g (u 0) vV1)) (fun (u : Nat → Nat) => (fun u => some (.ref aU)) u)) ([.ref aU, .int x1] : List Value).toArray s 1 400 A) (F0 m 0 ls []) := by
    refine lv_aload_n hx hb dJ5_append_3fe6f_0 rfl (lv_at hl 0 rfl) ?_
    refine lv_aload_n hx hb dJ5_append_3fe6f_1 rfl (lv_at hl 0 rfl) ?_
    refine va_get (D := g.1) (ci := 10) (fs := fcU (.ref qV) vU) (v := .int (vU.1 3)) (C := RJ4) (T := TJ4) (N := 4) hx hb htu hinJ4 hown hK hP 0 rfl rfl 3 (by decide) k_4_186 (fun x9 h9 => h9) rfl dJ5_append_3fe6f_2 ?_
    refine lv_iconst (v := (1 : Int32)) hx hb dJ5_append_3fe6f_5 (by decide) ?_
    refine lv_iadd hx hb dJ5_append_3fe6f_6 ?_
    obtain ⟨h3, hf⟩ := gd_at hf
    obtain ⟨vV_1, hg2, hf⟩ := o1_at hf
    have hpm : (cU g aU (.ref qV) vU ++ (cB g qV vV)).Perm ((cU g aU (.ref qV) vU ++ (cB g qV vV)) ++ (([] : va_W))) := (kpc (fun P => by first | omega | (simp only [List.countP_append, List.countP_nil] <;> omega)))
    refine k_G (wc := cU g aU (.ref qV) vU ++ (cB g qV vV)) (wr := ([] : va_W)) (w1 := fun (u : Nat → Nat) => cU g aU (.ref (u 0)) vU ++ (cB g (u 0) vV_1)) (rv := fun (u : Nat → Nat) => (fun _ => none) u) hP hD hS hA hpm (va_runU (As := [.int ((vU.1 3) + (1 : Int32))]) (rest := []) ⟨hx, hb, hml, hown, htu⟩ ((c_J5_ensureCapacityInternal_d00df l g aU vU qV vV ((vU.1 3) + (1 : Int32)) vV_1 hg2) H.size) (va_cwU (C := RJ4) (owner := "java/lang/AbstractStringBuilder") (x := ⟨"java/lang/AbstractStringBuilder", "ensureCapacityInternal", "(I)V"⟩) 1 htu (gU_U (List.forall_mem_cons.mpr ⟨mw_4_222, (List.forall_mem_cons.mpr ⟨mw_5_169, (List.forall_mem_cons.mpr ⟨ms_1, (List.forall_mem_cons.mpr ⟨mw_4_224, (List.forall_mem_cons.mpr ⟨mw_1_2, (fun _ h => nomatch h)⟩)⟩)⟩)⟩)⟩) mw_4_225) rfl rfl rfl rfl ⟨by decide +kernel, by decide +kernel, by decide +kernel⟩ ⟨Nat.le_of_ble_eq_true rfl, Nat.le_of_ble_eq_true rfl⟩) (k_preV (C := RJ4) hK hP hD hS hA hG hpm (va_recv (ci := 10) (q0 := 0) (fs := fcU (.ref qV) vU) (q := (RJ4, TJ4, 4)) hK hP rfl rfl)) rfl rfl hl.1 rfl (lv_room (Nat.le_of_ble_eq_true rfl)) dJ5_append_3fe6f_7 (of_decide_eq_true h3)) hQ_G (fun u4 H locs hP hD hS => ?_)
    refine W.eq (g2 := F0 m 10 ls []) rfl ?_
    have hP : va_P g.1 vwCl ((cU g aU (.ref (u4 0)) vU ++ (cB g (u4 0) vV_1)) ++ (([] : va_W))) H := hP
    have hD : va_D A ((cU g aU (.ref (u4 0)) vU ++ (cB g (u4 0) vV_1)) ++ (([] : va_W))) := hD
    have hP : va_P g.1 vwCl (cU g aU (.ref (u4 0)) vU ++ (cB g (u4 0) vV_1)) H := hP.perm (kpc (fun P => by first | omega | (simp only [List.countP_append, List.countP_nil] <;> omega)))
    have hD : va_D A (cU g aU (.ref (u4 0)) vU ++ (cB g (u4 0) vV_1)) := hD.perm (kpc (fun P => by first | omega | (simp only [List.countP_append, List.countP_nil] <;> omega)))
    refine lv_aload_n hx hb dJ5_append_3fe6f_10 rfl (lv_at hl 0 rfl) ?_
    obtain ⟨h7, hf⟩ := gd_at hf
    obtain ⟨r5, hg6, hf⟩ := o1_at hf
    have hpm : (cU g aU (.ref (u4 0)) vU ++ (cB g (u4 0) vV_1)).Perm ((cU g aU (.ref (u4 0)) vU ++ (cB g (u4 0) vV_1)) ++ (([] : va_W))) := (kpc (fun P => by first | omega | (simp only [List.countP_append, List.countP_nil] <;> omega)))
    refine k_G (wc := cU g aU (.ref (u4 0)) vU ++ (cB g (u4 0) vV_1)) (wr := ([] : va_W)) (w1 := fun (u : Nat → Nat) => cU g aU (.ref (u4 0)) vU ++ (cB g (u4 0) vV_1)) (rv := fun (u : Nat → Nat) => (fun _ => some (.int r5)) u) hP hD hS hA hpm (va_runU (As := []) (rest := []) ⟨hx, hb, hml, hown, htu⟩ ((c_J5_isLatin1_aae02 l g aU vU (u4 0) vV_1 r5 hg6) H.size) (va_cwU (C := RJ4) (owner := "java/lang/AbstractStringBuilder") (x := ⟨"java/lang/AbstractStringBuilder", "isLatin1", "()Z"⟩) 0 htu (gU_U (List.forall_mem_cons.mpr ⟨mw_5_10, (List.forall_mem_cons.mpr ⟨mw_5_12, (List.forall_mem_cons.mpr ⟨mw_5_13, (List.forall_mem_cons.mpr ⟨mw_5_11, (List.forall_mem_cons.mpr ⟨mw_1_2, (fun _ h => nomatch h)⟩)⟩)⟩)⟩)⟩) mw_5_14) rfl rfl rfl rfl ⟨by decide +kernel, by decide +kernel, by decide +kernel⟩ ⟨Nat.le_of_ble_eq_true rfl, Nat.le_of_ble_eq_true rfl⟩) (k_preV (C := RJ4) hK hP hD hS hA hG hpm (va_recv (ci := 10) (q0 := 0) (fs := fcU (.ref (u4 0)) vU) (q := (RJ4, TJ4, 4)) hK hP rfl rfl)) rfl rfl hl.1 rfl (lv_room (Nat.le_of_ble_eq_true rfl)) dJ5_append_3fe6f_11 (of_decide_eq_true h7)) hQ_G (fun u8 H locs hP hD hS => ?_)
    refine W.eq (g2 := F0 m 14 ls [.int r5]) rfl ?_
    have hP : va_P g.1 vwCl ((cU g aU (.ref (u4 0)) vU ++ (cB g (u4 0) vV_1)) ++ (([] : va_W))) H := hP
    have hD : va_D A ((cU g aU (.ref (u4 0)) vU ++ (cB g (u4 0) vV_1)) ++ (([] : va_W))) := hD
    have hP : va_P g.1 vwCl (cU g aU (.ref (u4 0)) vU ++ (cB g (u4 0) vV_1)) H := hP.perm (kpc (fun P => by first | omega | (simp only [List.countP_append, List.countP_nil] <;> omega)))
    have hD : va_D A (cU g aU (.ref (u4 0)) vU ++ (cB g (u4 0) vV_1)) := hD.perm (kpc (fun P => by first | omega | (simp only [List.countP_append, List.countP_nil] <;> omega)))
    obtain ⟨k11, hk16, hf⟩ := jn_at hf
    have hJ12 : ∀ (vU_9 : Vs) (vV_10 : Vs), k11 vU_9 vV_10 = some (vU1, vV1) → ∀ (H : Heap) (locs : List Loc), va_P g.1 vwCl (cU g aU (.ref (u4 0)) vU_9 ++ (cB g (u4 0) vV_10)) H → va_D A (cU g aU (.ref (u4 0)) vU_9 ++ (cB g (u4 0) vV_10)) → va_S A s.heap H locs → ∀ ls : Array Slot, lv_has ls 2 [(0, .ref aU)] → W p l e (headSpec wsJ5_append_3fe6f rmJ5_append_3fe6f).room s m ([.ref aU, .int x1] : List Value).toArray below meth c H locs (0 + 1) (0 + 400) (MQ below (qG g A (fun (u : Nat → Nat) => cU g aU (.ref (u 0)) vU1 ++ (cB g (u 0) vV1)) (fun (u : Nat → Nat) => (fun u => some (.ref aU)) u)) ([.ref aU, .int x1] : List Value).toArray s 1 400 A) (F0 m 75 ls []) := by
      intro vU_9 vV_10 hf H locs hP hD hS ls hl
      rw [hk16] at hf
      dsimp only at hf
      clear hk16
      refine lv_aload_n hx hb dJ5_append_3fe6f_75 rfl (lv_at hl 0 rfl) ?_
      obtain ⟨h13, hf⟩ := gd_at hf
      obtain ⟨e14, e15⟩ := kp_2 hf
      rw [e14] at hP hD
      rw [e15] at hP hD
      refine W.widen (k := 1) (n := 400) (of_decide_eq_true h13).1 (of_decide_eq_true h13).2 ?_
      exact k_Garet (w1 := fun (u : Nat → Nat) => cU g aU (.ref (u 0)) vU1 ++ (cB g (u 0) vV1)) (rv := fun (u : Nat → Nat) => (fun u => some (.ref aU)) u) (u := (fun i => if i = 0 then (u4 0) else 0)) hx hb hr (Or.inl ⟨_, rfl⟩) hlocks hK hP hD hS rfl dJ5_append_3fe6f_76
    refine lv_if_eq (tgt := 45) hx hb dJ5_append_3fe6f_14 (by decide) (fun c17 => ?_) (fun c17 => ?_)
    · have hf := it_t hf c17
      cases hf
    · have hf := it_f hf c17
      refine lv_iload_n hx hb dJ5_append_3fe6f_17 rfl (lv_at hl 1 rfl) ?_
      obtain ⟨h20, hf⟩ := gd_at hf
      obtain ⟨r18, hg19, hf⟩ := o1_at hf
      have hpm : (cU g aU (.ref (u4 0)) vU ++ (cB g (u4 0) vV_1)).Perm ((([] : va_W)) ++ (cU g aU (.ref (u4 0)) vU ++ (cB g (u4 0) vV_1))) := (kpc (fun P => by first | omega | (simp only [List.countP_append, List.countP_nil] <;> omega)))
      refine k_G (wc := ([] : va_W)) (wr := cU g aU (.ref (u4 0)) vU ++ (cB g (u4 0) vV_1)) (w1 := fun (u : Nat → Nat) => ([] : va_W)) (rv := fun (u : Nat → Nat) => (fun _ => some (.int r18)) u) hP hD hS hA hpm (va_runS (As := [.int x1]) (rest := []) ⟨hx, hb, hml, hown, htu⟩ ((c_J1_canEncode_fc78d l g x1 r18 hg19) H.size) (va_cwS 1 htu (gU_S mw_5_71 hcJ1_canEncode_fc78d) rfl rfl rfl hdJ1_canEncode_fc78d ⟨Nat.le_of_ble_eq_true rfl, Nat.le_of_ble_eq_true rfl⟩) (k_preS hK hP hD hS hA hG hpm) rfl rfl hl.1 rfl (lv_room (Nat.le_of_ble_eq_true rfl)) dJ5_append_3fe6f_18 (of_decide_eq_true h20)) hQ_G (fun u21 H locs hP hD hS => ?_)
      refine W.eq (g2 := F0 m 21 ls [.int r18]) rfl ?_
      have hP : va_P g.1 vwCl ((([] : va_W)) ++ (cU g aU (.ref (u4 0)) vU ++ (cB g (u4 0) vV_1))) H := hP
      have hD : va_D A ((([] : va_W)) ++ (cU g aU (.ref (u4 0)) vU ++ (cB g (u4 0) vV_1))) := hD
      have hP : va_P g.1 vwCl (cU g aU (.ref (u4 0)) vU ++ (cB g (u4 0) vV_1)) H := hP.perm (kpc (fun P => by first | omega | (simp only [List.countP_append, List.countP_nil] <;> omega)))
      have hD : va_D A (cU g aU (.ref (u4 0)) vU ++ (cB g (u4 0) vV_1)) := hD.perm (kpc (fun P => by first | omega | (simp only [List.countP_append, List.countP_nil] <;> omega)))
      refine lv_if_eq (tgt := 45) hx hb dJ5_append_3fe6f_21 (by decide) (fun c22 => ?_) (fun c22 => ?_)
      · have hf := it_t hf c22
        cases hf
      · have hf := it_f hf c22
        refine lv_aload_n hx hb dJ5_append_3fe6f_24 rfl (lv_at hl 0 rfl) ?_
        refine va_get (D := g.1) (ci := 10) (fs := fcU (.ref (u4 0)) vU) (v := .ref (u4 0)) (C := RJ4) (T := TJ4) (N := 4) hx hb htu hinJ4 hown hK hP 0 rfl rfl 0 (by decide) k_4_183 (fun x9 h9 => h9) rfl dJ5_append_3fe6f_25 ?_
        refine lv_aload_n hx hb dJ5_append_3fe6f_28 rfl (lv_at hl 0 rfl) ?_
        refine lv_dup hx hb dJ5_append_3fe6f_29 rfl ?_
        refine va_get (D := g.1) (ci := 10) (fs := fcU (.ref (u4 0)) vU) (v := .int (vU.1 3)) (C := RJ4) (T := TJ4) (N := 4) hx hb htu hinJ4 hown hK hP 0 rfl rfl 3 (by decide) k_4_186 (fun x9 h9 => h9) rfl dJ5_append_3fe6f_30 ?_
        refine lv_dup_x1 hx hb dJ5_append_3fe6f_33 rfl rfl ?_
        refine lv_iconst (v := (1 : Int32)) hx hb dJ5_append_3fe6f_34 (by decide) ?_
        refine lv_iadd hx hb dJ5_append_3fe6f_35 ?_
        refine va_put (D := g.1) (ci := 10) (fs := fcU (.ref (u4 0)) vU) (v := .int ((vU.1 3) + (1 : Int32))) (ty := .int) (C := RJ4) (T := TJ4) (N := 4) hx hb htu hinJ4 tyJ4 tyJ4_ok nmJ4 hown hK hP hD hS 0 rfl rfl 3 (by decide) k_4_186 (fun _ h9 => h9) rfl (by decide +kernel) rfl rfl (Nat.le_of_ble_eq_true rfl) dJ5_append_3fe6f_36 (fun H locs hP hD hS => ?_)
        obtain ⟨vU_23, evU_23⟩ : ∃ z : Vs, z = sF vU 3 ((vU.1 3) + (1 : Int32)) := ⟨_, rfl⟩
        have hf := bn_at hf evU_23
        have hP : va_P g.1 vwCl (cU g aU (.ref (u4 0)) vU_23 ++ (cB g (u4 0) vV_1)) H := by rw [evU_23]; exact hP
        have hD : va_D A (cU g aU (.ref (u4 0)) vU_23 ++ (cB g (u4 0) vV_1)) := by rw [evU_23]; exact hD
        refine lv_iload_n hx hb dJ5_append_3fe6f_39 rfl (lv_at hl 1 rfl) ?_
        refine lv_i2b (v := (x1).toInt8.toInt32) hx hb dJ5_append_3fe6f_40 rfl ?_
        obtain ⟨h24, hf⟩ := gd_in hf
        refine va_bast (D := g.1) (f := (vV_1.2.1 0)) hx hb hK hP hD hS 1 4 rfl rfl h24 dJ5_append_3fe6f_41 (fun H locs hP hD hS => ?_)
        obtain ⟨vV_25, evV_25⟩ : ∃ z : Vs, z = sI vV_1 0 ((vU.1 3)).toNatClampNeg (vp_nar .byte ((x1).toInt8.toInt32)) := ⟨_, rfl⟩
        have hf := bn_at hf evV_25
        have hP : va_P g.1 vwCl (cU g aU (.ref (u4 0)) vU_23 ++ (cB g (u4 0) vV_25)) H := by rw [evV_25]; exact hP
        have hD : va_D A (cU g aU (.ref (u4 0)) vU_23 ++ (cB g (u4 0) vV_25)) := by rw [evV_25]; exact hD
        refine lv_goto (tgt := 75) hx hb dJ5_append_3fe6f_42 (by decide) ?_
        exact hJ12 vU_23 vV_25 hf H locs hP hD hS _ (lv_sub hl [0] rfl)
  rw [hH, hlo] at hW
  exact hW
def f_J5_append_c97b9 (vU : Vs) (vV : Vs) (x1 : Int32) : Option (Vs × Vs) :=
  o1 (f_J6_stringSize_0f7a4 x1) (fun (r1 : Int32) => gd (decide (0 + 1 ≤ 1 ∧ 0 + 400 ≤ 400)) (o1 (f_J5_ensureCapacityInternal_d00df vU vV ((vU.1 3) + r1)) (fun (vV_5 : Vs) => gd (decide ((0 + 1) ≤ 1 ∧ (0 + 400) ≤ 400)) (o1 (f_J5_isLatin1_aae02 vU vV_5) (fun (r9 : Int32) => jn (fun (vV_13 : Vs) => bn (sF vU 3 ((vU.1 3) + r1)) (fun (vU_16 : Vs) => gd (decide ((0 + 1) ≤ 1 ∧ (0 + 400) ≤ 400)) (some (vU_16, vV_13)))) (fun k14 => if r9 = 0 then none else gd (decide ((0 + 1) ≤ 1 ∧ (0 + 400) ≤ 400)) (o2 (f_J6_getChars_ba4f3 vV_5 x1 ((vU.1 3) + r1)) (fun (r22 : Int32) (vV_23 : Vs) => k14 vV_23))))))))
abbrev wsJ5_append_c97b9 : List Cond := .code yJ5_append_c97b9 cJ5_append_c97b9 4 (some (.object "java/lang/AbstractStringBuilder")) :: UW
abbrev rmJ5_append_c97b9 : Room := { frames := 4, cells := 1, slots := 400, locals := 160 }
set_option maxHeartbeats 4000000 in
set_option maxRecDepth 100000 in
theorem c_J5_append_c97b9 (l : Launch) (g : Gx) (aU : Nat) (vU : Vs) (qV : Nat) (vV : Vs) (x1 : Int32) (vU1 : Vs) (vV1 : Vs) (hf : f_J5_append_c97b9 vU vV x1 = some (vU1, vV1)) : CtG l yJ5_append_c97b9 wsJ5_append_c97b9 rmJ5_append_c97b9 g [.ref aU, .int x1] (cU g aU (.ref qV) vU ++ (cB g qV vV)) (fun (u : Nat → Nat) => cU g aU (.ref (u 0)) vU1 ++ (cB g (u 0) vV1)) (fun (u : Nat → Nat) => (fun u => some (.ref aU)) u) 1 400 := by
  unfold CtG
  intro sz
  refine Met.ofW (cc := cJ5_append_c97b9) (maxL := 4) (ret := (some (.object "java/lang/AbstractStringBuilder"))) (by decide) rfl ?_
  intro p e s m args below meth c s₁ B hml hv
  obtain ⟨rfl, hsz, hP, hK, hD0, hG⟩ := hv
  have hx := B.exec
  have hb := B.bytes
  have hr := B.returns
  have hts := atoms_spec (ws := wsJ5_append_c97b9) B.pre
  have hown : s.vm.findClass RJ5 = some m.cls := findClass_of_methodNamed B.named
  have hlocks := B.notSynchronized
  subst hsz
  have hD := hD0.self (sz := s.heap.size)
  generalize hAe : va_A (cU g aU (.ref qV) vU ++ (cB g qV vV)) s.heap.size = A at hD hG ⊢
  have hA : ∀ q : Nat, s.heap.size ≤ q → A q := fun q h => by rw [← hAe]; exact Or.inr h
  clear hAe hD0
  have hS : va_S A s.heap s.heap [] := va_S.rf
  have hl := lv_entry ([.ref aU, .int x1]) (n := 4) (Nat.le_of_ble_eq_true rfl)
  rw [lg_entry_eq]
  generalize (lg_sl ([.ref aU, .int x1]) ++ List.replicate (4 - (lg_sl ([.ref aU, .int x1])).length) Slot.unset).toArray = ls at hl ⊢
  have hl : lv_has ls 4 [(0, .ref aU), (1, .int x1)] := hl
  have htu : ∀ w ∈ UW, w.before _ s = true := fun w h => hts w (List.mem_cons_of_mem _ h)
  have k_4_186 := htu _ mw_4_186
  have k_4_183 := htu _ mw_4_183
  unfold f_J5_append_c97b9 at hf
  obtain ⟨H, hH⟩ : ∃ z, z = s.heap := ⟨_, rfl⟩
  obtain ⟨locs, hlo⟩ : ∃ z : List Loc, z = [] := ⟨_, rfl⟩
  have hS : va_S A s.heap H locs := by rw [hH, hlo]; exact hS
  rw [← hH] at hP
  have hW : W p l e (headSpec wsJ5_append_c97b9 rmJ5_append_c97b9).room s m ([.ref aU, .int x1] : List Value).toArray below meth c H locs 0 0 (MQ below (qG g A (fun (u : Nat → Nat) => cU g aU (.ref (u 0)) vU1 ++ (cB g (u 0) vV1)) (fun (u : Nat → Nat) => (fun u => some (.ref aU)) u)) ([.ref aU, .int x1] : List Value).toArray s 1 400 A) (F0 m 0 ls []) := by
    refine lv_aload_n hx hb dJ5_append_c97b9_0 rfl (lv_at hl 0 rfl) ?_
    refine va_get (D := g.1) (ci := 10) (fs := fcU (.ref qV) vU) (v := .int (vU.1 3)) (C := RJ4) (T := TJ4) (N := 4) hx hb htu hinJ4 hown hK hP 0 rfl rfl 3 (by decide) k_4_186 (fun x9 h9 => h9) rfl dJ5_append_c97b9_1 ?_
    refine lv_istore_n (lv' := [(2, .int (vU.1 3)), (0, .ref aU), (1, .int x1)]) hx hb dJ5_append_c97b9_4 rfl hl (by decide) rfl (fun ls hl => ?_)
    refine lv_iload_n hx hb dJ5_append_c97b9_5 rfl (lv_at hl 0 rfl) ?_
    refine lv_iload_n hx hb dJ5_append_c97b9_6 rfl (lv_at hl 2 rfl) ?_
    obtain ⟨r1, hg2, hf⟩ := o1_at hf
    have hpm : (cU g aU (.ref qV) vU ++ (cB g qV vV)).Perm ((([] : va_W)) ++ (cU g aU (.ref qV) vU ++ (cB g qV vV))) := (kpc (fun P => by first | omega | (simp only [List.countP_append, List.countP_nil] <;> omega)))
    refine k_G (wc := ([] : va_W)) (wr := cU g aU (.ref qV) vU ++ (cB g qV vV)) (w1 := fun (u : Nat → Nat) => ([] : va_W)) (rv := fun (u : Nat → Nat) => (fun _ => some (.int r1)) u) hP hD hS hA hpm (va_runS (As := [.int x1]) (rest := [.int (vU.1 3)]) ⟨hx, hb, hml, hown, htu⟩ ((c_J6_stringSize_0f7a4 l g x1 r1 hg2) H.size) (va_cwS 1 htu (gU_S mw_5_84 hcJ6_stringSize_0f7a4) rfl rfl rfl hdJ6_stringSize_0f7a4 ⟨Nat.le_of_ble_eq_true rfl, Nat.le_of_ble_eq_true rfl⟩) (k_preS hK hP hD hS hA hG hpm) rfl rfl hl.1 rfl (lv_room (Nat.le_of_ble_eq_true rfl)) dJ5_append_c97b9_7 ⟨Nat.zero_le _, Nat.zero_le _⟩) hQ_G (fun u4 H locs hP hD hS => ?_)
    refine W.eq (g2 := F0 m 10 ls [.int r1, .int (vU.1 3)]) rfl ?_
    have hP : va_P g.1 vwCl ((([] : va_W)) ++ (cU g aU (.ref qV) vU ++ (cB g qV vV))) H := hP
    have hD : va_D A ((([] : va_W)) ++ (cU g aU (.ref qV) vU ++ (cB g qV vV))) := hD
    have hP : va_P g.1 vwCl (cU g aU (.ref qV) vU ++ (cB g qV vV)) H := hP.perm (kpc (fun P => by first | omega | (simp only [List.countP_append, List.countP_nil] <;> omega)))
    have hD : va_D A (cU g aU (.ref qV) vU ++ (cB g qV vV)) := hD.perm (kpc (fun P => by first | omega | (simp only [List.countP_append, List.countP_nil] <;> omega)))
    refine lv_iadd hx hb dJ5_append_c97b9_10 ?_
    refine lv_istore_n (lv' := [(3, .int ((vU.1 3) + r1)), (2, .int (vU.1 3)), (0, .ref aU), (1, .int x1)]) hx hb dJ5_append_c97b9_11 rfl hl (by decide) rfl (fun ls hl => ?_)
    refine lv_aload_n hx hb dJ5_append_c97b9_12 rfl (lv_at hl 2 rfl) ?_
    refine lv_iload_n hx hb dJ5_append_c97b9_13 rfl (lv_at hl 0 rfl) ?_
    obtain ⟨h7, hf⟩ := gd_at hf
    obtain ⟨vV_5, hg6, hf⟩ := o1_at hf
    have hpm : (cU g aU (.ref qV) vU ++ (cB g qV vV)).Perm ((cU g aU (.ref qV) vU ++ (cB g qV vV)) ++ (([] : va_W))) := (kpc (fun P => by first | omega | (simp only [List.countP_append, List.countP_nil] <;> omega)))
    refine k_G (wc := cU g aU (.ref qV) vU ++ (cB g qV vV)) (wr := ([] : va_W)) (w1 := fun (u : Nat → Nat) => cU g aU (.ref (u 0)) vU ++ (cB g (u 0) vV_5)) (rv := fun (u : Nat → Nat) => (fun _ => none) u) hP hD hS hA hpm (va_runU (As := [.int ((vU.1 3) + r1)]) (rest := []) ⟨hx, hb, hml, hown, htu⟩ ((c_J5_ensureCapacityInternal_d00df l g aU vU qV vV ((vU.1 3) + r1) vV_5 hg6) H.size) (va_cwU (C := RJ4) (owner := "java/lang/AbstractStringBuilder") (x := ⟨"java/lang/AbstractStringBuilder", "ensureCapacityInternal", "(I)V"⟩) 1 htu (gU_U (List.forall_mem_cons.mpr ⟨mw_4_222, (List.forall_mem_cons.mpr ⟨mw_5_169, (List.forall_mem_cons.mpr ⟨ms_1, (List.forall_mem_cons.mpr ⟨mw_4_224, (List.forall_mem_cons.mpr ⟨mw_1_2, (fun _ h => nomatch h)⟩)⟩)⟩)⟩)⟩) mw_4_225) rfl rfl rfl rfl ⟨by decide +kernel, by decide +kernel, by decide +kernel⟩ ⟨Nat.le_of_ble_eq_true rfl, Nat.le_of_ble_eq_true rfl⟩) (k_preV (C := RJ4) hK hP hD hS hA hG hpm (va_recv (ci := 10) (q0 := 0) (fs := fcU (.ref qV) vU) (q := (RJ4, TJ4, 4)) hK hP rfl rfl)) rfl rfl hl.1 rfl (lv_room (Nat.le_of_ble_eq_true rfl)) dJ5_append_c97b9_14 (of_decide_eq_true h7)) hQ_G (fun u8 H locs hP hD hS => ?_)
    refine W.eq (g2 := F0 m 17 ls []) rfl ?_
    have hP : va_P g.1 vwCl ((cU g aU (.ref (u8 0)) vU ++ (cB g (u8 0) vV_5)) ++ (([] : va_W))) H := hP
    have hD : va_D A ((cU g aU (.ref (u8 0)) vU ++ (cB g (u8 0) vV_5)) ++ (([] : va_W))) := hD
    have hP : va_P g.1 vwCl (cU g aU (.ref (u8 0)) vU ++ (cB g (u8 0) vV_5)) H := hP.perm (kpc (fun P => by first | omega | (simp only [List.countP_append, List.countP_nil] <;> omega)))
    have hD : va_D A (cU g aU (.ref (u8 0)) vU ++ (cB g (u8 0) vV_5)) := hD.perm (kpc (fun P => by first | omega | (simp only [List.countP_append, List.countP_nil] <;> omega)))
    refine lv_aload_n hx hb dJ5_append_c97b9_17 rfl (lv_at hl 2 rfl) ?_
    obtain ⟨h11, hf⟩ := gd_at hf
    obtain ⟨r9, hg10, hf⟩ := o1_at hf
    have hpm : (cU g aU (.ref (u8 0)) vU ++ (cB g (u8 0) vV_5)).Perm ((cU g aU (.ref (u8 0)) vU ++ (cB g (u8 0) vV_5)) ++ (([] : va_W))) := (kpc (fun P => by first | omega | (simp only [List.countP_append, List.countP_nil] <;> omega)))
    refine k_G (wc := cU g aU (.ref (u8 0)) vU ++ (cB g (u8 0) vV_5)) (wr := ([] : va_W)) (w1 := fun (u : Nat → Nat) => cU g aU (.ref (u8 0)) vU ++ (cB g (u8 0) vV_5)) (rv := fun (u : Nat → Nat) => (fun _ => some (.int r9)) u) hP hD hS hA hpm (va_runU (As := []) (rest := []) ⟨hx, hb, hml, hown, htu⟩ ((c_J5_isLatin1_aae02 l g aU vU (u8 0) vV_5 r9 hg10) H.size) (va_cwU (C := RJ4) (owner := "java/lang/AbstractStringBuilder") (x := ⟨"java/lang/AbstractStringBuilder", "isLatin1", "()Z"⟩) 0 htu (gU_U (List.forall_mem_cons.mpr ⟨mw_5_10, (List.forall_mem_cons.mpr ⟨mw_5_12, (List.forall_mem_cons.mpr ⟨mw_5_13, (List.forall_mem_cons.mpr ⟨mw_5_11, (List.forall_mem_cons.mpr ⟨mw_1_2, (fun _ h => nomatch h)⟩)⟩)⟩)⟩)⟩) mw_5_14) rfl rfl rfl rfl ⟨by decide +kernel, by decide +kernel, by decide +kernel⟩ ⟨Nat.le_of_ble_eq_true rfl, Nat.le_of_ble_eq_true rfl⟩) (k_preV (C := RJ4) hK hP hD hS hA hG hpm (va_recv (ci := 10) (q0 := 0) (fs := fcU (.ref (u8 0)) vU) (q := (RJ4, TJ4, 4)) hK hP rfl rfl)) rfl rfl hl.1 rfl (lv_room (Nat.le_of_ble_eq_true rfl)) dJ5_append_c97b9_18 (of_decide_eq_true h11)) hQ_G (fun u12 H locs hP hD hS => ?_)
    refine W.eq (g2 := F0 m 21 ls [.int r9]) rfl ?_
    have hP : va_P g.1 vwCl ((cU g aU (.ref (u8 0)) vU ++ (cB g (u8 0) vV_5)) ++ (([] : va_W))) H := hP
    have hD : va_D A ((cU g aU (.ref (u8 0)) vU ++ (cB g (u8 0) vV_5)) ++ (([] : va_W))) := hD
    have hP : va_P g.1 vwCl (cU g aU (.ref (u8 0)) vU ++ (cB g (u8 0) vV_5)) H := hP.perm (kpc (fun P => by first | omega | (simp only [List.countP_append, List.countP_nil] <;> omega)))
    have hD : va_D A (cU g aU (.ref (u8 0)) vU ++ (cB g (u8 0) vV_5)) := hD.perm (kpc (fun P => by first | omega | (simp only [List.countP_append, List.countP_nil] <;> omega)))
    obtain ⟨k14, hk20, hf⟩ := jn_at hf
    have hJ15 : ∀ (vV_13 : Vs), k14 vV_13 = some (vU1, vV1) → ∀ (H : Heap) (locs : List Loc), va_P g.1 vwCl (cU g aU (.ref (u8 0)) vU ++ (cB g (u8 0) vV_13)) H → va_D A (cU g aU (.ref (u8 0)) vU ++ (cB g (u8 0) vV_13)) → va_S A s.heap H locs → ∀ ls : Array Slot, lv_has ls 4 [(0, .ref aU), (3, .int ((vU.1 3) + r1))] → W p l e (headSpec wsJ5_append_c97b9 rmJ5_append_c97b9).room s m ([.ref aU, .int x1] : List Value).toArray below meth c H locs (0 + 1) (0 + 400) (MQ below (qG g A (fun (u : Nat → Nat) => cU g aU (.ref (u 0)) vU1 ++ (cB g (u 0) vV1)) (fun (u : Nat → Nat) => (fun u => some (.ref aU)) u)) ([.ref aU, .int x1] : List Value).toArray s 1 400 A) (F0 m 48 ls []) := by
      intro vV_13 hf H locs hP hD hS ls hl
      rw [hk20] at hf
      dsimp only at hf
      clear hk20
      refine lv_aload_n hx hb dJ5_append_c97b9_48 rfl (lv_at hl 0 rfl) ?_
      refine lv_iload_n hx hb dJ5_append_c97b9_49 rfl (lv_at hl 1 rfl) ?_
      refine va_put (D := g.1) (ci := 10) (fs := fcU (.ref (u8 0)) vU) (v := .int ((vU.1 3) + r1)) (ty := .int) (C := RJ4) (T := TJ4) (N := 4) hx hb htu hinJ4 tyJ4 tyJ4_ok nmJ4 hown hK hP hD hS 0 rfl rfl 3 (by decide) k_4_186 (fun _ h9 => h9) rfl (by decide +kernel) rfl rfl (Nat.le_of_ble_eq_true rfl) dJ5_append_c97b9_50 (fun H locs hP hD hS => ?_)
      obtain ⟨vU_16, evU_16⟩ : ∃ z : Vs, z = sF vU 3 ((vU.1 3) + r1) := ⟨_, rfl⟩
      have hf := bn_at hf evU_16
      have hP : va_P g.1 vwCl (cU g aU (.ref (u8 0)) vU_16 ++ (cB g (u8 0) vV_13)) H := by rw [evU_16]; exact hP
      have hD : va_D A (cU g aU (.ref (u8 0)) vU_16 ++ (cB g (u8 0) vV_13)) := by rw [evU_16]; exact hD
      refine lv_aload_n hx hb dJ5_append_c97b9_53 rfl (lv_at hl 0 rfl) ?_
      obtain ⟨h17, hf⟩ := gd_at hf
      obtain ⟨e18, e19⟩ := kp_2 hf
      rw [e18] at hP hD
      rw [e19] at hP hD
      refine W.widen (k := 1) (n := 400) (of_decide_eq_true h17).1 (of_decide_eq_true h17).2 ?_
      exact k_Garet (w1 := fun (u : Nat → Nat) => cU g aU (.ref (u 0)) vU1 ++ (cB g (u 0) vV1)) (rv := fun (u : Nat → Nat) => (fun u => some (.ref aU)) u) (u := (fun i => if i = 0 then (u8 0) else 0)) hx hb hr (Or.inl ⟨_, rfl⟩) hlocks hK hP hD hS rfl dJ5_append_c97b9_54
    refine lv_if_eq (tgt := 37) hx hb dJ5_append_c97b9_21 (by decide) (fun c21 => ?_) (fun c21 => ?_)
    · have hf := it_t hf c21
      cases hf
    · have hf := it_f hf c21
      refine lv_iload_n hx hb dJ5_append_c97b9_24 rfl (lv_at hl 3 rfl) ?_
      refine lv_iload_n hx hb dJ5_append_c97b9_25 rfl (lv_at hl 0 rfl) ?_
      refine lv_aload_n hx hb dJ5_append_c97b9_26 rfl (lv_at hl 2 rfl) ?_
      refine va_get (D := g.1) (ci := 10) (fs := fcU (.ref (u8 0)) vU) (v := .ref (u8 0)) (C := RJ4) (T := TJ4) (N := 4) hx hb htu hinJ4 hown hK hP 0 rfl rfl 0 (by decide) k_4_183 (fun x9 h9 => h9) rfl dJ5_append_c97b9_27 ?_
      obtain ⟨h25, hf⟩ := gd_at hf
      obtain ⟨r22, vV_23, hg24, hf⟩ := o2_at hf
      have hpm : (cU g aU (.ref (u8 0)) vU ++ (cB g (u8 0) vV_5)).Perm ((cB g (u8 0) vV_5) ++ (cU g aU (.ref (u8 0)) vU)) := (kpc (fun P => by first | omega | (simp only [List.countP_append, List.countP_nil] <;> omega)))
      refine k_G (wc := cB g (u8 0) vV_5) (wr := cU g aU (.ref (u8 0)) vU) (w1 := fun (u : Nat → Nat) => cB g (u8 0) vV_23) (rv := fun (u : Nat → Nat) => (fun _ => some (.int r22)) u) hP hD hS hA hpm (va_runS (As := [.int x1, .int ((vU.1 3) + r1), .ref (u8 0)]) (rest := []) ⟨hx, hb, hml, hown, htu⟩ ((c_J6_getChars_ba4f3 l g (u8 0) vV_5 x1 ((vU.1 3) + r1) r22 vV_23 hg24) H.size) (va_cwS 3 htu (gU_S mw_5_87 hcJ6_getChars_ba4f3) rfl rfl rfl hdJ6_getChars_ba4f3 ⟨Nat.le_of_ble_eq_true rfl, Nat.le_of_ble_eq_true rfl⟩) (k_preS hK hP hD hS hA hG hpm) rfl rfl hl.1 rfl (lv_room (Nat.le_of_ble_eq_true rfl)) dJ5_append_c97b9_30 (of_decide_eq_true h25)) hQ_G (fun u26 H locs hP hD hS => ?_)
      refine W.eq (g2 := F0 m 33 ls [.int r22]) rfl ?_
      have hP : va_P g.1 vwCl ((cB g (u8 0) vV_23) ++ (cU g aU (.ref (u8 0)) vU)) H := hP
      have hD : va_D A ((cB g (u8 0) vV_23) ++ (cU g aU (.ref (u8 0)) vU)) := hD
      have hP : va_P g.1 vwCl (cB g (u8 0) vV_23 ++ (cU g aU (.ref (u8 0)) vU)) H := hP.perm (kpc (fun P => by first | omega | (simp only [List.countP_append, List.countP_nil] <;> omega)))
      have hD : va_D A (cB g (u8 0) vV_23 ++ (cU g aU (.ref (u8 0)) vU)) := hD.perm (kpc (fun P => by first | omega | (simp only [List.countP_append, List.countP_nil] <;> omega)))
      refine lv_pop hx hb dJ5_append_c97b9_33 rfl ?_
      refine lv_goto (tgt := 48) hx hb dJ5_append_c97b9_34 (by decide) ?_
      have hP : va_P g.1 vwCl (cU g aU (.ref (u8 0)) vU ++ (cB g (u8 0) vV_23)) H := k_dropP hP (w3 := ([] : va_W)) (kpc (fun P => by first | omega | (simp only [List.countP_append, List.countP_nil] <;> omega)))
      have hD : va_D A (cU g aU (.ref (u8 0)) vU ++ (cB g (u8 0) vV_23)) := k_dropD hD (w3 := ([] : va_W)) (kpc (fun P => by first | omega | (simp only [List.countP_append, List.countP_nil] <;> omega)))
      exact hJ15 vV_23 hf H locs hP hD hS _ (lv_sub hl [2, 0] rfl)
  rw [hH, hlo] at hW
  exact hW
def f_J4_append_15ec4_k (vU : Vs) (vV : Vs) (i0 : Nat) : Option (Vs × Vs) :=
  gd (decide (0 + 1 ≤ 1 ∧ 0 + 400 ≤ 400)) (o2 (f_J5_append_cf1ce_k vU vV i0) (fun (vU_1 : Vs) (vV_2 : Vs) => gd (decide ((0 + 1) ≤ 1 ∧ (0 + 400) ≤ 400)) (some (vU_1, vV_2))))
abbrev wsJ4_append_15ec4 : List Cond := .code yJ4_append_15ec4 cJ4_append_15ec4 2 (some (.object "java/lang/StringBuilder")) :: UW
abbrev rmJ4_append_15ec4_k : Room := { frames := 5, cells := 1, slots := 400, locals := 182 }
set_option maxHeartbeats 4000000 in
set_option maxRecDepth 100000 in
theorem c_J4_append_15ec4_k (l : Launch) (g : Gx) (aU : Nat) (vU : Vs) (qV : Nat) (vV : Vs) (i0 : Nat) (hi0 : i0 < 27) (vU1 : Vs) (vV1 : Vs) (hf : f_J4_append_15ec4_k vU vV i0 = some (vU1, vV1)) : CtG l yJ4_append_15ec4 wsJ4_append_15ec4 rmJ4_append_15ec4_k g [.ref aU, .ref (adK g i0)] (cU g aU (.ref qV) vU ++ (cB g qV vV)) (fun (u : Nat → Nat) => cU g aU (.ref (u 0)) vU1 ++ (cB g (u 0) vV1)) (fun (u : Nat → Nat) => (fun u => some (.ref aU)) u) 1 400 := by
  unfold CtG
  intro sz
  refine Met.ofW (cc := cJ4_append_15ec4) (maxL := 2) (ret := (some (.object "java/lang/StringBuilder"))) (by decide) rfl ?_
  intro p e s m args below meth c s₁ B hml hv
  obtain ⟨rfl, hsz, hP, hK, hD0, hG⟩ := hv
  have hx := B.exec
  have hb := B.bytes
  have hr := B.returns
  have hts := atoms_spec (ws := wsJ4_append_15ec4) B.pre
  have hown : s.vm.findClass RJ4 = some m.cls := findClass_of_methodNamed B.named
  have hlocks := B.notSynchronized
  subst hsz
  have hD := hD0.self (sz := s.heap.size)
  generalize hAe : va_A (cU g aU (.ref qV) vU ++ (cB g qV vV)) s.heap.size = A at hD hG ⊢
  have hA : ∀ q : Nat, s.heap.size ≤ q → A q := fun q h => by rw [← hAe]; exact Or.inr h
  clear hAe hD0
  have hS : va_S A s.heap s.heap [] := va_S.rf
  have hl := lv_entry ([.ref aU, .ref (adK g i0)]) (n := 2) (Nat.le_of_ble_eq_true rfl)
  rw [lg_entry_eq]
  generalize (lg_sl ([.ref aU, .ref (adK g i0)]) ++ List.replicate (2 - (lg_sl ([.ref aU, .ref (adK g i0)])).length) Slot.unset).toArray = ls at hl ⊢
  have hl : lv_has ls 2 [(0, .ref aU), (1, .ref (adK g i0))] := hl
  have htu : ∀ w ∈ UW, w.before _ s = true := fun w h => hts w (List.mem_cons_of_mem _ h)
  unfold f_J4_append_15ec4_k at hf
  obtain ⟨H, hH⟩ : ∃ z, z = s.heap := ⟨_, rfl⟩
  obtain ⟨locs, hlo⟩ : ∃ z : List Loc, z = [] := ⟨_, rfl⟩
  have hS : va_S A s.heap H locs := by rw [hH, hlo]; exact hS
  rw [← hH] at hP
  have hW : W p l e (headSpec wsJ4_append_15ec4 rmJ4_append_15ec4_k).room s m ([.ref aU, .ref (adK g i0)] : List Value).toArray below meth c H locs 0 0 (MQ below (qG g A (fun (u : Nat → Nat) => cU g aU (.ref (u 0)) vU1 ++ (cB g (u 0) vV1)) (fun (u : Nat → Nat) => (fun u => some (.ref aU)) u)) ([.ref aU, .ref (adK g i0)] : List Value).toArray s 1 400 A) (F0 m 0 ls []) := by
    refine lv_aload_n hx hb dJ4_append_15ec4_0 rfl (lv_at hl 0 rfl) ?_
    refine lv_aload_n hx hb dJ4_append_15ec4_1 rfl (lv_at hl 1 rfl) ?_
    obtain ⟨h4, hf⟩ := gd_at hf
    obtain ⟨vU_1, vV_2, hg3, hf⟩ := o2_at hf
    have hpm : (cU g aU (.ref qV) vU ++ (cB g qV vV)).Perm ((cU g aU (.ref qV) vU ++ (cB g qV vV)) ++ (([] : va_W))) := (kpc (fun P => by first | omega | (simp only [List.countP_append, List.countP_nil] <;> omega)))
    refine k_G (wc := cU g aU (.ref qV) vU ++ (cB g qV vV)) (wr := ([] : va_W)) (w1 := fun (u : Nat → Nat) => cU g aU (.ref (u 0)) vU_1 ++ (cB g (u 0) vV_2)) (rv := fun (u : Nat → Nat) => (fun u => some (.ref aU)) u) hP hD hS hA hpm (va_runSU (C := RJ4) (hK.1 10 (RJ4, TJ4, 4) rfl).2 (As := [.ref (adK g i0)]) (rest := []) ⟨hx, hb, hml, hown, htu⟩ ((c_J5_append_cf1ce_k l g aU vU qV vV i0 hi0 vU_1 vV_2 hg3) H.size) (va_cwSU 1 htu (gU_SU mw_4_216 mw_4_208 mw_4_195 mw_4_207 mw_1_2 mw_4_217) rfl rfl rfl (by decide +kernel) ⟨Nat.le_of_ble_eq_true rfl, Nat.le_of_ble_eq_true rfl⟩) (k_preV (C := RJ4) hK hP hD hS hA hG hpm (va_recv (ci := 10) (q0 := 0) (fs := fcU (.ref qV) vU) (q := (RJ4, TJ4, 4)) hK hP rfl rfl)) rfl rfl hl.1 rfl (lv_room (Nat.le_of_ble_eq_true rfl)) dJ4_append_15ec4_2 (of_decide_eq_true h4)) hQ_G (fun u5 H locs hP hD hS => ?_)
    refine W.eq (g2 := F0 m 5 ls [.ref aU]) rfl ?_
    have hP : va_P g.1 vwCl ((cU g aU (.ref (u5 0)) vU_1 ++ (cB g (u5 0) vV_2)) ++ (([] : va_W))) H := hP
    have hD : va_D A ((cU g aU (.ref (u5 0)) vU_1 ++ (cB g (u5 0) vV_2)) ++ (([] : va_W))) := hD
    have hP : va_P g.1 vwCl (cU g aU (.ref (u5 0)) vU_1 ++ (cB g (u5 0) vV_2)) H := hP.perm (kpc (fun P => by first | omega | (simp only [List.countP_append, List.countP_nil] <;> omega)))
    have hD : va_D A (cU g aU (.ref (u5 0)) vU_1 ++ (cB g (u5 0) vV_2)) := hD.perm (kpc (fun P => by first | omega | (simp only [List.countP_append, List.countP_nil] <;> omega)))
    refine lv_pop hx hb dJ4_append_15ec4_5 rfl ?_
    refine lv_aload_n hx hb dJ4_append_15ec4_6 rfl (lv_at hl 0 rfl) ?_
    obtain ⟨h6, hf⟩ := gd_at hf
    obtain ⟨e7, e8⟩ := kp_2 hf
    rw [e7] at hP hD
    rw [e8] at hP hD
    refine W.widen (k := 1) (n := 400) (of_decide_eq_true h6).1 (of_decide_eq_true h6).2 ?_
    exact k_Garet (w1 := fun (u : Nat → Nat) => cU g aU (.ref (u 0)) vU1 ++ (cB g (u 0) vV1)) (rv := fun (u : Nat → Nat) => (fun u => some (.ref aU)) u) (u := (fun i => if i = 0 then (u5 0) else 0)) hx hb hr (Or.inl ⟨_, rfl⟩) hlocks hK hP hD hS rfl dJ4_append_15ec4_7
  rw [hH, hlo] at hW
  exact hW
def f_J4_append_15ec4_d (vU : Vs) (vV : Vs) (vZ : Vs) (vY : Vs) : Option (Vs × Vs) :=
  gd (decide (0 + 1 ≤ 1 ∧ 0 + 400 ≤ 400)) (o2 (f_J5_append_cf1ce_d vU vV vZ vY) (fun (vU_1 : Vs) (vV_2 : Vs) => gd (decide ((0 + 1) ≤ 1 ∧ (0 + 400) ≤ 400)) (some (vU_1, vV_2))))
abbrev rmJ4_append_15ec4_d : Room := { frames := 5, cells := 1, slots := 400, locals := 182 }
set_option maxHeartbeats 4000000 in
set_option maxRecDepth 100000 in
theorem c_J4_append_15ec4_d (l : Launch) (g : Gx) (aU : Nat) (vU : Vs) (qV : Nat) (vV : Vs) (aZ : Nat) (vZ : Vs) (qY : Nat) (vY : Vs) (vU1 : Vs) (vV1 : Vs) (hf : f_J4_append_15ec4_d vU vV vZ vY = some (vU1, vV1)) : CtG l yJ4_append_15ec4 wsJ4_append_15ec4 rmJ4_append_15ec4_d g [.ref aU, .ref aZ] (cU g aU (.ref qV) vU ++ (cB g qV vV ++ (cZ g aZ (.ref qY) vZ ++ (cB g qY vY)))) (fun (u : Nat → Nat) => cU g aU (.ref (u 0)) vU1 ++ (cB g (u 0) vV1 ++ (cZ g aZ (.ref qY) vZ ++ (cB g qY vY)))) (fun (u : Nat → Nat) => (fun u => some (.ref aU)) u) 1 400 := by
  unfold CtG
  intro sz
  refine Met.ofW (cc := cJ4_append_15ec4) (maxL := 2) (ret := (some (.object "java/lang/StringBuilder"))) (by decide) rfl ?_
  intro p e s m args below meth c s₁ B hml hv
  obtain ⟨rfl, hsz, hP, hK, hD0, hG⟩ := hv
  have hx := B.exec
  have hb := B.bytes
  have hr := B.returns
  have hts := atoms_spec (ws := wsJ4_append_15ec4) B.pre
  have hown : s.vm.findClass RJ4 = some m.cls := findClass_of_methodNamed B.named
  have hlocks := B.notSynchronized
  subst hsz
  have hD := hD0.self (sz := s.heap.size)
  generalize hAe : va_A (cU g aU (.ref qV) vU ++ (cB g qV vV ++ (cZ g aZ (.ref qY) vZ ++ (cB g qY vY)))) s.heap.size = A at hD hG ⊢
  have hA : ∀ q : Nat, s.heap.size ≤ q → A q := fun q h => by rw [← hAe]; exact Or.inr h
  clear hAe hD0
  have hS : va_S A s.heap s.heap [] := va_S.rf
  have hl := lv_entry ([.ref aU, .ref aZ]) (n := 2) (Nat.le_of_ble_eq_true rfl)
  rw [lg_entry_eq]
  generalize (lg_sl ([.ref aU, .ref aZ]) ++ List.replicate (2 - (lg_sl ([.ref aU, .ref aZ])).length) Slot.unset).toArray = ls at hl ⊢
  have hl : lv_has ls 2 [(0, .ref aU), (1, .ref aZ)] := hl
  have htu : ∀ w ∈ UW, w.before _ s = true := fun w h => hts w (List.mem_cons_of_mem _ h)
  unfold f_J4_append_15ec4_d at hf
  obtain ⟨H, hH⟩ : ∃ z, z = s.heap := ⟨_, rfl⟩
  obtain ⟨locs, hlo⟩ : ∃ z : List Loc, z = [] := ⟨_, rfl⟩
  have hS : va_S A s.heap H locs := by rw [hH, hlo]; exact hS
  rw [← hH] at hP
  have hW : W p l e (headSpec wsJ4_append_15ec4 rmJ4_append_15ec4_d).room s m ([.ref aU, .ref aZ] : List Value).toArray below meth c H locs 0 0 (MQ below (qG g A (fun (u : Nat → Nat) => cU g aU (.ref (u 0)) vU1 ++ (cB g (u 0) vV1 ++ (cZ g aZ (.ref qY) vZ ++ (cB g qY vY)))) (fun (u : Nat → Nat) => (fun u => some (.ref aU)) u)) ([.ref aU, .ref aZ] : List Value).toArray s 1 400 A) (F0 m 0 ls []) := by
    refine lv_aload_n hx hb dJ4_append_15ec4_0 rfl (lv_at hl 0 rfl) ?_
    refine lv_aload_n hx hb dJ4_append_15ec4_1 rfl (lv_at hl 1 rfl) ?_
    obtain ⟨h4, hf⟩ := gd_at hf
    obtain ⟨vU_1, vV_2, hg3, hf⟩ := o2_at hf
    have hpm : (cU g aU (.ref qV) vU ++ (cB g qV vV ++ (cZ g aZ (.ref qY) vZ ++ (cB g qY vY)))).Perm ((cU g aU (.ref qV) vU ++ (cB g qV vV ++ (cZ g aZ (.ref qY) vZ ++ (cB g qY vY)))) ++ (([] : va_W))) := (kpc (fun P => by first | omega | (simp only [List.countP_append, List.countP_nil] <;> omega)))
    refine k_G (wc := cU g aU (.ref qV) vU ++ (cB g qV vV ++ (cZ g aZ (.ref qY) vZ ++ (cB g qY vY)))) (wr := ([] : va_W)) (w1 := fun (u : Nat → Nat) => cU g aU (.ref (u 0)) vU_1 ++ (cB g (u 0) vV_2 ++ (cZ g aZ (.ref qY) vZ ++ (cB g qY vY)))) (rv := fun (u : Nat → Nat) => (fun u => some (.ref aU)) u) hP hD hS hA hpm (va_runSU (C := RJ4) (hK.1 10 (RJ4, TJ4, 4) rfl).2 (As := [.ref aZ]) (rest := []) ⟨hx, hb, hml, hown, htu⟩ ((c_J5_append_cf1ce_d l g aU vU qV vV aZ vZ qY vY vU_1 vV_2 hg3) H.size) (va_cwSU 1 htu (gU_SU mw_4_216 mw_4_208 mw_4_195 mw_4_207 mw_1_2 mw_4_217) rfl rfl rfl (by decide +kernel) ⟨Nat.le_of_ble_eq_true rfl, Nat.le_of_ble_eq_true rfl⟩) (k_preV (C := RJ4) hK hP hD hS hA hG hpm (va_recv (ci := 10) (q0 := 0) (fs := fcU (.ref qV) vU) (q := (RJ4, TJ4, 4)) hK hP rfl rfl)) rfl rfl hl.1 rfl (lv_room (Nat.le_of_ble_eq_true rfl)) dJ4_append_15ec4_2 (of_decide_eq_true h4)) hQ_G (fun u5 H locs hP hD hS => ?_)
    refine W.eq (g2 := F0 m 5 ls [.ref aU]) rfl ?_
    have hP : va_P g.1 vwCl ((cU g aU (.ref (u5 0)) vU_1 ++ (cB g (u5 0) vV_2 ++ (cZ g aZ (.ref qY) vZ ++ (cB g qY vY)))) ++ (([] : va_W))) H := hP
    have hD : va_D A ((cU g aU (.ref (u5 0)) vU_1 ++ (cB g (u5 0) vV_2 ++ (cZ g aZ (.ref qY) vZ ++ (cB g qY vY)))) ++ (([] : va_W))) := hD
    have hP : va_P g.1 vwCl (cU g aU (.ref (u5 0)) vU_1 ++ (cB g (u5 0) vV_2 ++ (cZ g aZ (.ref qY) vZ ++ (cB g qY vY)))) H := hP.perm (kpc (fun P => by first | omega | (simp only [List.countP_append, List.countP_nil] <;> omega)))
    have hD : va_D A (cU g aU (.ref (u5 0)) vU_1 ++ (cB g (u5 0) vV_2 ++ (cZ g aZ (.ref qY) vZ ++ (cB g qY vY)))) := hD.perm (kpc (fun P => by first | omega | (simp only [List.countP_append, List.countP_nil] <;> omega)))
    refine lv_pop hx hb dJ4_append_15ec4_5 rfl ?_
    refine lv_aload_n hx hb dJ4_append_15ec4_6 rfl (lv_at hl 0 rfl) ?_
    obtain ⟨h6, hf⟩ := gd_at hf
    obtain ⟨e7, e8⟩ := kp_2 hf
    rw [e7] at hP hD
    rw [e8] at hP hD
    refine W.widen (k := 1) (n := 400) (of_decide_eq_true h6).1 (of_decide_eq_true h6).2 ?_
    exact k_Garet (w1 := fun (u : Nat → Nat) => cU g aU (.ref (u 0)) vU1 ++ (cB g (u 0) vV1 ++ (cZ g aZ (.ref qY) vZ ++ (cB g qY vY)))) (rv := fun (u : Nat → Nat) => (fun u => some (.ref aU)) u) (u := (fun i => if i = 0 then (u5 0) else 0)) hx hb hr (Or.inl ⟨_, rfl⟩) hlocks hK hP hD hS rfl dJ4_append_15ec4_7
  rw [hH, hlo] at hW
  exact hW
def f_J4_append_cf1ce_d (vU : Vs) (vV : Vs) (vZ : Vs) (vY : Vs) : Option (Vs × Vs) :=
  gd (decide (0 + 1 ≤ 1 ∧ 0 + 400 ≤ 400)) (o2 (f_J4_append_15ec4_d vU vV vZ vY) (fun (vU_1 : Vs) (vV_2 : Vs) => gd (decide ((0 + 1) ≤ 1 ∧ (0 + 400) ≤ 400)) (some (vU_1, vV_2))))
abbrev wsJ4_append_cf1ce : List Cond := .code yJ4_append_cf1ce cJ4_append_cf1ce 2 (some (.object "java/lang/AbstractStringBuilder")) :: UW
abbrev rmJ4_append_cf1ce_d : Room := { frames := 6, cells := 1, slots := 400, locals := 203 }
set_option maxHeartbeats 4000000 in
set_option maxRecDepth 100000 in
theorem c_J4_append_cf1ce_d (l : Launch) (g : Gx) (aU : Nat) (vU : Vs) (qV : Nat) (vV : Vs) (aZ : Nat) (vZ : Vs) (qY : Nat) (vY : Vs) (vU1 : Vs) (vV1 : Vs) (hf : f_J4_append_cf1ce_d vU vV vZ vY = some (vU1, vV1)) : CtG l yJ4_append_cf1ce wsJ4_append_cf1ce rmJ4_append_cf1ce_d g [.ref aU, .ref aZ] (cU g aU (.ref qV) vU ++ (cB g qV vV ++ (cZ g aZ (.ref qY) vZ ++ (cB g qY vY)))) (fun (u : Nat → Nat) => cU g aU (.ref (u 0)) vU1 ++ (cB g (u 0) vV1 ++ (cZ g aZ (.ref qY) vZ ++ (cB g qY vY)))) (fun (u : Nat → Nat) => (fun u => some (.ref aU)) u) 1 400 := by
  unfold CtG
  intro sz
  refine Met.ofW (cc := cJ4_append_cf1ce) (maxL := 2) (ret := (some (.object "java/lang/AbstractStringBuilder"))) (by decide) rfl ?_
  intro p e s m args below meth c s₁ B hml hv
  obtain ⟨rfl, hsz, hP, hK, hD0, hG⟩ := hv
  have hx := B.exec
  have hb := B.bytes
  have hr := B.returns
  have hts := atoms_spec (ws := wsJ4_append_cf1ce) B.pre
  have hown : s.vm.findClass RJ4 = some m.cls := findClass_of_methodNamed B.named
  have hlocks := B.notSynchronized
  subst hsz
  have hD := hD0.self (sz := s.heap.size)
  generalize hAe : va_A (cU g aU (.ref qV) vU ++ (cB g qV vV ++ (cZ g aZ (.ref qY) vZ ++ (cB g qY vY)))) s.heap.size = A at hD hG ⊢
  have hA : ∀ q : Nat, s.heap.size ≤ q → A q := fun q h => by rw [← hAe]; exact Or.inr h
  clear hAe hD0
  have hS : va_S A s.heap s.heap [] := va_S.rf
  have hl := lv_entry ([.ref aU, .ref aZ]) (n := 2) (Nat.le_of_ble_eq_true rfl)
  rw [lg_entry_eq]
  generalize (lg_sl ([.ref aU, .ref aZ]) ++ List.replicate (2 - (lg_sl ([.ref aU, .ref aZ])).length) Slot.unset).toArray = ls at hl ⊢
  have hl : lv_has ls 2 [(0, .ref aU), (1, .ref aZ)] := hl
  have htu : ∀ w ∈ UW, w.before _ s = true := fun w h => hts w (List.mem_cons_of_mem _ h)
  unfold f_J4_append_cf1ce_d at hf
  obtain ⟨H, hH⟩ : ∃ z, z = s.heap := ⟨_, rfl⟩
  obtain ⟨locs, hlo⟩ : ∃ z : List Loc, z = [] := ⟨_, rfl⟩
  have hS : va_S A s.heap H locs := by rw [hH, hlo]; exact hS
  rw [← hH] at hP
  have hW : W p l e (headSpec wsJ4_append_cf1ce rmJ4_append_cf1ce_d).room s m ([.ref aU, .ref aZ] : List Value).toArray below meth c H locs 0 0 (MQ below (qG g A (fun (u : Nat → Nat) => cU g aU (.ref (u 0)) vU1 ++ (cB g (u 0) vV1 ++ (cZ g aZ (.ref qY) vZ ++ (cB g qY vY)))) (fun (u : Nat → Nat) => (fun u => some (.ref aU)) u)) ([.ref aU, .ref aZ] : List Value).toArray s 1 400 A) (F0 m 0 ls []) := by
    refine lv_aload_n hx hb dJ4_append_cf1ce_0 rfl (lv_at hl 0 rfl) ?_
    refine lv_aload_n hx hb dJ4_append_cf1ce_1 rfl (lv_at hl 1 rfl) ?_
    obtain ⟨h4, hf⟩ := gd_at hf
    obtain ⟨vU_1, vV_2, hg3, hf⟩ := o2_at hf
    have hpm : (cU g aU (.ref qV) vU ++ (cB g qV vV ++ (cZ g aZ (.ref qY) vZ ++ (cB g qY vY)))).Perm ((cU g aU (.ref qV) vU ++ (cB g qV vV ++ (cZ g aZ (.ref qY) vZ ++ (cB g qY vY)))) ++ (([] : va_W))) := (kpc (fun P => by first | omega | (simp only [List.countP_append, List.countP_nil] <;> omega)))
    refine k_G (wc := cU g aU (.ref qV) vU ++ (cB g qV vV ++ (cZ g aZ (.ref qY) vZ ++ (cB g qY vY)))) (wr := ([] : va_W)) (w1 := fun (u : Nat → Nat) => cU g aU (.ref (u 0)) vU_1 ++ (cB g (u 0) vV_2 ++ (cZ g aZ (.ref qY) vZ ++ (cB g qY vY)))) (rv := fun (u : Nat → Nat) => (fun u => some (.ref aU)) u) hP hD hS hA hpm (va_runV (As := [.ref aZ]) (rest := []) ⟨hx, hb, hml, hown, htu⟩ ((c_J4_append_15ec4_d l g aU vU qV vV aZ vZ qY vY vU_1 vV_2 hg3) H.size) (cwV 1 htu (gU_V mw_4_212 hcJ4_append_15ec4) rfl rfl rfl hdJ4_append_15ec4 ⟨Nat.le_of_ble_eq_true rfl, Nat.le_of_ble_eq_true rfl⟩) (k_preV (C := RJ4) hK hP hD hS hA hG hpm (va_recv (ci := 10) (q0 := 0) (fs := fcU (.ref qV) vU) (q := (RJ4, TJ4, 4)) hK hP rfl rfl)) rfl rfl hl.1 rfl (lv_room (Nat.le_of_ble_eq_true rfl)) dJ4_append_cf1ce_2 (of_decide_eq_true h4)) hQ_G (fun u5 H locs hP hD hS => ?_)
    refine W.eq (g2 := F0 m 5 ls [.ref aU]) rfl ?_
    have hP : va_P g.1 vwCl ((cU g aU (.ref (u5 0)) vU_1 ++ (cB g (u5 0) vV_2 ++ (cZ g aZ (.ref qY) vZ ++ (cB g qY vY)))) ++ (([] : va_W))) H := hP
    have hD : va_D A ((cU g aU (.ref (u5 0)) vU_1 ++ (cB g (u5 0) vV_2 ++ (cZ g aZ (.ref qY) vZ ++ (cB g qY vY)))) ++ (([] : va_W))) := hD
    have hP : va_P g.1 vwCl (cU g aU (.ref (u5 0)) vU_1 ++ (cB g (u5 0) vV_2 ++ (cZ g aZ (.ref qY) vZ ++ (cB g qY vY)))) H := hP.perm (kpc (fun P => by first | omega | (simp only [List.countP_append, List.countP_nil] <;> omega)))
    have hD : va_D A (cU g aU (.ref (u5 0)) vU_1 ++ (cB g (u5 0) vV_2 ++ (cZ g aZ (.ref qY) vZ ++ (cB g qY vY)))) := hD.perm (kpc (fun P => by first | omega | (simp only [List.countP_append, List.countP_nil] <;> omega)))
    obtain ⟨h6, hf⟩ := gd_at hf
    obtain ⟨e7, e8⟩ := kp_2 hf
    rw [e7] at hP hD
    rw [e8] at hP hD
    refine W.widen (k := 1) (n := 400) (of_decide_eq_true h6).1 (of_decide_eq_true h6).2 ?_
    exact k_Garet (w1 := fun (u : Nat → Nat) => cU g aU (.ref (u 0)) vU1 ++ (cB g (u 0) vV1 ++ (cZ g aZ (.ref qY) vZ ++ (cB g qY vY)))) (rv := fun (u : Nat → Nat) => (fun u => some (.ref aU)) u) (u := (fun i => if i = 0 then (u5 0) else 0)) hx hb hr (Or.inl ⟨_, rfl⟩) hlocks hK hP hD hS rfl dJ4_append_cf1ce_5
  rw [hH, hlo] at hW
  exact hW
def f_J4_append_cf468 (vU : Vs) (vV : Vs) (x1 : Int32) : Option (Vs × Vs) :=
  gd (decide (0 + 1 ≤ 1 ∧ 0 + 400 ≤ 400)) (o2 (f_J5_append_3fe6f vU vV x1) (fun (vU_1 : Vs) (vV_2 : Vs) => gd (decide ((0 + 1) ≤ 1 ∧ (0 + 400) ≤ 400)) (some (vU_1, vV_2))))
abbrev wsJ4_append_cf468 : List Cond := .code yJ4_append_cf468 cJ4_append_cf468 2 (some (.object "java/lang/StringBuilder")) :: UW
abbrev rmJ4_append_cf468 : Room := { frames := 5, cells := 1, slots := 400, locals := 181 }
set_option maxHeartbeats 4000000 in
set_option maxRecDepth 100000 in
theorem c_J4_append_cf468 (l : Launch) (g : Gx) (aU : Nat) (vU : Vs) (qV : Nat) (vV : Vs) (x1 : Int32) (vU1 : Vs) (vV1 : Vs) (hf : f_J4_append_cf468 vU vV x1 = some (vU1, vV1)) : CtG l yJ4_append_cf468 wsJ4_append_cf468 rmJ4_append_cf468 g [.ref aU, .int x1] (cU g aU (.ref qV) vU ++ (cB g qV vV)) (fun (u : Nat → Nat) => cU g aU (.ref (u 0)) vU1 ++ (cB g (u 0) vV1)) (fun (u : Nat → Nat) => (fun u => some (.ref aU)) u) 1 400 := by
  unfold CtG
  intro sz
  refine Met.ofW (cc := cJ4_append_cf468) (maxL := 2) (ret := (some (.object "java/lang/StringBuilder"))) (by decide) rfl ?_
  intro p e s m args below meth c s₁ B hml hv
  obtain ⟨rfl, hsz, hP, hK, hD0, hG⟩ := hv
  have hx := B.exec
  have hb := B.bytes
  have hr := B.returns
  have hts := atoms_spec (ws := wsJ4_append_cf468) B.pre
  have hown : s.vm.findClass RJ4 = some m.cls := findClass_of_methodNamed B.named
  have hlocks := B.notSynchronized
  subst hsz
  have hD := hD0.self (sz := s.heap.size)
  generalize hAe : va_A (cU g aU (.ref qV) vU ++ (cB g qV vV)) s.heap.size = A at hD hG ⊢
  have hA : ∀ q : Nat, s.heap.size ≤ q → A q := fun q h => by rw [← hAe]; exact Or.inr h
  clear hAe hD0
  have hS : va_S A s.heap s.heap [] := va_S.rf
  have hl := lv_entry ([.ref aU, .int x1]) (n := 2) (Nat.le_of_ble_eq_true rfl)
  rw [lg_entry_eq]
  generalize (lg_sl ([.ref aU, .int x1]) ++ List.replicate (2 - (lg_sl ([.ref aU, .int x1])).length) Slot.unset).toArray = ls at hl ⊢
  have hl : lv_has ls 2 [(0, .ref aU), (1, .int x1)] := hl
  have htu : ∀ w ∈ UW, w.before _ s = true := fun w h => hts w (List.mem_cons_of_mem _ h)
  unfold f_J4_append_cf468 at hf
  obtain ⟨H, hH⟩ : ∃ z, z = s.heap := ⟨_, rfl⟩
  obtain ⟨locs, hlo⟩ : ∃ z : List Loc, z = [] := ⟨_, rfl⟩
  have hS : va_S A s.heap H locs := by rw [hH, hlo]; exact hS
  rw [← hH] at hP
  have hW : W p l e (headSpec wsJ4_append_cf468 rmJ4_append_cf468).room s m ([.ref aU, .int x1] : List Value).toArray below meth c H locs 0 0 (MQ below (qG g A (fun (u : Nat → Nat) => cU g aU (.ref (u 0)) vU1 ++ (cB g (u 0) vV1)) (fun (u : Nat → Nat) => (fun u => some (.ref aU)) u)) ([.ref aU, .int x1] : List Value).toArray s 1 400 A) (F0 m 0 ls []) := by
    refine lv_aload_n hx hb dJ4_append_cf468_0 rfl (lv_at hl 0 rfl) ?_
    refine lv_iload_n hx hb dJ4_append_cf468_1 rfl (lv_at hl 1 rfl) ?_
    obtain ⟨h4, hf⟩ := gd_at hf
    obtain ⟨vU_1, vV_2, hg3, hf⟩ := o2_at hf
    have hpm : (cU g aU (.ref qV) vU ++ (cB g qV vV)).Perm ((cU g aU (.ref qV) vU ++ (cB g qV vV)) ++ (([] : va_W))) := (kpc (fun P => by first | omega | (simp only [List.countP_append, List.countP_nil] <;> omega)))
    refine k_G (wc := cU g aU (.ref qV) vU ++ (cB g qV vV)) (wr := ([] : va_W)) (w1 := fun (u : Nat → Nat) => cU g aU (.ref (u 0)) vU_1 ++ (cB g (u 0) vV_2)) (rv := fun (u : Nat → Nat) => (fun u => some (.ref aU)) u) hP hD hS hA hpm (va_runSU (C := RJ4) (hK.1 10 (RJ4, TJ4, 4) rfl).2 (As := [.int x1]) (rest := []) ⟨hx, hb, hml, hown, htu⟩ ((c_J5_append_3fe6f l g aU vU qV vV x1 vU_1 vV_2 hg3) H.size) (va_cwSU 1 htu (gU_SU mw_5_68 mw_5_174 mw_4_195 mw_5_69 mw_1_2 mw_5_70) rfl rfl rfl (by decide +kernel) ⟨Nat.le_of_ble_eq_true rfl, Nat.le_of_ble_eq_true rfl⟩) (k_preV (C := RJ4) hK hP hD hS hA hG hpm (va_recv (ci := 10) (q0 := 0) (fs := fcU (.ref qV) vU) (q := (RJ4, TJ4, 4)) hK hP rfl rfl)) rfl rfl hl.1 rfl (lv_room (Nat.le_of_ble_eq_true rfl)) dJ4_append_cf468_2 (of_decide_eq_true h4)) hQ_G (fun u5 H locs hP hD hS => ?_)
    refine W.eq (g2 := F0 m 5 ls [.ref aU]) rfl ?_
    have hP : va_P g.1 vwCl ((cU g aU (.ref (u5 0)) vU_1 ++ (cB g (u5 0) vV_2)) ++ (([] : va_W))) H := hP
    have hD : va_D A ((cU g aU (.ref (u5 0)) vU_1 ++ (cB g (u5 0) vV_2)) ++ (([] : va_W))) := hD
    have hP : va_P g.1 vwCl (cU g aU (.ref (u5 0)) vU_1 ++ (cB g (u5 0) vV_2)) H := hP.perm (kpc (fun P => by first | omega | (simp only [List.countP_append, List.countP_nil] <;> omega)))
    have hD : va_D A (cU g aU (.ref (u5 0)) vU_1 ++ (cB g (u5 0) vV_2)) := hD.perm (kpc (fun P => by first | omega | (simp only [List.countP_append, List.countP_nil] <;> omega)))
    refine lv_pop hx hb dJ4_append_cf468_5 rfl ?_
    refine lv_aload_n hx hb dJ4_append_cf468_6 rfl (lv_at hl 0 rfl) ?_
    obtain ⟨h6, hf⟩ := gd_at hf
    obtain ⟨e7, e8⟩ := kp_2 hf
    rw [e7] at hP hD
    rw [e8] at hP hD
    refine W.widen (k := 1) (n := 400) (of_decide_eq_true h6).1 (of_decide_eq_true h6).2 ?_
    exact k_Garet (w1 := fun (u : Nat → Nat) => cU g aU (.ref (u 0)) vU1 ++ (cB g (u 0) vV1)) (rv := fun (u : Nat → Nat) => (fun u => some (.ref aU)) u) (u := (fun i => if i = 0 then (u5 0) else 0)) hx hb hr (Or.inl ⟨_, rfl⟩) hlocks hK hP hD hS rfl dJ4_append_cf468_7
  rw [hH, hlo] at hW
  exact hW
def f_J4_append_bf812 (vU : Vs) (vV : Vs) (x1 : Int32) : Option (Vs × Vs) :=
  gd (decide (0 + 1 ≤ 1 ∧ 0 + 400 ≤ 400)) (o2 (f_J5_append_c97b9 vU vV x1) (fun (vU_1 : Vs) (vV_2 : Vs) => gd (decide ((0 + 1) ≤ 1 ∧ (0 + 400) ≤ 400)) (some (vU_1, vV_2))))
abbrev wsJ4_append_bf812 : List Cond := .code yJ4_append_bf812 cJ4_append_bf812 2 (some (.object "java/lang/StringBuilder")) :: UW
abbrev rmJ4_append_bf812 : Room := { frames := 5, cells := 1, slots := 400, locals := 183 }
set_option maxHeartbeats 4000000 in
set_option maxRecDepth 100000 in
theorem c_J4_append_bf812 (l : Launch) (g : Gx) (aU : Nat) (vU : Vs) (qV : Nat) (vV : Vs) (x1 : Int32) (vU1 : Vs) (vV1 : Vs) (hf : f_J4_append_bf812 vU vV x1 = some (vU1, vV1)) : CtG l yJ4_append_bf812 wsJ4_append_bf812 rmJ4_append_bf812 g [.ref aU, .int x1] (cU g aU (.ref qV) vU ++ (cB g qV vV)) (fun (u : Nat → Nat) => cU g aU (.ref (u 0)) vU1 ++ (cB g (u 0) vV1)) (fun (u : Nat → Nat) => (fun u => some (.ref aU)) u) 1 400 := by
  unfold CtG
  intro sz
  refine Met.ofW (cc := cJ4_append_bf812) (maxL := 2) (ret := (some (.object "java/lang/StringBuilder"))) (by decide) rfl ?_
  intro p e s m args below meth c s₁ B hml hv
  obtain ⟨rfl, hsz, hP, hK, hD0, hG⟩ := hv
  have hx := B.exec
  have hb := B.bytes
  have hr := B.returns
  have hts := atoms_spec (ws := wsJ4_append_bf812) B.pre
  have hown : s.vm.findClass RJ4 = some m.cls := findClass_of_methodNamed B.named
  have hlocks := B.notSynchronized
  subst hsz
  have hD := hD0.self (sz := s.heap.size)
  generalize hAe : va_A (cU g aU (.ref qV) vU ++ (cB g qV vV)) s.heap.size = A at hD hG ⊢
  have hA : ∀ q : Nat, s.heap.size ≤ q → A q := fun q h => by rw [← hAe]; exact Or.inr h
  clear hAe hD0
  have hS : va_S A s.heap s.heap [] := va_S.rf
  have hl := lv_entry ([.ref aU, .int x1]) (n := 2) (Nat.le_of_ble_eq_true rfl)
  rw [lg_entry_eq]
  generalize (lg_sl ([.ref aU, .int x1]) ++ List.replicate (2 - (lg_sl ([.ref aU, .int x1])).length) Slot.unset).toArray = ls at hl ⊢
  have hl : lv_has ls 2 [(0, .ref aU), (1, .int x1)] := hl
  have htu : ∀ w ∈ UW, w.before _ s = true := fun w h => hts w (List.mem_cons_of_mem _ h)
  unfold f_J4_append_bf812 at hf
  obtain ⟨H, hH⟩ : ∃ z, z = s.heap := ⟨_, rfl⟩
  obtain ⟨locs, hlo⟩ : ∃ z : List Loc, z = [] := ⟨_, rfl⟩
  have hS : va_S A s.heap H locs := by rw [hH, hlo]; exact hS
  rw [← hH] at hP
  have hW : W p l e (headSpec wsJ4_append_bf812 rmJ4_append_bf812).room s m ([.ref aU, .int x1] : List Value).toArray below meth c H locs 0 0 (MQ below (qG g A (fun (u : Nat → Nat) => cU g aU (.ref (u 0)) vU1 ++ (cB g (u 0) vV1)) (fun (u : Nat → Nat) => (fun u => some (.ref aU)) u)) ([.ref aU, .int x1] : List Value).toArray s 1 400 A) (F0 m 0 ls []) := by
    refine lv_aload_n hx hb dJ4_append_bf812_0 rfl (lv_at hl 0 rfl) ?_
    refine lv_iload_n hx hb dJ4_append_bf812_1 rfl (lv_at hl 1 rfl) ?_
    obtain ⟨h4, hf⟩ := gd_at hf
    obtain ⟨vU_1, vV_2, hg3, hf⟩ := o2_at hf
    have hpm : (cU g aU (.ref qV) vU ++ (cB g qV vV)).Perm ((cU g aU (.ref qV) vU ++ (cB g qV vV)) ++ (([] : va_W))) := (kpc (fun P => by first | omega | (simp only [List.countP_append, List.countP_nil] <;> omega)))
    refine k_G (wc := cU g aU (.ref qV) vU ++ (cB g qV vV)) (wr := ([] : va_W)) (w1 := fun (u : Nat → Nat) => cU g aU (.ref (u 0)) vU_1 ++ (cB g (u 0) vV_2)) (rv := fun (u : Nat → Nat) => (fun u => some (.ref aU)) u) hP hD hS hA hpm (va_runSU (C := RJ4) (hK.1 10 (RJ4, TJ4, 4) rfl).2 (As := [.int x1]) (rest := []) ⟨hx, hb, hml, hown, htu⟩ ((c_J5_append_c97b9 l g aU vU qV vV x1 vU_1 vV_2 hg3) H.size) (va_cwSU 1 htu (gU_SU mw_5_81 mw_5_175 mw_4_195 mw_5_82 mw_1_2 mw_5_83) rfl rfl rfl (by decide +kernel) ⟨Nat.le_of_ble_eq_true rfl, Nat.le_of_ble_eq_true rfl⟩) (k_preV (C := RJ4) hK hP hD hS hA hG hpm (va_recv (ci := 10) (q0 := 0) (fs := fcU (.ref qV) vU) (q := (RJ4, TJ4, 4)) hK hP rfl rfl)) rfl rfl hl.1 rfl (lv_room (Nat.le_of_ble_eq_true rfl)) dJ4_append_bf812_2 (of_decide_eq_true h4)) hQ_G (fun u5 H locs hP hD hS => ?_)
    refine W.eq (g2 := F0 m 5 ls [.ref aU]) rfl ?_
    have hP : va_P g.1 vwCl ((cU g aU (.ref (u5 0)) vU_1 ++ (cB g (u5 0) vV_2)) ++ (([] : va_W))) H := hP
    have hD : va_D A ((cU g aU (.ref (u5 0)) vU_1 ++ (cB g (u5 0) vV_2)) ++ (([] : va_W))) := hD
    have hP : va_P g.1 vwCl (cU g aU (.ref (u5 0)) vU_1 ++ (cB g (u5 0) vV_2)) H := hP.perm (kpc (fun P => by first | omega | (simp only [List.countP_append, List.countP_nil] <;> omega)))
    have hD : va_D A (cU g aU (.ref (u5 0)) vU_1 ++ (cB g (u5 0) vV_2)) := hD.perm (kpc (fun P => by first | omega | (simp only [List.countP_append, List.countP_nil] <;> omega)))
    refine lv_pop hx hb dJ4_append_bf812_5 rfl ?_
    refine lv_aload_n hx hb dJ4_append_bf812_6 rfl (lv_at hl 0 rfl) ?_
    obtain ⟨h6, hf⟩ := gd_at hf
    obtain ⟨e7, e8⟩ := kp_2 hf
    rw [e7] at hP hD
    rw [e8] at hP hD
    refine W.widen (k := 1) (n := 400) (of_decide_eq_true h6).1 (of_decide_eq_true h6).2 ?_
    exact k_Garet (w1 := fun (u : Nat → Nat) => cU g aU (.ref (u 0)) vU1 ++ (cB g (u 0) vV1)) (rv := fun (u : Nat → Nat) => (fun u => some (.ref aU)) u) (u := (fun i => if i = 0 then (u5 0) else 0)) hx hb hr (Or.inl ⟨_, rfl⟩) hlocks hK hP hD hS rfl dJ4_append_bf812_7
  rw [hH, hlo] at hW
  exact hW
def f_J5_init_d00df (vU : Vs) (x1 : Int32) : Option (Vs × Vs) :=
  gd (decide (¬ ((1 : Int32) = 0))) (gd (decide (¬ x1 < 0 ∧ (x1).toNatClampNeg ≤ 65536 ∧ 0 + 1 ≤ 1 ∧ 0 + (x1).toNatClampNeg ≤ 400)) (bn (aV x1 (fun _ => 0)) (fun (vN12_5 : Vs) => gd (isY (0 : Int32)) (bn (sF vU 1 (0 : Int32)) (fun (vU_7 : Vs) => gd (decide ((0 + 1) ≤ 1 ∧ (0 + (x1).toNatClampNeg) ≤ 400)) (some (vU_7, vN12_5)))))))
abbrev wsJ5_init_d00df : List Cond := .code yJ5_init_d00df cJ5_init_d00df 2 none :: UW
abbrev rmJ5_init_d00df : Room := { frames := 1, cells := 1, slots := 400, locals := 60 }
set_option maxHeartbeats 4000000 in
set_option maxRecDepth 100000 in
theorem c_J5_init_d00df (l : Launch) (g : Gx) (aU : Nat) (vU : Vs) (x1 : Int32) (vU1 : Vs) (vR01 : Vs) (hf : f_J5_init_d00df vU x1 = some (vU1, vR01)) : CtG l yJ5_init_d00df wsJ5_init_d00df rmJ5_init_d00df g [.ref aU, .int x1] (cU g aU .null vU) (fun (u : Nat → Nat) => cU g aU (.ref (u 0)) vU1 ++ (cB g (u 0) vR01)) (fun (u : Nat → Nat) => (fun _ => none) u) 1 400 := by
  unfold CtG
  intro sz
  refine Met.ofW (cc := cJ5_init_d00df) (maxL := 2) (ret := none) (by decide) rfl ?_
  intro p e s m args below meth c s₁ B hml hv
  obtain ⟨rfl, hsz, hP, hK, hD0, hG⟩ := hv
  have hx := B.exec
  have hb := B.bytes
  have hr := B.returns
  have hts := atoms_spec (ws := wsJ5_init_d00df) B.pre
  have hown : s.vm.findClass RJ5 = some m.cls := findClass_of_methodNamed B.named
  have hlocks := B.notSynchronized
  have hin : meth.name = "<init>" := (name_of_methodNamed B.named B.method).1
  subst hsz
  have hD := hD0.self (sz := s.heap.size)
  generalize hAe : va_A (cU g aU .null vU) s.heap.size = A at hD hG ⊢
  have hA : ∀ q : Nat, s.heap.size ≤ q → A q := fun q h => by rw [← hAe]; exact Or.inr h
  clear hAe hD0
  have hS : va_S A s.heap s.heap [] := va_S.rf
  have hl := lv_entry ([.ref aU, .int x1]) (n := 2) (Nat.le_of_ble_eq_true rfl)
  rw [lg_entry_eq]
  generalize (lg_sl ([.ref aU, .int x1]) ++ List.replicate (2 - (lg_sl ([.ref aU, .int x1])).length) Slot.unset).toArray = ls at hl ⊢
  have hl : lv_has ls 2 [(0, .ref aU), (1, .int x1)] := hl
  have htu : ∀ w ∈ UW, w.before _ s = true := fun w h => hts w (List.mem_cons_of_mem _ h)
  have k_4_174 := htu _ mw_4_174
  have k_4_175 := htu _ mw_4_175
  have k_2_202 := htu _ mw_2_202
  have k_4_183 := htu _ mw_4_183
  have k_4_184 := htu _ mw_4_184
  unfold f_J5_init_d00df at hf
  obtain ⟨H, hH⟩ : ∃ z, z = s.heap := ⟨_, rfl⟩
  obtain ⟨locs, hlo⟩ : ∃ z : List Loc, z = [] := ⟨_, rfl⟩
  have hS : va_S A s.heap H locs := by rw [hH, hlo]; exact hS
  rw [← hH] at hP
  have hW : W p l e (headSpec wsJ5_init_d00df rmJ5_init_d00df).room s m ([.ref aU, .int x1] : List Value).toArray below meth c H locs 0 0 (MQ below (qG g A (fun (u : Nat → Nat) => cU g aU (.ref (u 0)) vU1 ++ (cB g (u 0) vR01)) (fun (u : Nat → Nat) => (fun _ => none) u)) ([.ref aU, .int x1] : List Value).toArray s 1 400 A) (F0 m 0 ls []) := by
    refine lv_aload_n hx hb dJ5_init_d00df_0 rfl (lv_at hl 0 rfl) ?_
    refine W.objInit hx hb hown k_4_174 (htu _ mw_1_35) (htu _ mw_1_36) rfl (by rw [hml]; exact hl.1) rfl dJ5_init_d00df_1 (Nat.le_of_ble_eq_true rfl) (Nat.le_of_ble_eq_true rfl) ?_
    refine W.eq (g2 := F0 m 4 ls []) rfl ?_
    refine va_gets (v := .int 1) hx hb hG.2.2.2.1.1 hS hown k_4_175 (fun _ h9 => h9) dJ5_init_d00df_4 ?_
    obtain ⟨h1, hf⟩ := gd_at hf
    have h1 := of_decide_eq_true h1
    refine lv_if_eq (tgt := 25) hx hb dJ5_init_d00df_7 (by decide) (fun c2 => absurd c2 h1) (fun c2 => ?_)
    refine lv_aload_n hx hb dJ5_init_d00df_10 rfl (lv_at hl 0 rfl) ?_
    refine lv_iload_n hx hb dJ5_init_d00df_11 rfl (lv_at hl 1 rfl) ?_
    obtain ⟨h3, hf⟩ := gd_at hf
    obtain ⟨h3a, h3b, h3c, h3d⟩ := of_decide_eq_true h3
    refine k_newB (N' := (x1).toNatClampNeg) hx hb k_2_202 hK hP hD hS hA h3a rfl (Nat.le_trans (Nat.mul_le_mul_right _ h3b) (Nat.le_of_ble_eq_true rfl)) h3c h3d dJ5_init_d00df_12 (fun q4 H hP hD hS => ?_)
    obtain ⟨vN12_5, evN12_5⟩ : ∃ z : Vs, z = aV x1 (fun _ => 0) := ⟨_, rfl⟩
    have hf := bn_at hf evN12_5
    have hP : va_P g.1 vwCl (cU g aU .null vU ++ (cB g q4 vN12_5)) H := by rw [evN12_5]; exact hP
    have hD : va_D A (cU g aU .null vU ++ (cB g q4 vN12_5)) := by rw [evN12_5]; exact hD
    have hP : va_P g.1 vwCl (cB g q4 vN12_5 ++ (cU g aU .null vU)) H := hP.perm (kpc (fun P => by first | omega | (simp only [List.countP_append, List.countP_nil] <;> omega)))
    have hD : va_D A (cB g q4 vN12_5 ++ (cU g aU .null vU)) := hD.perm (kpc (fun P => by first | omega | (simp only [List.countP_append, List.countP_nil] <;> omega)))
    refine va_put (D := g.1) (ci := 10) (fs := fcU .null vU) (v := .ref q4) (ty := .array .byte) (C := RJ4) (T := TJ4) (N := 4) hx hb htu hinJ4 tyJ4 tyJ4_ok nmJ4 hown hK hP hD hS 1 rfl rfl 0 (by decide) k_4_183 (fun _ h9 => h9) rfl (by decide +kernel) rfl rfl (Nat.le_of_ble_eq_true rfl) dJ5_init_d00df_14 (fun H locs hP hD hS => ?_)
    have hP : va_P g.1 vwCl (cB g q4 vN12_5 ++ (cU g aU (.ref q4) vU)) H := hP
    have hD : va_D A (cB g q4 vN12_5 ++ (cU g aU (.ref q4) vU)) := hD
    refine lv_aload_n hx hb dJ5_init_d00df_17 rfl (lv_at hl 0 rfl) ?_
    refine lv_iconst (v := (0 : Int32)) hx hb dJ5_init_d00df_18 (by decide) ?_
    obtain ⟨h6, hf⟩ := gd_at hf
    refine va_put (D := g.1) (ci := 10) (fs := fcU (.ref q4) vU) (v := .int (0 : Int32)) (ty := .byte) (C := RJ4) (T := TJ4) (N := 4) hx hb htu hinJ4 tyJ4 tyJ4_ok nmJ4 hown hK hP hD hS 1 rfl rfl 1 (by decide) k_4_184 (fun _ h9 => h9) rfl (by decide +kernel) (narY h6) (fitY h6) (Nat.le_of_ble_eq_true rfl) dJ5_init_d00df_19 (fun H locs hP hD hS => ?_)
    obtain ⟨vU_7, evU_7⟩ : ∃ z : Vs, z = sF vU 1 (0 : Int32) := ⟨_, rfl⟩
    have hf := bn_at hf evU_7
    have hP : va_P g.1 vwCl (cB g q4 vN12_5 ++ (cU g aU (.ref q4) vU_7)) H := by rw [evU_7]; exact hP
    have hD : va_D A (cB g q4 vN12_5 ++ (cU g aU (.ref q4) vU_7)) := by rw [evU_7]; exact hD
    refine lv_goto (tgt := 38) hx hb dJ5_init_d00df_22 (by decide) ?_
    obtain ⟨h8, hf⟩ := gd_at hf
    have hP : va_P g.1 vwCl (cU g aU (.ref q4) vU_7 ++ (cB g q4 vN12_5)) H := k_dropP hP (w3 := ([] : va_W)) (kpc (fun P => by first | omega | (simp only [List.countP_append, List.countP_nil] <;> omega)))
    have hD : va_D A (cU g aU (.ref q4) vU_7 ++ (cB g q4 vN12_5)) := k_dropD hD (w3 := ([] : va_W)) (kpc (fun P => by first | omega | (simp only [List.countP_append, List.countP_nil] <;> omega)))
    obtain ⟨e9, e10⟩ := kp_2 hf
    rw [e9] at hP hD
    rw [e10] at hP hD
    refine W.widen (k := 1) (n := 400) (of_decide_eq_true h8).1 (of_decide_eq_true h8).2 ?_
    exact k_Gvret (w1 := fun (u : Nat → Nat) => cU g aU (.ref (u 0)) vU1 ++ (cB g (u 0) vR01)) (rv := fun (u : Nat → Nat) => (fun _ => none) u) (u := (fun i => if i = 0 then q4 else 0)) hx hb hr hlocks hK hP hD hS rfl dJ5_init_d00df_38
  rw [hH, hlo] at hW
  exact hW
def f_J5_init_a7421 (vU : Vs) (vZ : Vs) (vY : Vs) : Option (Vs × Vs) :=
  o1 (f_J0_length_8abf5_d vZ vY) (fun (r1 : Int32) => gd (decide (¬ ((2147483631 : Int32) ≤ r1))) (o1 (f_J0_coder_7d493_d vZ vY) (fun (r7 : Int32) => gd (isY r7) (bn (sF vU 1 r7) (fun (vU_12 : Vs) => gd (decide (¬ (¬ r7 = 0))) (gd (decide (¬ (r1 + (16 : Int32)) < 0 ∧ ((r1 + (16 : Int32))).toNatClampNeg ≤ 65536 ∧ 0 + 1 ≤ 2 ∧ 0 + ((r1 + (16 : Int32))).toNatClampNeg ≤ 800)) (bn (aV (r1 + (16 : Int32)) (fun _ => 0)) (fun (vN44_17 : Vs) => gd (decide ((0 + 1) + 1 ≤ 2 ∧ (0 + ((r1 + (16 : Int32))).toNatClampNeg) + 400 ≤ 800)) (o2 (f_J4_append_cf1ce_d vU_12 vN44_17 vZ vY) (fun (vU_18 : Vs) (vN44_19 : Vs) => gd (decide (((0 + 1) + 1) ≤ 2 ∧ ((0 + ((r1 + (16 : Int32))).toNatClampNeg) + 400) ≤ 800)) (some (vU_18, vN44_19))))))))))))
abbrev wsJ5_init_a7421 : List Cond := .code yJ5_init_a7421 cJ5_init_a7421 5 none :: UW
abbrev rmJ5_init_a7421 : Room := { frames := 7, cells := 2, slots := 800, locals := 224 }
set_option maxHeartbeats 4000000 in
set_option maxRecDepth 100000 in
theorem c_J5_init_a7421 (l : Launch) (g : Gx) (aU : Nat) (vU : Vs) (aZ : Nat) (vZ : Vs) (qY : Nat) (vY : Vs) (vU1 : Vs) (vR01 : Vs) (hf : f_J5_init_a7421 vU vZ vY = some (vU1, vR01)) : CtG l yJ5_init_a7421 wsJ5_init_a7421 rmJ5_init_a7421 g [.ref aU, .ref aZ] (cU g aU .null vU ++ (cZ g aZ (.ref qY) vZ ++ (cB g qY vY))) (fun (u : Nat → Nat) => cU g aU (.ref (u 0)) vU1 ++ (cZ g aZ (.ref qY) vZ ++ (cB g qY vY ++ (cB g (u 0) vR01)))) (fun (u : Nat → Nat) => (fun _ => none) u) 2 800 := by
  unfold CtG
  intro sz
  refine Met.ofW (cc := cJ5_init_a7421) (maxL := 5) (ret := none) (by decide) rfl ?_
  intro p e s m args below meth c s₁ B hml hv
  obtain ⟨rfl, hsz, hP, hK, hD0, hG⟩ := hv
  have hx := B.exec
  have hb := B.bytes
  have hr := B.returns
  have hts := atoms_spec (ws := wsJ5_init_a7421) B.pre
  have hown : s.vm.findClass RJ5 = some m.cls := findClass_of_methodNamed B.named
  have hlocks := B.notSynchronized
  have hin : meth.name = "<init>" := (name_of_methodNamed B.named B.method).1
  subst hsz
  have hD := hD0.self (sz := s.heap.size)
  generalize hAe : va_A (cU g aU .null vU ++ (cZ g aZ (.ref qY) vZ ++ (cB g qY vY))) s.heap.size = A at hD hG ⊢
  have hA : ∀ q : Nat, s.heap.size ≤ q → A q := fun q h => by rw [← hAe]; exact Or.inr h
  clear hAe hD0
  have hS : va_S A s.heap s.heap [] := va_S.rf
  have hl := lv_entry ([.ref aU, .ref aZ]) (n := 5) (Nat.le_of_ble_eq_true rfl)
  rw [lg_entry_eq]
  generalize (lg_sl ([.ref aU, .ref aZ]) ++ List.replicate (5 - (lg_sl ([.ref aU, .ref aZ])).length) Slot.unset).toArray = ls at hl ⊢
  have hl : lv_has ls 5 [(0, .ref aU), (1, .ref aZ)] := hl
  have htu : ∀ w ∈ UW, w.before _ s = true := fun w h => hts w (List.mem_cons_of_mem _ h)
  have k_4_174 := htu _ mw_4_174
  have k_4_203 := htu _ mw_4_203
  have k_4_184 := htu _ mw_4_184
  have k_2_202 := htu _ mw_2_202
  have k_4_183 := htu _ mw_4_183
  unfold f_J5_init_a7421 at hf
  obtain ⟨H, hH⟩ : ∃ z, z = s.heap := ⟨_, rfl⟩
  obtain ⟨locs, hlo⟩ : ∃ z : List Loc, z = [] := ⟨_, rfl⟩
  have hS : va_S A s.heap H locs := by rw [hH, hlo]; exact hS
  rw [← hH] at hP
  have hW : W p l e (headSpec wsJ5_init_a7421 rmJ5_init_a7421).room s m ([.ref aU, .ref aZ] : List Value).toArray below meth c H locs 0 0 (MQ below (qG g A (fun (u : Nat → Nat) => cU g aU (.ref (u 0)) vU1 ++ (cZ g aZ (.ref qY) vZ ++ (cB g qY vY ++ (cB g (u 0) vR01)))) (fun (u : Nat → Nat) => (fun _ => none) u)) ([.ref aU, .ref aZ] : List Value).toArray s 2 800 A) (F0 m 0 ls []) := by
    refine lv_aload_n hx hb dJ5_init_a7421_0 rfl (lv_at hl 0 rfl) ?_
    refine W.objInit hx hb hown k_4_174 (htu _ mw_1_35) (htu _ mw_1_36) rfl (by rw [hml]; exact hl.1) rfl dJ5_init_a7421_1 (Nat.le_of_ble_eq_true rfl) (Nat.le_of_ble_eq_true rfl) ?_
    refine W.eq (g2 := F0 m 4 ls []) rfl ?_
    refine lv_aload_n hx hb dJ5_init_a7421_4 rfl (lv_at hl 1 rfl) ?_
    obtain ⟨r1, hg2, hf⟩ := o1_at hf
    have hpm : (cU g aU .null vU ++ (cZ g aZ (.ref qY) vZ ++ (cB g qY vY))).Perm ((cZ g aZ (.ref qY) vZ ++ (cB g qY vY)) ++ (cU g aU .null vU)) := (kpc (fun P => by first | omega | (simp only [List.countP_append, List.countP_nil] <;> omega)))
    refine k_G (wc := cZ g aZ (.ref qY) vZ ++ (cB g qY vY)) (wr := cU g aU .null vU) (w1 := fun (u : Nat → Nat) => cZ g aZ (.ref qY) vZ ++ (cB g qY vY)) (rv := fun (u : Nat → Nat) => (fun _ => some (.int r1)) u) hP hD hS hA hpm (va_runV (As := []) (rest := []) ⟨hx, hb, hml, hown, htu⟩ ((c_J0_length_8abf5_d l g aZ vZ qY vY r1 hg2) H.size) (cwV 0 htu (gU_V mw_4_202 hcJ0_length_8abf5) rfl rfl rfl hdJ0_length_8abf5 ⟨Nat.le_of_ble_eq_true rfl, Nat.le_of_ble_eq_true rfl⟩) (k_preV (C := RJ0) hK hP hD hS hA hG hpm (va_recv (ci := 9) (q0 := 1) (fs := fcU (.ref qY) vZ) (q := (RJ0, TJ0, 4)) hK hP rfl rfl)) rfl rfl hl.1 rfl (lv_room (Nat.le_of_ble_eq_true rfl)) dJ5_init_a7421_5 ⟨Nat.zero_le _, Nat.zero_le _⟩) hQ_G (fun u4 H locs hP hD hS => ?_)
    refine W.eq (g2 := F0 m 8 ls [.int r1]) rfl ?_
    have hP : va_P g.1 vwCl ((cZ g aZ (.ref qY) vZ ++ (cB g qY vY)) ++ (cU g aU .null vU)) H := hP
    have hD : va_D A ((cZ g aZ (.ref qY) vZ ++ (cB g qY vY)) ++ (cU g aU .null vU)) := hD
    have hP : va_P g.1 vwCl (cZ g aZ (.ref qY) vZ ++ (cB g qY vY ++ (cU g aU .null vU))) H := hP.perm (kpc (fun P => by first | omega | (simp only [List.countP_append, List.countP_nil] <;> omega)))
    have hD : va_D A (cZ g aZ (.ref qY) vZ ++ (cB g qY vY ++ (cU g aU .null vU))) := hD.perm (kpc (fun P => by first | omega | (simp only [List.countP_append, List.countP_nil] <;> omega)))
    refine lv_istore_n (lv' := [(2, .int r1), (0, .ref aU), (1, .ref aZ)]) hx hb dJ5_init_a7421_8 rfl hl (by decide) rfl (fun ls hl => ?_)
    refine lv_iload_n hx hb dJ5_init_a7421_9 rfl (lv_at hl 0 rfl) ?_
    refine lv_ldc (v := (2147483631 : Int32)) hx hb hown k_4_203 dJ5_init_a7421_10 ?_
    obtain ⟨h5, hf⟩ := gd_at hf
    have h5 := of_decide_eq_true h5
    refine lv_icmp_ge (tgt := 22) hx hb dJ5_init_a7421_12 (by decide) (fun c6 => absurd c6 h5) (fun c6 => ?_)
    refine lv_iload_n hx hb dJ5_init_a7421_15 rfl (lv_at hl 0 rfl) ?_
    refine lv_bipush (v := (16 : Int32)) hx hb dJ5_init_a7421_16 (by decide) ?_
    refine lv_iadd hx hb dJ5_init_a7421_18 ?_
    refine lv_goto (tgt := 24) hx hb dJ5_init_a7421_19 (by decide) ?_
    refine lv_istore_n (lv' := [(3, .int (r1 + (16 : Int32))), (2, .int r1), (0, .ref aU), (1, .ref aZ)]) hx hb dJ5_init_a7421_24 rfl hl (by decide) rfl (fun ls hl => ?_)
    refine lv_aload_n hx hb dJ5_init_a7421_25 rfl (lv_at hl 3 rfl) ?_
    obtain ⟨r7, hg8, hf⟩ := o1_at hf
    have hpm : (cZ g aZ (.ref qY) vZ ++ (cB g qY vY ++ (cU g aU .null vU))).Perm ((cZ g aZ (.ref qY) vZ ++ (cB g qY vY)) ++ (cU g aU .null vU)) := (kpc (fun P => by first | omega | (simp only [List.countP_append, List.countP_nil] <;> omega)))
    refine k_G (wc := cZ g aZ (.ref qY) vZ ++ (cB g qY vY)) (wr := cU g aU .null vU) (w1 := fun (u : Nat → Nat) => cZ g aZ (.ref qY) vZ ++ (cB g qY vY)) (rv := fun (u : Nat → Nat) => (fun _ => some (.int r7)) u) hP hD hS hA hpm (va_runV (As := []) (rest := []) ⟨hx, hb, hml, hown, htu⟩ ((c_J0_coder_7d493_d l g aZ vZ qY vY r7 hg8) H.size) (cwV 0 htu (gU_V mw_4_205 hcJ0_coder_7d493) rfl rfl rfl hdJ0_coder_7d493 ⟨Nat.le_of_ble_eq_true rfl, Nat.le_of_ble_eq_true rfl⟩) (k_preV (C := RJ0) hK hP hD hS hA hG hpm (va_recv (ci := 9) (q0 := 0) (fs := fcU (.ref qY) vZ) (q := (RJ0, TJ0, 4)) hK hP rfl rfl)) rfl rfl hl.1 rfl (lv_room (Nat.le_of_ble_eq_true rfl)) dJ5_init_a7421_26 ⟨Nat.zero_le _, Nat.zero_le _⟩) hQ_G (fun u10 H locs hP hD hS => ?_)
    refine W.eq (g2 := F0 m 29 ls [.int r7]) rfl ?_
    have hP : va_P g.1 vwCl ((cZ g aZ (.ref qY) vZ ++ (cB g qY vY)) ++ (cU g aU .null vU)) H := hP
    have hD : va_D A ((cZ g aZ (.ref qY) vZ ++ (cB g qY vY)) ++ (cU g aU .null vU)) := hD
    have hP : va_P g.1 vwCl (cZ g aZ (.ref qY) vZ ++ (cB g qY vY ++ (cU g aU .null vU))) H := hP.perm (kpc (fun P => by first | omega | (simp only [List.countP_append, List.countP_nil] <;> omega)))
    have hD : va_D A (cZ g aZ (.ref qY) vZ ++ (cB g qY vY ++ (cU g aU .null vU))) := hD.perm (kpc (fun P => by first | omega | (simp only [List.countP_append, List.countP_nil] <;> omega)))
    refine lv_istore (lv' := [(4, .int r7), (3, .int (r1 + (16 : Int32))), (2, .int r1), (0, .ref aU), (1, .ref aZ)]) hx hb dJ5_init_a7421_29 hl (by decide) rfl (fun ls hl => ?_)
    refine lv_aload_n hx hb dJ5_init_a7421_31 rfl (lv_at hl 3 rfl) ?_
    refine lv_iload hx hb dJ5_init_a7421_32 (lv_at hl 0 rfl) ?_
    obtain ⟨h11, hf⟩ := gd_at hf
    refine va_put (D := g.1) (ci := 10) (fs := fcU .null vU) (v := .int r7) (ty := .byte) (C := RJ4) (T := TJ4) (N := 4) hx hb htu hinJ4 tyJ4 tyJ4_ok nmJ4 hown hK hP hD hS 2 rfl rfl 1 (by decide) k_4_184 (fun _ h9 => h9) rfl (by decide +kernel) (narY h11) (fitY h11) (Nat.le_of_ble_eq_true rfl) dJ5_init_a7421_34 (fun H locs hP hD hS => ?_)
    obtain ⟨vU_12, evU_12⟩ : ∃ z : Vs, z = sF vU 1 r7 := ⟨_, rfl⟩
    have hf := bn_at hf evU_12
    have hP : va_P g.1 vwCl (cZ g aZ (.ref qY) vZ ++ (cB g qY vY ++ (cU g aU .null vU_12))) H := by rw [evU_12]; exact hP
    have hD : va_D A (cZ g aZ (.ref qY) vZ ++ (cB g qY vY ++ (cU g aU .null vU_12))) := by rw [evU_12]; exact hD
    refine lv_aload_n hx hb dJ5_init_a7421_37 rfl (lv_at hl 3 rfl) ?_
    refine lv_iload hx hb dJ5_init_a7421_38 (lv_at hl 0 rfl) ?_
    obtain ⟨h13, hf⟩ := gd_at hf
    have h13 := of_decide_eq_true h13
    refine lv_if_ne (tgt := 49) hx hb dJ5_init_a7421_40 (by decide) (fun c14 => absurd c14 h13) (fun c14 => ?_)
    refine lv_iload_n hx hb dJ5_init_a7421_43 rfl (lv_at hl 1 rfl) ?_
    obtain ⟨h15, hf⟩ := gd_at hf
    obtain ⟨h15a, h15b, h15c, h15d⟩ := of_decide_eq_true h15
    refine k_newB (N' := ((r1 + (16 : Int32))).toNatClampNeg) hx hb k_2_202 hK hP hD hS hA h15a rfl (Nat.le_trans (Nat.mul_le_mul_right _ h15b) (Nat.le_of_ble_eq_true rfl)) h15c h15d dJ5_init_a7421_44 (fun q16 H hP hD hS => ?_)
    obtain ⟨vN44_17, evN44_17⟩ : ∃ z : Vs, z = aV (r1 + (16 : Int32)) (fun _ => 0) := ⟨_, rfl⟩
    have hf := bn_at hf evN44_17
    have hP : va_P g.1 vwCl (cZ g aZ (.ref qY) vZ ++ (cB g qY vY ++ (cU g aU .null vU_12)) ++ (cB g q16 vN44_17)) H := by rw [evN44_17]; exact hP
    have hD : va_D A (cZ g aZ (.ref qY) vZ ++ (cB g qY vY ++ (cU g aU .null vU_12)) ++ (cB g q16 vN44_17)) := by rw [evN44_17]; exact hD
    have hP : va_P g.1 vwCl (cB g q16 vN44_17 ++ (cZ g aZ (.ref qY) vZ ++ (cB g qY vY ++ (cU g aU .null vU_12)))) H := hP.perm (kpc (fun P => by first | omega | (simp only [List.countP_append, List.countP_nil] <;> omega)))
    have hD : va_D A (cB g q16 vN44_17 ++ (cZ g aZ (.ref qY) vZ ++ (cB g qY vY ++ (cU g aU .null vU_12)))) := hD.perm (kpc (fun P => by first | omega | (simp only [List.countP_append, List.countP_nil] <;> omega)))
    refine lv_goto (tgt := 53) hx hb dJ5_init_a7421_46 (by decide) ?_
    refine va_put (D := g.1) (ci := 10) (fs := fcU .null vU_12) (v := .ref q16) (ty := .array .byte) (C := RJ4) (T := TJ4) (N := 4) hx hb htu hinJ4 tyJ4 tyJ4_ok nmJ4 hown hK hP hD hS 3 rfl rfl 0 (by decide) k_4_183 (fun _ h9 => h9) rfl (by decide +kernel) rfl rfl (Nat.le_of_ble_eq_true rfl) dJ5_init_a7421_53 (fun H locs hP hD hS => ?_)
    have hP : va_P g.1 vwCl (cB g q16 vN44_17 ++ (cZ g aZ (.ref qY) vZ ++ (cB g qY vY ++ (cU g aU (.ref q16) vU_12)))) H := hP
    have hD : va_D A (cB g q16 vN44_17 ++ (cZ g aZ (.ref qY) vZ ++ (cB g qY vY ++ (cU g aU (.ref q16) vU_12)))) := hD
    refine lv_aload_n hx hb dJ5_init_a7421_56 rfl (lv_at hl 3 rfl) ?_
    refine lv_aload_n hx hb dJ5_init_a7421_57 rfl (lv_at hl 4 rfl) ?_
    obtain ⟨h21, hf⟩ := gd_at hf
    obtain ⟨vU_18, vN44_19, hg20, hf⟩ := o2_at hf
    have hpm : (cB g q16 vN44_17 ++ (cZ g aZ (.ref qY) vZ ++ (cB g qY vY ++ (cU g aU (.ref q16) vU_12)))).Perm ((cU g aU (.ref q16) vU_12 ++ (cB g q16 vN44_17 ++ (cZ g aZ (.ref qY) vZ ++ (cB g qY vY)))) ++ (([] : va_W))) := (kpc (fun P => by first | omega | (simp only [List.countP_append, List.countP_nil] <;> omega)))
    refine k_G (wc := cU g aU (.ref q16) vU_12 ++ (cB g q16 vN44_17 ++ (cZ g aZ (.ref qY) vZ ++ (cB g qY vY)))) (wr := ([] : va_W)) (w1 := fun (u : Nat → Nat) => cU g aU (.ref (u 0)) vU_18 ++ (cB g (u 0) vN44_19 ++ (cZ g aZ (.ref qY) vZ ++ (cB g qY vY)))) (rv := fun (u : Nat → Nat) => (fun u => some (.ref aU)) u) hP hD hS hA hpm (va_runU (As := [.ref aZ]) (rest := []) ⟨hx, hb, hml, hown, htu⟩ ((c_J4_append_cf1ce_d l g aU vU_12 q16 vN44_17 aZ vZ qY vY vU_18 vN44_19 hg20) H.size) (va_cwO (C := RJ4) (owner := "java/lang/AbstractStringBuilder") (x := ⟨"java/lang/AbstractStringBuilder", "append", "(Ljava/lang/String;)Ljava/lang/AbstractStringBuilder;"⟩) 1 htu (gU_O (List.forall_mem_cons.mpr ⟨mw_4_206, (List.forall_mem_cons.mpr ⟨mw_4_208, (List.forall_mem_cons.mpr ⟨mw_4_207, (List.forall_mem_cons.mpr ⟨mw_4_209, (List.forall_mem_cons.mpr ⟨mw_4_210, (List.forall_mem_cons.mpr ⟨mw_1_3, (fun _ h => nomatch h)⟩)⟩)⟩)⟩)⟩)⟩) mw_4_211) rfl rfl rfl mw_4_217 ⟨by decide +kernel, by decide +kernel, by decide +kernel⟩ ⟨Nat.le_of_ble_eq_true rfl, Nat.le_of_ble_eq_true rfl⟩) (k_preV (C := RJ4) hK hP hD hS hA hG hpm (va_recv (ci := 10) (q0 := 3) (fs := fcU (.ref q16) vU_12) (q := (RJ4, TJ4, 4)) hK hP rfl rfl)) rfl rfl hl.1 rfl (lv_room (Nat.le_of_ble_eq_true rfl)) dJ5_init_a7421_58 (of_decide_eq_true h21)) hQ_G (fun u22 H locs hP hD hS => ?_)
    refine W.eq (g2 := F0 m 61 ls [.ref aU]) rfl ?_
    have hP : va_P g.1 vwCl ((cU g aU (.ref (u22 0)) vU_18 ++ (cB g (u22 0) vN44_19 ++ (cZ g aZ (.ref qY) vZ ++ (cB g qY vY)))) ++ (([] : va_W))) H := hP
    have hD : va_D A ((cU g aU (.ref (u22 0)) vU_18 ++ (cB g (u22 0) vN44_19 ++ (cZ g aZ (.ref qY) vZ ++ (cB g qY vY)))) ++ (([] : va_W))) := hD
    have hP : va_P g.1 vwCl (cU g aU (.ref (u22 0)) vU_18 ++ (cB g (u22 0) vN44_19 ++ (cZ g aZ (.ref qY) vZ ++ (cB g qY vY)))) H := hP.perm (kpc (fun P => by first | omega | (simp only [List.countP_append, List.countP_nil] <;> omega)))
    have hD : va_D A (cU g aU (.ref (u22 0)) vU_18 ++ (cB g (u22 0) vN44_19 ++ (cZ g aZ (.ref qY) vZ ++ (cB g qY vY)))) := hD.perm (kpc (fun P => by first | omega | (simp only [List.countP_append, List.countP_nil] <;> omega)))
    refine lv_pop hx hb dJ5_init_a7421_61 rfl ?_
    obtain ⟨h23, hf⟩ := gd_at hf
    have hP : va_P g.1 vwCl (cU g aU (.ref (u22 0)) vU_18 ++ (cZ g aZ (.ref qY) vZ ++ (cB g qY vY ++ (cB g (u22 0) vN44_19)))) H := k_dropP hP (w3 := ([] : va_W)) (kpc (fun P => by first | omega | (simp only [List.countP_append, List.countP_nil] <;> omega)))
    have hD : va_D A (cU g aU (.ref (u22 0)) vU_18 ++ (cZ g aZ (.ref qY) vZ ++ (cB g qY vY ++ (cB g (u22 0) vN44_19)))) := k_dropD hD (w3 := ([] : va_W)) (kpc (fun P => by first | omega | (simp only [List.countP_append, List.countP_nil] <;> omega)))
    obtain ⟨e24, e25⟩ := kp_2 hf
    rw [e24] at hP hD
    rw [e25] at hP hD
    refine W.widen (k := 2) (n := 800) (of_decide_eq_true h23).1 (of_decide_eq_true h23).2 ?_
    exact k_Gvret (w1 := fun (u : Nat → Nat) => cU g aU (.ref (u 0)) vU1 ++ (cZ g aZ (.ref qY) vZ ++ (cB g qY vY ++ (cB g (u 0) vR01)))) (rv := fun (u : Nat → Nat) => (fun _ => none) u) (u := (fun i => if i = 0 then (u22 0) else 0)) hx hb hr hlocks hK hP hD hS rfl dJ5_init_a7421_62
  rw [hH, hlo] at hW
  exact hW
def f_J4_init_da8c8 (vU : Vs) : Option (Vs × Vs) :=
  gd (decide (0 + 1 ≤ 1 ∧ 0 + 400 ≤ 400)) (o2 (f_J5_init_d00df vU (16 : Int32)) (fun (vU_1 : Vs) (vN3_2 : Vs) => gd (decide ((0 + 1) ≤ 1 ∧ (0 + 400) ≤ 400)) (some (vU_1, vN3_2))))
abbrev wsJ4_init_da8c8 : List Cond := .code yJ4_init_da8c8 cJ4_init_da8c8 1 none :: UW
abbrev rmJ4_init_da8c8 : Room := { frames := 2, cells := 1, slots := 400, locals := 81 }
set_option maxHeartbeats 4000000 in
set_option maxRecDepth 100000 in
theorem c_J4_init_da8c8 (l : Launch) (g : Gx) (aU : Nat) (vU : Vs) (vU1 : Vs) (vR01 : Vs) (hf : f_J4_init_da8c8 vU = some (vU1, vR01)) : CtG l yJ4_init_da8c8 wsJ4_init_da8c8 rmJ4_init_da8c8 g [.ref aU] (cU g aU .null vU) (fun (u : Nat → Nat) => cU g aU (.ref (u 0)) vU1 ++ (cB g (u 0) vR01)) (fun (u : Nat → Nat) => (fun _ => none) u) 1 400 := by
  unfold CtG
  intro sz
  refine Met.ofW (cc := cJ4_init_da8c8) (maxL := 1) (ret := none) (by decide) rfl ?_
  intro p e s m args below meth c s₁ B hml hv
  obtain ⟨rfl, hsz, hP, hK, hD0, hG⟩ := hv
  have hx := B.exec
  have hb := B.bytes
  have hr := B.returns
  have hts := atoms_spec (ws := wsJ4_init_da8c8) B.pre
  have hown : s.vm.findClass RJ4 = some m.cls := findClass_of_methodNamed B.named
  have hlocks := B.notSynchronized
  have hin : meth.name = "<init>" := (name_of_methodNamed B.named B.method).1
  subst hsz
  have hD := hD0.self (sz := s.heap.size)
  generalize hAe : va_A (cU g aU .null vU) s.heap.size = A at hD hG ⊢
  have hA : ∀ q : Nat, s.heap.size ≤ q → A q := fun q h => by rw [← hAe]; exact Or.inr h
  clear hAe hD0
  have hS : va_S A s.heap s.heap [] := va_S.rf
  have hl := lv_entry ([.ref aU]) (n := 1) (Nat.le_of_ble_eq_true rfl)
  rw [lg_entry_eq]
  generalize (lg_sl ([.ref aU]) ++ List.replicate (1 - (lg_sl ([.ref aU])).length) Slot.unset).toArray = ls at hl ⊢
  have hl : lv_has ls 1 [(0, .ref aU)] := hl
  have htu : ∀ w ∈ UW, w.before _ s = true := fun w h => hts w (List.mem_cons_of_mem _ h)
  unfold f_J4_init_da8c8 at hf
  obtain ⟨H, hH⟩ : ∃ z, z = s.heap := ⟨_, rfl⟩
  obtain ⟨locs, hlo⟩ : ∃ z : List Loc, z = [] := ⟨_, rfl⟩
  have hS : va_S A s.heap H locs := by rw [hH, hlo]; exact hS
  rw [← hH] at hP
  have hW : W p l e (headSpec wsJ4_init_da8c8 rmJ4_init_da8c8).room s m ([.ref aU] : List Value).toArray below meth c H locs 0 0 (MQ below (qG g A (fun (u : Nat → Nat) => cU g aU (.ref (u 0)) vU1 ++ (cB g (u 0) vR01)) (fun (u : Nat → Nat) => (fun _ => none) u)) ([.ref aU] : List Value).toArray s 1 400 A) (F0 m 0 ls []) := by
    refine lv_aload_n hx hb dJ4_init_da8c8_0 rfl (lv_at hl 0 rfl) ?_
    refine lv_bipush (v := (16 : Int32)) hx hb dJ4_init_da8c8_1 (by decide) ?_
    obtain ⟨h4, hf⟩ := gd_at hf
    obtain ⟨vU_1, vN3_2, hg3, hf⟩ := o2_at hf
    have hpm : (cU g aU .null vU).Perm ((cU g aU .null vU) ++ (([] : va_W))) := (kpc (fun P => by first | omega | (simp only [List.countP_append, List.countP_nil] <;> omega)))
    refine k_G (wc := cU g aU .null vU) (wr := ([] : va_W)) (w1 := fun (u : Nat → Nat) => cU g aU (.ref (u 0)) vU_1 ++ (cB g (u 0) vN3_2)) (rv := fun (u : Nat → Nat) => (fun _ => none) u) hP hD hS hA hpm (va_runI (As := [.int (16 : Int32)]) (rest := []) ⟨hx, hb, hml, hown, htu⟩ ((c_J5_init_d00df l g aU vU (16 : Int32) vU_1 vN3_2 hg3) H.size) (cwI 1 htu (gU_0 mw_4_173) rfl rfl rfl (htu _ mw_1_2) (htu _ mw_4_171) (htu _ mw_4_172) rfl hdJ5_init_d00df ⟨Nat.le_of_ble_eq_true rfl, Nat.le_of_ble_eq_true rfl⟩) (k_preS hK hP hD hS hA hG hpm) rfl rfl hl.1 rfl (lv_room (Nat.le_of_ble_eq_true rfl)) dJ4_init_da8c8_3 (of_decide_eq_true h4)) hQ_G (fun u5 H locs hP hD hS => ?_)
    refine W.eq (g2 := F0 m 6 ls []) rfl ?_
    have hP : va_P g.1 vwCl ((cU g aU (.ref (u5 0)) vU_1 ++ (cB g (u5 0) vN3_2)) ++ (([] : va_W))) H := hP
    have hD : va_D A ((cU g aU (.ref (u5 0)) vU_1 ++ (cB g (u5 0) vN3_2)) ++ (([] : va_W))) := hD
    have hP : va_P g.1 vwCl (cU g aU (.ref (u5 0)) vU_1 ++ (cB g (u5 0) vN3_2)) H := hP.perm (kpc (fun P => by first | omega | (simp only [List.countP_append, List.countP_nil] <;> omega)))
    have hD : va_D A (cU g aU (.ref (u5 0)) vU_1 ++ (cB g (u5 0) vN3_2)) := hD.perm (kpc (fun P => by first | omega | (simp only [List.countP_append, List.countP_nil] <;> omega)))
    obtain ⟨h6, hf⟩ := gd_at hf
    obtain ⟨e7, e8⟩ := kp_2 hf
    rw [e7] at hP hD
    rw [e8] at hP hD
    refine W.widen (k := 1) (n := 400) (of_decide_eq_true h6).1 (of_decide_eq_true h6).2 ?_
    exact k_Gvret (w1 := fun (u : Nat → Nat) => cU g aU (.ref (u 0)) vU1 ++ (cB g (u 0) vR01)) (rv := fun (u : Nat → Nat) => (fun _ => none) u) (u := (fun i => if i = 0 then (u5 0) else 0)) hx hb hr hlocks hK hP hD hS rfl dJ4_init_da8c8_6
  rw [hH, hlo] at hW
  exact hW
def f_J4_init_a7421 (vU : Vs) (vZ : Vs) (vY : Vs) : Option (Vs × Vs) :=
  gd (decide (0 + 2 ≤ 2 ∧ 0 + 800 ≤ 800)) (o2 (f_J5_init_a7421 vU vZ vY) (fun (vU_1 : Vs) (vN2_2 : Vs) => gd (decide ((0 + 2) ≤ 2 ∧ (0 + 800) ≤ 800)) (some (vU_1, vN2_2))))
abbrev wsJ4_init_a7421 : List Cond := .code yJ4_init_a7421 cJ4_init_a7421 2 none :: UW
abbrev rmJ4_init_a7421 : Room := { frames := 8, cells := 2, slots := 800, locals := 248 }
set_option maxHeartbeats 4000000 in
set_option maxRecDepth 100000 in
theorem c_J4_init_a7421 (l : Launch) (g : Gx) (aU : Nat) (vU : Vs) (aZ : Nat) (vZ : Vs) (qY : Nat) (vY : Vs) (vU1 : Vs) (vR01 : Vs) (hf : f_J4_init_a7421 vU vZ vY = some (vU1, vR01)) : CtG l yJ4_init_a7421 wsJ4_init_a7421 rmJ4_init_a7421 g [.ref aU, .ref aZ] (cU g aU .null vU ++ (cZ g aZ (.ref qY) vZ ++ (cB g qY vY))) (fun (u : Nat → Nat) => cU g aU (.ref (u 0)) vU1 ++ (cZ g aZ (.ref qY) vZ ++ (cB g qY vY ++ (cB g (u 0) vR01)))) (fun (u : Nat → Nat) => (fun _ => none) u) 2 800 := by
  unfold CtG
  intro sz
  refine Met.ofW (cc := cJ4_init_a7421) (maxL := 2) (ret := none) (by decide) rfl ?_
  intro p e s m args below meth c s₁ B hml hv
  obtain ⟨rfl, hsz, hP, hK, hD0, hG⟩ := hv
  have hx := B.exec
  have hb := B.bytes
  have hr := B.returns
  have hts := atoms_spec (ws := wsJ4_init_a7421) B.pre
  have hown : s.vm.findClass RJ4 = some m.cls := findClass_of_methodNamed B.named
  have hlocks := B.notSynchronized
  have hin : meth.name = "<init>" := (name_of_methodNamed B.named B.method).1
  subst hsz
  have hD := hD0.self (sz := s.heap.size)
  generalize hAe : va_A (cU g aU .null vU ++ (cZ g aZ (.ref qY) vZ ++ (cB g qY vY))) s.heap.size = A at hD hG ⊢
  have hA : ∀ q : Nat, s.heap.size ≤ q → A q := fun q h => by rw [← hAe]; exact Or.inr h
  clear hAe hD0
  have hS : va_S A s.heap s.heap [] := va_S.rf
  have hl := lv_entry ([.ref aU, .ref aZ]) (n := 2) (Nat.le_of_ble_eq_true rfl)
  rw [lg_entry_eq]
  generalize (lg_sl ([.ref aU, .ref aZ]) ++ List.replicate (2 - (lg_sl ([.ref aU, .ref aZ])).length) Slot.unset).toArray = ls at hl ⊢
  have hl : lv_has ls 2 [(0, .ref aU), (1, .ref aZ)] := hl
  have htu : ∀ w ∈ UW, w.before _ s = true := fun w h => hts w (List.mem_cons_of_mem _ h)
  unfold f_J4_init_a7421 at hf
  obtain ⟨H, hH⟩ : ∃ z, z = s.heap := ⟨_, rfl⟩
  obtain ⟨locs, hlo⟩ : ∃ z : List Loc, z = [] := ⟨_, rfl⟩
  have hS : va_S A s.heap H locs := by rw [hH, hlo]; exact hS
  rw [← hH] at hP
  have hW : W p l e (headSpec wsJ4_init_a7421 rmJ4_init_a7421).room s m ([.ref aU, .ref aZ] : List Value).toArray below meth c H locs 0 0 (MQ below (qG g A (fun (u : Nat → Nat) => cU g aU (.ref (u 0)) vU1 ++ (cZ g aZ (.ref qY) vZ ++ (cB g qY vY ++ (cB g (u 0) vR01)))) (fun (u : Nat → Nat) => (fun _ => none) u)) ([.ref aU, .ref aZ] : List Value).toArray s 2 800 A) (F0 m 0 ls []) := by
    refine lv_aload_n hx hb dJ4_init_a7421_0 rfl (lv_at hl 0 rfl) ?_
    refine lv_aload_n hx hb dJ4_init_a7421_1 rfl (lv_at hl 1 rfl) ?_
    obtain ⟨h4, hf⟩ := gd_at hf
    obtain ⟨vU_1, vN2_2, hg3, hf⟩ := o2_at hf
    have hpm : (cU g aU .null vU ++ (cZ g aZ (.ref qY) vZ ++ (cB g qY vY))).Perm ((cU g aU .null vU ++ (cZ g aZ (.ref qY) vZ ++ (cB g qY vY))) ++ (([] : va_W))) := (kpc (fun P => by first | omega | (simp only [List.countP_append, List.countP_nil] <;> omega)))
    refine k_G (wc := cU g aU .null vU ++ (cZ g aZ (.ref qY) vZ ++ (cB g qY vY))) (wr := ([] : va_W)) (w1 := fun (u : Nat → Nat) => cU g aU (.ref (u 0)) vU_1 ++ (cZ g aZ (.ref qY) vZ ++ (cB g qY vY ++ (cB g (u 0) vN2_2)))) (rv := fun (u : Nat → Nat) => (fun _ => none) u) hP hD hS hA hpm (va_runI (As := [.ref aZ]) (rest := []) ⟨hx, hb, hml, hown, htu⟩ ((c_J5_init_a7421 l g aU vU aZ vZ qY vY vU_1 vN2_2 hg3) H.size) (cwI 1 htu (gU_0 mw_4_201) rfl rfl rfl (htu _ mw_1_2) (htu _ mw_4_199) (htu _ mw_4_200) rfl hdJ5_init_a7421 ⟨Nat.le_of_ble_eq_true rfl, Nat.le_of_ble_eq_true rfl⟩) (k_preS hK hP hD hS hA hG hpm) rfl rfl hl.1 rfl (lv_room (Nat.le_of_ble_eq_true rfl)) dJ4_init_a7421_2 (of_decide_eq_true h4)) hQ_G (fun u5 H locs hP hD hS => ?_)
    refine W.eq (g2 := F0 m 5 ls []) rfl ?_
    have hP : va_P g.1 vwCl ((cU g aU (.ref (u5 0)) vU_1 ++ (cZ g aZ (.ref qY) vZ ++ (cB g qY vY ++ (cB g (u5 0) vN2_2)))) ++ (([] : va_W))) H := hP
    have hD : va_D A ((cU g aU (.ref (u5 0)) vU_1 ++ (cZ g aZ (.ref qY) vZ ++ (cB g qY vY ++ (cB g (u5 0) vN2_2)))) ++ (([] : va_W))) := hD
    have hP : va_P g.1 vwCl (cU g aU (.ref (u5 0)) vU_1 ++ (cZ g aZ (.ref qY) vZ ++ (cB g qY vY ++ (cB g (u5 0) vN2_2)))) H := hP.perm (kpc (fun P => by first | omega | (simp only [List.countP_append, List.countP_nil] <;> omega)))
    have hD : va_D A (cU g aU (.ref (u5 0)) vU_1 ++ (cZ g aZ (.ref qY) vZ ++ (cB g qY vY ++ (cB g (u5 0) vN2_2)))) := hD.perm (kpc (fun P => by first | omega | (simp only [List.countP_append, List.countP_nil] <;> omega)))
    obtain ⟨h6, hf⟩ := gd_at hf
    obtain ⟨e7, e8⟩ := kp_2 hf
    rw [e7] at hP hD
    rw [e8] at hP hD
    refine W.widen (k := 2) (n := 800) (of_decide_eq_true h6).1 (of_decide_eq_true h6).2 ?_
    exact k_Gvret (w1 := fun (u : Nat → Nat) => cU g aU (.ref (u 0)) vU1 ++ (cZ g aZ (.ref qY) vZ ++ (cB g qY vY ++ (cB g (u 0) vR01)))) (rv := fun (u : Nat → Nat) => (fun _ => none) u) (u := (fun i => if i = 0 then (u5 0) else 0)) hx hb hr hlocks hK hP hD hS rfl dJ4_init_a7421_5
  rw [hH, hlo] at hW
  exact hW
def f_J0_init_db425 (vZ : Vs) (vU : Vs) (vV : Vs) : Option (Vs × Vs) :=
  o1 (f_J5_getValue_6d5f1 vU vV) (fun _ => o1 (f_J4_length_8abf5 vU vV) (fun (r4 : Int32) => o1 (f_J5_isLatin1_aae02 vU vV) (fun (r8 : Int32) => gd (decide (¬ (r8 = 0))) (gd (isY (0 : Int32)) (bn (sF vZ 1 (0 : Int32)) (fun (vZ_15 : Vs) => gd (decide (0 + 1 ≤ 1 ∧ 0 + 400 ≤ 400)) (o1 (f_J7_copyOfRange_39247 vV (0 : Int32) r4) (fun (vN32_16 : Vs) => gd (decide ((0 + 1) ≤ 1 ∧ (0 + 400) ≤ 400)) (some (vZ_15, vN32_16))))))))))
abbrev wsJ0_init_db425 : List Cond := .code yJ0_init_db425 cJ0_init_db425 5 none :: UW
abbrev rmJ0_init_db425 : Room := { frames := 4, cells := 1, slots := 400, locals := 136 }
set_option maxHeartbeats 4000000 in
set_option maxRecDepth 100000 in
theorem c_J0_init_db425 (l : Launch) (g : Gx) (aZ : Nat) (vZ : Vs) (aU : Nat) (vU : Vs) (qV : Nat) (vV : Vs) (vZ1 : Vs) (vR01 : Vs) (hf : f_J0_init_db425 vZ vU vV = some (vZ1, vR01)) : CtG l yJ0_init_db425 wsJ0_init_db425 rmJ0_init_db425 g [.ref aZ, .ref aU, .null] (cZ g aZ .null vZ ++ (cU g aU (.ref qV) vU ++ (cB g qV vV))) (fun (u : Nat → Nat) => cZ g aZ (.ref (u 0)) vZ1 ++ (cU g aU (.ref qV) vU ++ (cB g qV vV ++ (cB g (u 0) vR01)))) (fun (u : Nat → Nat) => (fun _ => none) u) 1 400 := by
  unfold CtG
  intro sz
  refine Met.ofW (cc := cJ0_init_db425) (maxL := 5) (ret := none) (by decide) rfl ?_
  intro p e s m args below meth c s₁ B hml hv
  obtain ⟨rfl, hsz, hP, hK, hD0, hG⟩ := hv
  have hx := B.exec
  have hb := B.bytes
  have hr := B.returns
  have hts := atoms_spec (ws := wsJ0_init_db425) B.pre
  have hown : s.vm.findClass RJ0 = some m.cls := findClass_of_methodNamed B.named
  have hlocks := B.notSynchronized
  have hin : meth.name = "<init>" := (name_of_methodNamed B.named B.method).1
  subst hsz
  have hD := hD0.self (sz := s.heap.size)
  generalize hAe : va_A (cZ g aZ .null vZ ++ (cU g aU (.ref qV) vU ++ (cB g qV vV))) s.heap.size = A at hD hG ⊢
  have hA : ∀ q : Nat, s.heap.size ≤ q → A q := fun q h => by rw [← hAe]; exact Or.inr h
  clear hAe hD0
  have hS : va_S A s.heap s.heap [] := va_S.rf
  have hl := lv_entry ([.ref aZ, .ref aU, .null]) (n := 5) (Nat.le_of_ble_eq_true rfl)
  rw [lg_entry_eq]
  generalize (lg_sl ([.ref aZ, .ref aU, .null]) ++ List.replicate (5 - (lg_sl ([.ref aZ, .ref aU, .null])).length) Slot.unset).toArray = ls at hl ⊢
  have hl : lv_has ls 5 [(0, .ref aZ), (1, .ref aU), (2, .null)] := hl
  have htu : ∀ w ∈ UW, w.before _ s = true := fun w h => hts w (List.mem_cons_of_mem _ h)
  have k_5_114 := htu _ mw_5_114
  have k_5_149 := htu _ mw_5_149
  have k_5_148 := htu _ mw_5_148
  unfold f_J0_init_db425 at hf
  obtain ⟨H, hH⟩ : ∃ z, z = s.heap := ⟨_, rfl⟩
  obtain ⟨locs, hlo⟩ : ∃ z : List Loc, z = [] := ⟨_, rfl⟩
  have hS : va_S A s.heap H locs := by rw [hH, hlo]; exact hS
  rw [← hH] at hP
  have hW : W p l e (headSpec wsJ0_init_db425 rmJ0_init_db425).room s m ([.ref aZ, .ref aU, .null] : List Value).toArray below meth c H locs 0 0 (MQ below (qG g A (fun (u : Nat → Nat) => cZ g aZ (.ref (u 0)) vZ1 ++ (cU g aU (.ref qV) vU ++ (cB g qV vV ++ (cB g (u 0) vR01)))) (fun (u : Nat → Nat) => (fun _ => none) u)) ([.ref aZ, .ref aU, .null] : List Value).toArray s 1 400 A) (F0 m 0 ls []) := by
    refine lv_aload_n hx hb dJ0_init_db425_0 rfl (lv_at hl 0 rfl) ?_
    refine W.objInit hx hb hown k_5_114 (htu _ mw_1_35) (htu _ mw_1_36) rfl (by rw [hml]; exact hl.1) rfl dJ0_init_db425_1 (Nat.le_of_ble_eq_true rfl) (Nat.le_of_ble_eq_true rfl) ?_
    refine W.eq (g2 := F0 m 4 ls []) rfl ?_
    refine lv_aload_n hx hb dJ0_init_db425_4 rfl (lv_at hl 1 rfl) ?_
    obtain ⟨_, hg1, hf⟩ := o1_at hf
    have hpm : (cZ g aZ .null vZ ++ (cU g aU (.ref qV) vU ++ (cB g qV vV))).Perm ((cU g aU (.ref qV) vU ++ (cB g qV vV)) ++ (cZ g aZ .null vZ)) := (kpc (fun P => by first | omega | (simp only [List.countP_append, List.countP_nil] <;> omega)))
    refine k_G (wc := cU g aU (.ref qV) vU ++ (cB g qV vV)) (wr := cZ g aZ .null vZ) (w1 := fun (u : Nat → Nat) => cU g aU (.ref qV) vU ++ (cB g qV vV)) (rv := fun (u : Nat → Nat) => (fun u => some (.ref qV)) u) hP hD hS hA hpm (va_runU (As := []) (rest := []) ⟨hx, hb, hml, hown, htu⟩ ((c_J5_getValue_6d5f1 l g aU vU qV vV hg1) H.size) (va_cwU (C := RJ4) (owner := "java/lang/AbstractStringBuilder") (x := ⟨"java/lang/AbstractStringBuilder", "getValue", "()[B"⟩) 0 htu (gU_U (List.forall_mem_cons.mpr ⟨mw_5_115, (List.forall_mem_cons.mpr ⟨mw_5_117, (List.forall_mem_cons.mpr ⟨mw_5_118, (List.forall_mem_cons.mpr ⟨mw_5_116, (List.forall_mem_cons.mpr ⟨mw_1_2, (fun _ h => nomatch h)⟩)⟩)⟩)⟩)⟩) mw_5_119) rfl rfl rfl rfl ⟨by decide +kernel, by decide +kernel, by decide +kernel⟩ ⟨Nat.le_of_ble_eq_true rfl, Nat.le_of_ble_eq_true rfl⟩) (k_preV (C := RJ4) hK hP hD hS hA hG hpm (va_recv (ci := 10) (q0 := 1) (fs := fcU (.ref qV) vU) (q := (RJ4, TJ4, 4)) hK hP rfl rfl)) rfl rfl hl.1 rfl (lv_room (Nat.le_of_ble_eq_true rfl)) dJ0_init_db425_5 ⟨Nat.zero_le _, Nat.zero_le _⟩) hQ_G (fun u3 H locs hP hD hS => ?_)
    refine W.eq (g2 := F0 m 8 ls [.ref qV]) rfl ?_
    have hP : va_P g.1 vwCl ((cU g aU (.ref qV) vU ++ (cB g qV vV)) ++ (cZ g aZ .null vZ)) H := hP
    have hD : va_D A ((cU g aU (.ref qV) vU ++ (cB g qV vV)) ++ (cZ g aZ .null vZ)) := hD
    have hP : va_P g.1 vwCl (cU g aU (.ref qV) vU ++ (cB g qV vV ++ (cZ g aZ .null vZ))) H := hP.perm (kpc (fun P => by first | omega | (simp only [List.countP_append, List.countP_nil] <;> omega)))
    have hD : va_D A (cU g aU (.ref qV) vU ++ (cB g qV vV ++ (cZ g aZ .null vZ))) := hD.perm (kpc (fun P => by first | omega | (simp only [List.countP_append, List.countP_nil] <;> omega)))
    refine lv_astore_n (lv' := [(3, .ref qV), (0, .ref aZ), (1, .ref aU), (2, .null)]) hx hb dJ0_init_db425_8 rfl hl (by decide) rfl (fun ls hl => ?_)
    refine lv_aload_n hx hb dJ0_init_db425_9 rfl (lv_at hl 2 rfl) ?_
    obtain ⟨r4, hg5, hf⟩ := o1_at hf
    have hpm : (cU g aU (.ref qV) vU ++ (cB g qV vV ++ (cZ g aZ .null vZ))).Perm ((cU g aU (.ref qV) vU ++ (cB g qV vV)) ++ (cZ g aZ .null vZ)) := (kpc (fun P => by first | omega | (simp only [List.countP_append, List.countP_nil] <;> omega)))
    refine k_G (wc := cU g aU (.ref qV) vU ++ (cB g qV vV)) (wr := cZ g aZ .null vZ) (w1 := fun (u : Nat → Nat) => cU g aU (.ref qV) vU ++ (cB g qV vV)) (rv := fun (u : Nat → Nat) => (fun _ => some (.int r4)) u) hP hD hS hA hpm (va_runU (As := []) (rest := []) ⟨hx, hb, hml, hown, htu⟩ ((c_J4_length_8abf5 l g aU vU qV vV r4 hg5) H.size) (va_cwO (C := RJ4) (owner := "java/lang/AbstractStringBuilder") (x := ⟨"java/lang/AbstractStringBuilder", "length", "()I"⟩) 0 htu (gU_O (List.forall_mem_cons.mpr ⟨mw_5_120, (List.forall_mem_cons.mpr ⟨mw_5_122, (List.forall_mem_cons.mpr ⟨mw_5_121, (List.forall_mem_cons.mpr ⟨mw_5_123, (List.forall_mem_cons.mpr ⟨mw_5_124, (List.forall_mem_cons.mpr ⟨mw_1_3, (fun _ h => nomatch h)⟩)⟩)⟩)⟩)⟩)⟩) mw_5_125) rfl rfl rfl mw_5_127 ⟨by decide +kernel, by decide +kernel, by decide +kernel⟩ ⟨Nat.le_of_ble_eq_true rfl, Nat.le_of_ble_eq_true rfl⟩) (k_preV (C := RJ4) hK hP hD hS hA hG hpm (va_recv (ci := 10) (q0 := 0) (fs := fcU (.ref qV) vU) (q := (RJ4, TJ4, 4)) hK hP rfl rfl)) rfl rfl hl.1 rfl (lv_room (Nat.le_of_ble_eq_true rfl)) dJ0_init_db425_10 ⟨Nat.zero_le _, Nat.zero_le _⟩) hQ_G (fun u7 H locs hP hD hS => ?_)
    refine W.eq (g2 := F0 m 13 ls [.int r4]) rfl ?_
    have hP : va_P g.1 vwCl ((cU g aU (.ref qV) vU ++ (cB g qV vV)) ++ (cZ g aZ .null vZ)) H := hP
    have hD : va_D A ((cU g aU (.ref qV) vU ++ (cB g qV vV)) ++ (cZ g aZ .null vZ)) := hD
    have hP : va_P g.1 vwCl (cU g aU (.ref qV) vU ++ (cB g qV vV ++ (cZ g aZ .null vZ))) H := hP.perm (kpc (fun P => by first | omega | (simp only [List.countP_append, List.countP_nil] <;> omega)))
    have hD : va_D A (cU g aU (.ref qV) vU ++ (cB g qV vV ++ (cZ g aZ .null vZ))) := hD.perm (kpc (fun P => by first | omega | (simp only [List.countP_append, List.countP_nil] <;> omega)))
    refine lv_istore (lv' := [(4, .int r4), (3, .ref qV), (0, .ref aZ), (1, .ref aU), (2, .null)]) hx hb dJ0_init_db425_13 hl (by decide) rfl (fun ls hl => ?_)
    refine lv_aload_n hx hb dJ0_init_db425_15 rfl (lv_at hl 3 rfl) ?_
    obtain ⟨r8, hg9, hf⟩ := o1_at hf
    have hpm : (cU g aU (.ref qV) vU ++ (cB g qV vV ++ (cZ g aZ .null vZ))).Perm ((cU g aU (.ref qV) vU ++ (cB g qV vV)) ++ (cZ g aZ .null vZ)) := (kpc (fun P => by first | omega | (simp only [List.countP_append, List.countP_nil] <;> omega)))
    refine k_G (wc := cU g aU (.ref qV) vU ++ (cB g qV vV)) (wr := cZ g aZ .null vZ) (w1 := fun (u : Nat → Nat) => cU g aU (.ref qV) vU ++ (cB g qV vV)) (rv := fun (u : Nat → Nat) => (fun _ => some (.int r8)) u) hP hD hS hA hpm (va_runU (As := []) (rest := []) ⟨hx, hb, hml, hown, htu⟩ ((c_J5_isLatin1_aae02 l g aU vU qV vV r8 hg9) H.size) (va_cwU (C := RJ4) (owner := "java/lang/AbstractStringBuilder") (x := ⟨"java/lang/AbstractStringBuilder", "isLatin1", "()Z"⟩) 0 htu (gU_U (List.forall_mem_cons.mpr ⟨mw_5_128, (List.forall_mem_cons.mpr ⟨mw_5_12, (List.forall_mem_cons.mpr ⟨mw_5_13, (List.forall_mem_cons.mpr ⟨mw_5_11, (List.forall_mem_cons.mpr ⟨mw_1_2, (fun _ h => nomatch h)⟩)⟩)⟩)⟩)⟩) mw_5_14) rfl rfl rfl rfl ⟨by decide +kernel, by decide +kernel, by decide +kernel⟩ ⟨Nat.le_of_ble_eq_true rfl, Nat.le_of_ble_eq_true rfl⟩) (k_preV (C := RJ4) hK hP hD hS hA hG hpm (va_recv (ci := 10) (q0 := 0) (fs := fcU (.ref qV) vU) (q := (RJ4, TJ4, 4)) hK hP rfl rfl)) rfl rfl hl.1 rfl (lv_room (Nat.le_of_ble_eq_true rfl)) dJ0_init_db425_16 ⟨Nat.zero_le _, Nat.zero_le _⟩) hQ_G (fun u11 H locs hP hD hS => ?_)
    refine W.eq (g2 := F0 m 19 ls [.int r8]) rfl ?_
    have hP : va_P g.1 vwCl ((cU g aU (.ref qV) vU ++ (cB g qV vV)) ++ (cZ g aZ .null vZ)) H := hP
    have hD : va_D A ((cU g aU (.ref qV) vU ++ (cB g qV vV)) ++ (cZ g aZ .null vZ)) := hD
    have hP : va_P g.1 vwCl (cU g aU (.ref qV) vU ++ (cB g qV vV ++ (cZ g aZ .null vZ))) H := hP.perm (kpc (fun P => by first | omega | (simp only [List.countP_append, List.countP_nil] <;> omega)))
    have hD : va_D A (cU g aU (.ref qV) vU ++ (cB g qV vV ++ (cZ g aZ .null vZ))) := hD.perm (kpc (fun P => by first | omega | (simp only [List.countP_append, List.countP_nil] <;> omega)))
    obtain ⟨h12, hf⟩ := gd_at hf
    have h12 := of_decide_eq_true h12
    refine lv_if_eq (tgt := 41) hx hb dJ0_init_db425_19 (by decide) (fun c13 => absurd c13 h12) (fun c13 => ?_)
    refine lv_aload_n hx hb dJ0_init_db425_22 rfl (lv_at hl 2 rfl) ?_
    refine lv_iconst (v := (0 : Int32)) hx hb dJ0_init_db425_23 (by decide) ?_
    obtain ⟨h14, hf⟩ := gd_at hf
    refine va_putF (D := g.1) (ci := 9) (fs := fcU .null vZ) (v := .int (0 : Int32)) (ty := .byte) (C := RJ0) (T := TJ0) (N := 4) hx hb htu hinJ0 tyJ0 tyJ0_ok nmJ0 hown hK hP hD hS 2 rfl rfl 1 (by decide) k_5_149 (fun _ h9 => h9) rfl hin rfl (by decide +kernel) (narY h14) (fitY h14) (Nat.le_of_ble_eq_true rfl) dJ0_init_db425_24 (fun H locs hP hD hS => ?_)
    obtain ⟨vZ_15, evZ_15⟩ : ∃ z : Vs, z = sF vZ 1 (0 : Int32) := ⟨_, rfl⟩
    have hf := bn_at hf evZ_15
    have hP : va_P g.1 vwCl (cU g aU (.ref qV) vU ++ (cB g qV vV ++ (cZ g aZ .null vZ_15))) H := by rw [evZ_15]; exact hP
    have hD : va_D A (cU g aU (.ref qV) vU ++ (cB g qV vV ++ (cZ g aZ .null vZ_15))) := by rw [evZ_15]; exact hD
    refine lv_aload_n hx hb dJ0_init_db425_27 rfl (lv_at hl 2 rfl) ?_
    refine lv_aload_n hx hb dJ0_init_db425_28 rfl (lv_at hl 1 rfl) ?_
    refine lv_iconst (v := (0 : Int32)) hx hb dJ0_init_db425_29 (by decide) ?_
    refine lv_iload hx hb dJ0_init_db425_30 (lv_at hl 0 rfl) ?_
    obtain ⟨h18, hf⟩ := gd_at hf
    obtain ⟨vN32_16, hg17, hf⟩ := o1_at hf
    have hpm : (cU g aU (.ref qV) vU ++ (cB g qV vV ++ (cZ g aZ .null vZ_15))).Perm ((cB g qV vV) ++ (cU g aU (.ref qV) vU ++ (cZ g aZ .null vZ_15))) := (kpc (fun P => by first | omega | (simp only [List.countP_append, List.countP_nil] <;> omega)))
    refine k_G (wc := cB g qV vV) (wr := cU g aU (.ref qV) vU ++ (cZ g aZ .null vZ_15)) (w1 := fun (u : Nat → Nat) => cB g qV vV ++ (cB g (u 0) vN32_16)) (rv := fun (u : Nat → Nat) => (fun u => some (.ref (u 0))) u) hP hD hS hA hpm (va_runS (As := [.ref qV, .int (0 : Int32), .int r4]) (rest := [.ref aZ]) ⟨hx, hb, hml, hown, htu⟩ ((c_J7_copyOfRange_39247 l g qV vV (0 : Int32) r4 vN32_16 hg17) H.size) (va_cwS 3 htu (gU_S mw_5_129 hcJ7_copyOfRange_39247) rfl rfl rfl hdJ7_copyOfRange_39247 ⟨Nat.le_of_ble_eq_true rfl, Nat.le_of_ble_eq_true rfl⟩) (k_preS hK hP hD hS hA hG hpm) rfl rfl hl.1 rfl (lv_room (Nat.le_of_ble_eq_true rfl)) dJ0_init_db425_32 (of_decide_eq_true h18)) hQ_G (fun u19 H locs hP hD hS => ?_)
    refine W.eq (g2 := F0 m 35 ls [.ref (u19 0), .ref aZ]) rfl ?_
    have hP : va_P g.1 vwCl ((cB g qV vV ++ (cB g (u19 0) vN32_16)) ++ (cU g aU (.ref qV) vU ++ (cZ g aZ .null vZ_15))) H := hP
    have hD : va_D A ((cB g qV vV ++ (cB g (u19 0) vN32_16)) ++ (cU g aU (.ref qV) vU ++ (cZ g aZ .null vZ_15))) := hD
    have hP : va_P g.1 vwCl (cB g qV vV ++ (cB g (u19 0) vN32_16 ++ (cU g aU (.ref qV) vU ++ (cZ g aZ .null vZ_15)))) H := hP.perm (kpc (fun P => by first | omega | (simp only [List.countP_append, List.countP_nil] <;> omega)))
    have hD : va_D A (cB g qV vV ++ (cB g (u19 0) vN32_16 ++ (cU g aU (.ref qV) vU ++ (cZ g aZ .null vZ_15)))) := hD.perm (kpc (fun P => by first | omega | (simp only [List.countP_append, List.countP_nil] <;> omega)))
    refine va_putF (D := g.1) (ci := 9) (fs := fcU .null vZ_15) (v := .ref (u19 0)) (ty := .array .byte) (C := RJ0) (T := TJ0) (N := 4) hx hb htu hinJ0 tyJ0 tyJ0_ok nmJ0 hown hK hP hD hS 3 rfl rfl 0 (by decide) k_5_148 (fun _ h9 => h9) rfl hin rfl (by decide +kernel) rfl rfl (Nat.le_of_ble_eq_true rfl) dJ0_init_db425_35 (fun H locs hP hD hS => ?_)
    have hP : va_P g.1 vwCl (cB g qV vV ++ (cB g (u19 0) vN32_16 ++ (cU g aU (.ref qV) vU ++ (cZ g aZ (.ref (u19 0)) vZ_15)))) H := hP
    have hD : va_D A (cB g qV vV ++ (cB g (u19 0) vN32_16 ++ (cU g aU (.ref qV) vU ++ (cZ g aZ (.ref (u19 0)) vZ_15)))) := hD
    refine lv_goto (tgt := 97) hx hb dJ0_init_db425_38 (by decide) ?_
    obtain ⟨h20, hf⟩ := gd_at hf
    have hP : va_P g.1 vwCl (cZ g aZ (.ref (u19 0)) vZ_15 ++ (cU g aU (.ref qV) vU ++ (cB g qV vV ++ (cB g (u19 0) vN32_16)))) H := k_dropP hP (w3 := ([] : va_W)) (kpc (fun P => by first | omega | (simp only [List.countP_append, List.countP_nil] <;> omega)))
    have hD : va_D A (cZ g aZ (.ref (u19 0)) vZ_15 ++ (cU g aU (.ref qV) vU ++ (cB g qV vV ++ (cB g (u19 0) vN32_16)))) := k_dropD hD (w3 := ([] : va_W)) (kpc (fun P => by first | omega | (simp only [List.countP_append, List.countP_nil] <;> omega)))
    obtain ⟨e21, e22⟩ := kp_2 hf
    rw [e21] at hP hD
    rw [e22] at hP hD
    refine W.widen (k := 1) (n := 400) (of_decide_eq_true h20).1 (of_decide_eq_true h20).2 ?_
    exact k_Gvret (w1 := fun (u : Nat → Nat) => cZ g aZ (.ref (u 0)) vZ1 ++ (cU g aU (.ref qV) vU ++ (cB g qV vV ++ (cB g (u 0) vR01)))) (rv := fun (u : Nat → Nat) => (fun _ => none) u) (u := (fun i => if i = 0 then (u19 0) else 0)) hx hb hr hlocks hK hP hD hS rfl dJ0_init_db425_97
  rw [hH, hlo] at hW
  exact hW
def f_J0_init_81219 (vZ : Vs) (vU : Vs) (vV : Vs) : Option (Vs × Vs) :=
  gd (decide (0 + 1 ≤ 1 ∧ 0 + 400 ≤ 400)) (o2 (f_J0_init_db425 vZ vU vV) (fun (vZ_1 : Vs) (vN3_2 : Vs) => gd (decide ((0 + 1) ≤ 1 ∧ (0 + 400) ≤ 400)) (some (vZ_1, vN3_2))))
abbrev wsJ0_init_81219 : List Cond := .code yJ0_init_81219 cJ0_init_81219 2 none :: UW
abbrev rmJ0_init_81219 : Room := { frames := 5, cells := 1, slots := 400, locals := 160 }
set_option maxHeartbeats 4000000 in
set_option maxRecDepth 100000 in
theorem c_J0_init_81219 (l : Launch) (g : Gx) (aZ : Nat) (vZ : Vs) (aU : Nat) (vU : Vs) (qV : Nat) (vV : Vs) (vZ1 : Vs) (vR01 : Vs) (hf : f_J0_init_81219 vZ vU vV = some (vZ1, vR01)) : CtG l yJ0_init_81219 wsJ0_init_81219 rmJ0_init_81219 g [.ref aZ, .ref aU] (cZ g aZ .null vZ ++ (cU g aU (.ref qV) vU ++ (cB g qV vV))) (fun (u : Nat → Nat) => cZ g aZ (.ref (u 0)) vZ1 ++ (cU g aU (.ref qV) vU ++ (cB g qV vV ++ (cB g (u 0) vR01)))) (fun (u : Nat → Nat) => (fun _ => none) u) 1 400 := by
  unfold CtG
  intro sz
  refine Met.ofW (cc := cJ0_init_81219) (maxL := 2) (ret := none) (by decide) rfl ?_
  intro p e s m args below meth c s₁ B hml hv
  obtain ⟨rfl, hsz, hP, hK, hD0, hG⟩ := hv
  have hx := B.exec
  have hb := B.bytes
  have hr := B.returns
  have hts := atoms_spec (ws := wsJ0_init_81219) B.pre
  have hown : s.vm.findClass RJ0 = some m.cls := findClass_of_methodNamed B.named
  have hlocks := B.notSynchronized
  have hin : meth.name = "<init>" := (name_of_methodNamed B.named B.method).1
  subst hsz
  have hD := hD0.self (sz := s.heap.size)
  generalize hAe : va_A (cZ g aZ .null vZ ++ (cU g aU (.ref qV) vU ++ (cB g qV vV))) s.heap.size = A at hD hG ⊢
  have hA : ∀ q : Nat, s.heap.size ≤ q → A q := fun q h => by rw [← hAe]; exact Or.inr h
  clear hAe hD0
  have hS : va_S A s.heap s.heap [] := va_S.rf
  have hl := lv_entry ([.ref aZ, .ref aU]) (n := 2) (Nat.le_of_ble_eq_true rfl)
  rw [lg_entry_eq]
  generalize (lg_sl ([.ref aZ, .ref aU]) ++ List.replicate (2 - (lg_sl ([.ref aZ, .ref aU])).length) Slot.unset).toArray = ls at hl ⊢
  have hl : lv_has ls 2 [(0, .ref aZ), (1, .ref aU)] := hl
  have htu : ∀ w ∈ UW, w.before _ s = true := fun w h => hts w (List.mem_cons_of_mem _ h)
  unfold f_J0_init_81219 at hf
  obtain ⟨H, hH⟩ : ∃ z, z = s.heap := ⟨_, rfl⟩
  obtain ⟨locs, hlo⟩ : ∃ z : List Loc, z = [] := ⟨_, rfl⟩
  have hS : va_S A s.heap H locs := by rw [hH, hlo]; exact hS
  rw [← hH] at hP
  have hW : W p l e (headSpec wsJ0_init_81219 rmJ0_init_81219).room s m ([.ref aZ, .ref aU] : List Value).toArray below meth c H locs 0 0 (MQ below (qG g A (fun (u : Nat → Nat) => cZ g aZ (.ref (u 0)) vZ1 ++ (cU g aU (.ref qV) vU ++ (cB g qV vV ++ (cB g (u 0) vR01)))) (fun (u : Nat → Nat) => (fun _ => none) u)) ([.ref aZ, .ref aU] : List Value).toArray s 1 400 A) (F0 m 0 ls []) := by
    refine lv_aload_n hx hb dJ0_init_81219_0 rfl (lv_at hl 0 rfl) ?_
    refine lv_aload_n hx hb dJ0_init_81219_1 rfl (lv_at hl 1 rfl) ?_
    refine lv_null hx hb dJ0_init_81219_2 ?_
    obtain ⟨h4, hf⟩ := gd_at hf
    obtain ⟨vZ_1, vN3_2, hg3, hf⟩ := o2_at hf
    have hpm : (cZ g aZ .null vZ ++ (cU g aU (.ref qV) vU ++ (cB g qV vV))).Perm ((cZ g aZ .null vZ ++ (cU g aU (.ref qV) vU ++ (cB g qV vV))) ++ (([] : va_W))) := (kpc (fun P => by first | omega | (simp only [List.countP_append, List.countP_nil] <;> omega)))
    refine k_G (wc := cZ g aZ .null vZ ++ (cU g aU (.ref qV) vU ++ (cB g qV vV))) (wr := ([] : va_W)) (w1 := fun (u : Nat → Nat) => cZ g aZ (.ref (u 0)) vZ_1 ++ (cU g aU (.ref qV) vU ++ (cB g qV vV ++ (cB g (u 0) vN3_2)))) (rv := fun (u : Nat → Nat) => (fun _ => none) u) hP hD hS hA hpm (va_runI (As := [.ref aU, .null]) (rest := []) ⟨hx, hb, hml, hown, htu⟩ ((c_J0_init_db425 l g aZ vZ aU vU qV vV vZ_1 vN3_2 hg3) H.size) (cwI 2 htu (gU_0 mw_5_113) rfl rfl rfl (htu _ mw_1_4) (htu _ mw_5_111) (htu _ mw_5_112) rfl hdJ0_init_db425 ⟨Nat.le_of_ble_eq_true rfl, Nat.le_of_ble_eq_true rfl⟩) (k_preS hK hP hD hS hA hG hpm) rfl rfl hl.1 rfl (lv_room (Nat.le_of_ble_eq_true rfl)) dJ0_init_81219_3 (of_decide_eq_true h4)) hQ_G (fun u5 H locs hP hD hS => ?_)
    refine W.eq (g2 := F0 m 6 ls []) rfl ?_
    have hP : va_P g.1 vwCl ((cZ g aZ (.ref (u5 0)) vZ_1 ++ (cU g aU (.ref qV) vU ++ (cB g qV vV ++ (cB g (u5 0) vN3_2)))) ++ (([] : va_W))) H := hP
    have hD : va_D A ((cZ g aZ (.ref (u5 0)) vZ_1 ++ (cU g aU (.ref qV) vU ++ (cB g qV vV ++ (cB g (u5 0) vN3_2)))) ++ (([] : va_W))) := hD
    have hP : va_P g.1 vwCl (cZ g aZ (.ref (u5 0)) vZ_1 ++ (cU g aU (.ref qV) vU ++ (cB g qV vV ++ (cB g (u5 0) vN3_2)))) H := hP.perm (kpc (fun P => by first | omega | (simp only [List.countP_append, List.countP_nil] <;> omega)))
    have hD : va_D A (cZ g aZ (.ref (u5 0)) vZ_1 ++ (cU g aU (.ref qV) vU ++ (cB g qV vV ++ (cB g (u5 0) vN3_2)))) := hD.perm (kpc (fun P => by first | omega | (simp only [List.countP_append, List.countP_nil] <;> omega)))
    obtain ⟨h6, hf⟩ := gd_at hf
    obtain ⟨e7, e8⟩ := kp_2 hf
    rw [e7] at hP hD
    rw [e8] at hP hD
    refine W.widen (k := 1) (n := 400) (of_decide_eq_true h6).1 (of_decide_eq_true h6).2 ?_
    exact k_Gvret (w1 := fun (u : Nat → Nat) => cZ g aZ (.ref (u 0)) vZ1 ++ (cU g aU (.ref qV) vU ++ (cB g qV vV ++ (cB g (u 0) vR01)))) (rv := fun (u : Nat → Nat) => (fun _ => none) u) (u := (fun i => if i = 0 then (u5 0) else 0)) hx hb hr hlocks hK hP hD hS rfl dJ0_init_81219_6
  rw [hH, hlo] at hW
  exact hW
def f_J4_toString_0e30d (vU : Vs) (vV : Vs) : Option (Vs × Vs) :=
  gd (decide (0 + 1 ≤ 2 ∧ 0 + 4 ≤ 404)) (bn (zV) (fun (vO0_3 : Vs) => gd (decide ((0 + 1) + 1 ≤ 2 ∧ (0 + 4) + 400 ≤ 404)) (o2 (f_J0_init_81219 vO0_3 vU vV) (fun (vO0_4 : Vs) (vN5_5 : Vs) => gd (decide (((0 + 1) + 1) ≤ 2 ∧ ((0 + 4) + 400) ≤ 404)) (some (vO0_4, vN5_5))))))
abbrev wsJ4_toString_0e30d : List Cond := .code yJ4_toString_0e30d cJ4_toString_0e30d 1 (some (.object "java/lang/String")) :: UW
abbrev rmJ4_toString_0e30d : Room := { frames := 6, cells := 2, slots := 404, locals := 181 }
set_option maxHeartbeats 4000000 in
set_option maxRecDepth 100000 in
theorem c_J4_toString_0e30d (l : Launch) (g : Gx) (aU : Nat) (vU : Vs) (qV : Nat) (vV : Vs) (vR01 : Vs) (vR11 : Vs) (hf : f_J4_toString_0e30d vU vV = some (vR01, vR11)) : CtG l yJ4_toString_0e30d wsJ4_toString_0e30d rmJ4_toString_0e30d g [.ref aU] (cU g aU (.ref qV) vU ++ (cB g qV vV)) (fun (u : Nat → Nat) => cU g aU (.ref qV) vU ++ (cB g qV vV ++ (cZ g (u 0) (.ref (u 1)) vR01 ++ (cB g (u 1) vR11)))) (fun (u : Nat → Nat) => (fun u => some (.ref (u 0))) u) 2 404 := by
  unfold CtG
  intro sz
  refine Met.ofW (cc := cJ4_toString_0e30d) (maxL := 1) (ret := (some (.object "java/lang/String"))) (by decide) rfl ?_
  intro p e s m args below meth c s₁ B hml hv
  obtain ⟨rfl, hsz, hP, hK, hD0, hG⟩ := hv
  have hx := B.exec
  have hb := B.bytes
  have hr := B.returns
  have hts := atoms_spec (ws := wsJ4_toString_0e30d) B.pre
  have hown : s.vm.findClass RJ4 = some m.cls := findClass_of_methodNamed B.named
  have hlocks := B.notSynchronized
  subst hsz
  have hD := hD0.self (sz := s.heap.size)
  generalize hAe : va_A (cU g aU (.ref qV) vU ++ (cB g qV vV)) s.heap.size = A at hD hG ⊢
  have hA : ∀ q : Nat, s.heap.size ≤ q → A q := fun q h => by rw [← hAe]; exact Or.inr h
  clear hAe hD0
  have hS : va_S A s.heap s.heap [] := va_S.rf
  have hl := lv_entry ([.ref aU]) (n := 1) (Nat.le_of_ble_eq_true rfl)
  rw [lg_entry_eq]
  generalize (lg_sl ([.ref aU]) ++ List.replicate (1 - (lg_sl ([.ref aU])).length) Slot.unset).toArray = ls at hl ⊢
  have hl : lv_has ls 1 [(0, .ref aU)] := hl
  have htu : ∀ w ∈ UW, w.before _ s = true := fun w h => hts w (List.mem_cons_of_mem _ h)
  have k_5_106 := htu _ mw_5_106
  have k_5_107 := htu _ mw_5_107
  have k_1_4 := htu _ mw_1_4
  unfold f_J4_toString_0e30d at hf
  obtain ⟨H, hH⟩ : ∃ z, z = s.heap := ⟨_, rfl⟩
  obtain ⟨locs, hlo⟩ : ∃ z : List Loc, z = [] := ⟨_, rfl⟩
  have hS : va_S A s.heap H locs := by rw [hH, hlo]; exact hS
  rw [← hH] at hP
  have hW : W p l e (headSpec wsJ4_toString_0e30d rmJ4_toString_0e30d).room s m ([.ref aU] : List Value).toArray below meth c H locs 0 0 (MQ below (qG g A (fun (u : Nat → Nat) => cU g aU (.ref qV) vU ++ (cB g qV vV ++ (cZ g (u 0) (.ref (u 1)) vR01 ++ (cB g (u 1) vR11)))) (fun (u : Nat → Nat) => (fun u => some (.ref (u 0))) u)) ([.ref aU] : List Value).toArray s 2 404 A) (F0 m 0 ls []) := by
    obtain ⟨h1, hf⟩ := gd_at hf
    have h1 := of_decide_eq_true h1
    refine va_new (D := g.1) (ci := 9) (fs := [.null, .int 0, .int 0, .int 0]) (C := RJ0) (T := TJ0) (N := 4) hx hb htu hinJ0 tyJ0 tyJ0_ok hown k_5_106 k_5_107 k_1_4 hK hP hD hS hA rfl (fun j hj => by rcases (show j = 0 ∨ j = 1 ∨ j = 2 ∨ j = 3 by omega) with rfl | rfl | rfl | rfl <;> rfl) h1.1 h1.2 dJ4_toString_0e30d_0 (fun q2 H hP hD hS => ?_)
    obtain ⟨vO0_3, evO0_3⟩ : ∃ z : Vs, z = zV := ⟨_, rfl⟩
    have hf := bn_at hf evO0_3
    have hP : va_P g.1 vwCl (cU g aU (.ref qV) vU ++ (cB g qV vV) ++ (cZ g q2 .null vO0_3)) H := by rw [evO0_3]; exact hP
    have hD : va_D A (cU g aU (.ref qV) vU ++ (cB g qV vV) ++ (cZ g q2 .null vO0_3)) := by rw [evO0_3]; exact hD
    have hP : va_P g.1 vwCl (cZ g q2 .null vO0_3 ++ (cU g aU (.ref qV) vU ++ (cB g qV vV))) H := hP.perm (kpc (fun P => by first | omega | (simp only [List.countP_append, List.countP_nil] <;> omega)))
    have hD : va_D A (cZ g q2 .null vO0_3 ++ (cU g aU (.ref qV) vU ++ (cB g qV vV))) := hD.perm (kpc (fun P => by first | omega | (simp only [List.countP_append, List.countP_nil] <;> omega)))
    refine lv_dup hx hb dJ4_toString_0e30d_3 rfl ?_
    refine lv_aload_n hx hb dJ4_toString_0e30d_4 rfl (lv_at hl 0 rfl) ?_
    obtain ⟨h7, hf⟩ := gd_at hf
    obtain ⟨vO0_4, vN5_5, hg6, hf⟩ := o2_at hf
    have hpm : (cZ g q2 .null vO0_3 ++ (cU g aU (.ref qV) vU ++ (cB g qV vV))).Perm ((cZ g q2 .null vO0_3 ++ (cU g aU (.ref qV) vU ++ (cB g qV vV))) ++ (([] : va_W))) := (kpc (fun P => by first | omega | (simp only [List.countP_append, List.countP_nil] <;> omega)))
    refine k_G (wc := cZ g q2 .null vO0_3 ++ (cU g aU (.ref qV) vU ++ (cB g qV vV))) (wr := ([] : va_W)) (w1 := fun (u : Nat → Nat) => cZ g q2 (.ref (u 0)) vO0_4 ++ (cU g aU (.ref qV) vU ++ (cB g qV vV ++ (cB g (u 0) vN5_5)))) (rv := fun (u : Nat → Nat) => (fun _ => none) u) hP hD hS hA hpm (va_runI (As := [.ref aU]) (rest := [.ref q2]) ⟨hx, hb, hml, hown, htu⟩ ((c_J0_init_81219 l g q2 vO0_3 aU vU qV vV vO0_4 vN5_5 hg6) H.size) (cwI 1 htu (gU_0 mw_5_110) rfl rfl rfl (htu _ mw_1_4) (htu _ mw_5_108) (htu _ mw_5_109) rfl hdJ0_init_81219 ⟨Nat.le_of_ble_eq_true rfl, Nat.le_of_ble_eq_true rfl⟩) (k_preS hK hP hD hS hA hG hpm) rfl rfl hl.1 rfl (lv_room (Nat.le_of_ble_eq_true rfl)) dJ4_toString_0e30d_5 (of_decide_eq_true h7)) hQ_G (fun u8 H locs hP hD hS => ?_)
    refine W.eq (g2 := F0 m 8 ls [.ref q2]) rfl ?_
    have hP : va_P g.1 vwCl ((cZ g q2 (.ref (u8 0)) vO0_4 ++ (cU g aU (.ref qV) vU ++ (cB g qV vV ++ (cB g (u8 0) vN5_5)))) ++ (([] : va_W))) H := hP
    have hD : va_D A ((cZ g q2 (.ref (u8 0)) vO0_4 ++ (cU g aU (.ref qV) vU ++ (cB g qV vV ++ (cB g (u8 0) vN5_5)))) ++ (([] : va_W))) := hD
    have hP : va_P g.1 vwCl (cZ g q2 (.ref (u8 0)) vO0_4 ++ (cU g aU (.ref qV) vU ++ (cB g qV vV ++ (cB g (u8 0) vN5_5)))) H := hP.perm (kpc (fun P => by first | omega | (simp only [List.countP_append, List.countP_nil] <;> omega)))
    have hD : va_D A (cZ g q2 (.ref (u8 0)) vO0_4 ++ (cU g aU (.ref qV) vU ++ (cB g qV vV ++ (cB g (u8 0) vN5_5)))) := hD.perm (kpc (fun P => by first | omega | (simp only [List.countP_append, List.countP_nil] <;> omega)))
    obtain ⟨h9, hf⟩ := gd_at hf
    have hP : va_P g.1 vwCl (cU g aU (.ref qV) vU ++ (cB g qV vV ++ (cZ g q2 (.ref (u8 0)) vO0_4 ++ (cB g (u8 0) vN5_5)))) H := k_dropP hP (w3 := ([] : va_W)) (kpc (fun P => by first | omega | (simp only [List.countP_append, List.countP_nil] <;> omega)))
    have hD : va_D A (cU g aU (.ref qV) vU ++ (cB g qV vV ++ (cZ g q2 (.ref (u8 0)) vO0_4 ++ (cB g (u8 0) vN5_5)))) := k_dropD hD (w3 := ([] : va_W)) (kpc (fun P => by first | omega | (simp only [List.countP_append, List.countP_nil] <;> omega)))
    obtain ⟨e10, e11⟩ := kp_2 hf
    rw [e10] at hP hD
    rw [e11] at hP hD
    refine W.widen (k := 2) (n := 404) (of_decide_eq_true h9).1 (of_decide_eq_true h9).2 ?_
    exact k_Garet (w1 := fun (u : Nat → Nat) => cU g aU (.ref qV) vU ++ (cB g qV vV ++ (cZ g (u 0) (.ref (u 1)) vR01 ++ (cB g (u 1) vR11)))) (rv := fun (u : Nat → Nat) => (fun u => some (.ref (u 0))) u) (u := (fun i => if i = 0 then q2 else if i = 1 then (u8 0) else 0)) hx hb hr (Or.inl ⟨_, rfl⟩) hlocks hK hP hD hS rfl dJ4_toString_0e30d_8
  rw [hH, hlo] at hW
  exact hW
