def f_J6_bitCount_0f7a4 (x0 : Int32) : Option (Int32) :=
  bn ((((x0 - ((ius x0 (1 : Int32)) &&& (1431655765 : Int32))) &&& (858993459 : Int32)) + ((ius (x0 - ((ius x0 (1 : Int32)) &&& (1431655765 : Int32))) (2 : Int32)) &&& (858993459 : Int32)))) (fun (y1 : Int32) => bn ((((y1 + (ius y1 (4 : Int32))) &&& (252645135 : Int32)) + (ius ((y1 + (ius y1 (4 : Int32))) &&& (252645135 : Int32)) (8 : Int32)))) (fun (y2 : Int32) => some (((y2 + (ius y2 (16 : Int32))) &&& (63 : Int32)))))
abbrev wsJ6_bitCount_0f7a4 : List Cond := .code yJ6_bitCount_0f7a4 cJ6_bitCount_0f7a4 1 (some .int) :: UW
abbrev rmJ6_bitCount_0f7a4 : Room := { frames := 0, cells := 0, slots := 0, locals := 0 }
set_option maxHeartbeats 4000000 in
set_option maxRecDepth 100000 in
theorem c_J6_bitCount_0f7a4 (l : Launch) (g : Gx) (x0 : Int32) (r : Int32) (hf : f_J6_bitCount_0f7a4 x0 = some r) : CtI l yJ6_bitCount_0f7a4 wsJ6_bitCount_0f7a4 rmJ6_bitCount_0f7a4 g [.int x0] ([]) ([]) r 0 0 := by
  unfold CtI
  intro sz
  refine Met.ofW (cc := cJ6_bitCount_0f7a4) (maxL := 1) (ret := (some .int)) (by decide) rfl ?_
  intro p e s m args below meth c s₁ B hml hv
  obtain ⟨rfl, hsz, hP, hK, hD0, hG⟩ := hv
  have hx := B.exec
  have hb := B.bytes
  have hr := B.returns
  have hts := atoms_spec (ws := wsJ6_bitCount_0f7a4) B.pre
  have hown : s.vm.findClass RJ6 = some m.cls := findClass_of_methodNamed B.named
  have hlocks := B.notSynchronized
  subst hsz
  have hD := hD0.self (sz := s.heap.size)
  generalize hAe : va_A ([]) s.heap.size = A at hD hG ⊢
  have hA : ∀ q : Nat, s.heap.size ≤ q → A q := fun q h => by rw [← hAe]; exact Or.inr h
  clear hAe hD0
  have hS : va_S A s.heap s.heap [] := va_S.rf
  have hl := lv_entry ([.int x0]) (n := 1) (Nat.le_of_ble_eq_true rfl)
  rw [lg_entry_eq]
  generalize (lg_sl ([.int x0]) ++ List.replicate (1 - (lg_sl ([.int x0])).length) Slot.unset).toArray = ls at hl ⊢
  have hl : lv_has ls 1 [(0, .int x0)] := hl
  have htu : ∀ w ∈ UW, w.before _ s = true := fun w h => hts w (List.mem_cons_of_mem _ h)
  have k_3_3 := htu _ mw_3_3
  have k_3_4 := htu _ mw_3_4
  have k_3_5 := htu _ mw_3_5
  unfold f_J6_bitCount_0f7a4 at hf
  obtain ⟨H, hH⟩ : ∃ z, z = s.heap := ⟨_, rfl⟩
  obtain ⟨locs, hlo⟩ : ∃ z : List Loc, z = [] := ⟨_, rfl⟩
  have hS : va_S A s.heap H locs := by rw [hH, hlo]; exact hS
  rw [← hH] at hP
  have hW : W p l e (headSpec wsJ6_bitCount_0f7a4 rmJ6_bitCount_0f7a4).room s m ([.int x0] : List Value).toArray below meth c H locs 0 0 (MQ below (qI g A ([]) r) ([.int x0] : List Value).toArray s 0 0 A) (F0 m 0 ls []) := by
    refine lv_iload_n hx hb dJ6_bitCount_0f7a4_0 rfl (lv_at hl 0 rfl) ?_
    refine lv_iload_n hx hb dJ6_bitCount_0f7a4_1 rfl (lv_at hl 0 rfl) ?_
    refine lv_iconst (v := (1 : Int32)) hx hb dJ6_bitCount_0f7a4_2 (by decide) ?_
    refine lv_iushr (v := (ius x0 (1 : Int32))) hx hb dJ6_bitCount_0f7a4_3 rfl ?_
    refine lv_ldcw (v := (1431655765 : Int32)) hx hb hown k_3_3 dJ6_bitCount_0f7a4_4 ?_
    refine lv_iand hx hb dJ6_bitCount_0f7a4_7 ?_
    refine lv_isub hx hb dJ6_bitCount_0f7a4_8 ?_
    refine lv_istore_n (lv' := [(0, .int (x0 - ((ius x0 (1 : Int32)) &&& (1431655765 : Int32))))]) hx hb dJ6_bitCount_0f7a4_9 rfl hl (by decide) rfl (fun ls hl => ?_)
    refine lv_iload_n hx hb dJ6_bitCount_0f7a4_10 rfl (lv_at hl 0 rfl) ?_
    refine lv_ldcw (v := (858993459 : Int32)) hx hb hown k_3_4 dJ6_bitCount_0f7a4_11 ?_
    refine lv_iand hx hb dJ6_bitCount_0f7a4_14 ?_
    refine lv_iload_n hx hb dJ6_bitCount_0f7a4_15 rfl (lv_at hl 0 rfl) ?_
    refine lv_iconst (v := (2 : Int32)) hx hb dJ6_bitCount_0f7a4_16 (by decide) ?_
    refine lv_iushr (v := (ius (x0 - ((ius x0 (1 : Int32)) &&& (1431655765 : Int32))) (2 : Int32))) hx hb dJ6_bitCount_0f7a4_17 rfl ?_
    refine lv_ldcw (v := (858993459 : Int32)) hx hb hown k_3_4 dJ6_bitCount_0f7a4_18 ?_
    refine lv_iand hx hb dJ6_bitCount_0f7a4_21 ?_
    refine lv_iadd hx hb dJ6_bitCount_0f7a4_22 ?_
    refine lv_topi (fun y1 ey1 => ?_)
    have hf := bn_at hf ey1
    refine lv_istore_n (lv' := [(0, .int y1)]) hx hb dJ6_bitCount_0f7a4_23 rfl hl (by decide) rfl (fun ls hl => ?_)
    refine lv_iload_n hx hb dJ6_bitCount_0f7a4_24 rfl (lv_at hl 0 rfl) ?_
    refine lv_iload_n hx hb dJ6_bitCount_0f7a4_25 rfl (lv_at hl 0 rfl) ?_
    refine lv_iconst (v := (4 : Int32)) hx hb dJ6_bitCount_0f7a4_26 (by decide) ?_
    refine lv_iushr (v := (ius y1 (4 : Int32))) hx hb dJ6_bitCount_0f7a4_27 rfl ?_
    refine lv_iadd hx hb dJ6_bitCount_0f7a4_28 ?_
    refine lv_ldcw (v := (252645135 : Int32)) hx hb hown k_3_5 dJ6_bitCount_0f7a4_29 ?_
    refine lv_iand hx hb dJ6_bitCount_0f7a4_32 ?_
    refine lv_istore_n (lv' := [(0, .int ((y1 + (ius y1 (4 : Int32))) &&& (252645135 : Int32)))]) hx hb dJ6_bitCount_0f7a4_33 rfl hl (by decide) rfl (fun ls hl => ?_)
    refine lv_iload_n hx hb dJ6_bitCount_0f7a4_34 rfl (lv_at hl 0 rfl) ?_
    refine lv_iload_n hx hb dJ6_bitCount_0f7a4_35 rfl (lv_at hl 0 rfl) ?_
    refine lv_bipush (v := (8 : Int32)) hx hb dJ6_bitCount_0f7a4_36 (by decide) ?_
    refine lv_iushr (v := (ius ((y1 + (ius y1 (4 : Int32))) &&& (252645135 : Int32)) (8 : Int32))) hx hb dJ6_bitCount_0f7a4_38 rfl ?_
    refine lv_iadd hx hb dJ6_bitCount_0f7a4_39 ?_
    refine lv_topi (fun y2 ey2 => ?_)
    have hf := bn_at hf ey2
    refine lv_istore_n (lv' := [(0, .int y2)]) hx hb dJ6_bitCount_0f7a4_40 rfl hl (by decide) rfl (fun ls hl => ?_)
    refine lv_iload_n hx hb dJ6_bitCount_0f7a4_41 rfl (lv_at hl 0 rfl) ?_
    refine lv_iload_n hx hb dJ6_bitCount_0f7a4_42 rfl (lv_at hl 0 rfl) ?_
    refine lv_bipush (v := (16 : Int32)) hx hb dJ6_bitCount_0f7a4_43 (by decide) ?_
    refine lv_iushr (v := (ius y2 (16 : Int32))) hx hb dJ6_bitCount_0f7a4_45 rfl ?_
    refine lv_iadd hx hb dJ6_bitCount_0f7a4_46 ?_
    refine lv_istore_n (lv' := [(0, .int (y2 + (ius y2 (16 : Int32))))]) hx hb dJ6_bitCount_0f7a4_47 rfl hl (by decide) rfl (fun ls hl => ?_)
    refine lv_iload_n hx hb dJ6_bitCount_0f7a4_48 rfl (lv_at hl 0 rfl) ?_
    refine lv_bipush (v := (63 : Int32)) hx hb dJ6_bitCount_0f7a4_49 (by decide) ?_
    refine lv_iand hx hb dJ6_bitCount_0f7a4_51 ?_
    have e3 := Option.some.inj hf
    exact k_iret hx hb hr hlocks hK hP hD hS e3 dJ6_bitCount_0f7a4_52
  rw [hH, hlo] at hW
  exact hW
def f_J13_bitCount_95d88 (x0 : Int64) : Option (Int32) :=
  bn ((x0 - ((lus x0 (1 : Int32)) &&& (6148914691236517205 : Int64)))) (fun (y1 : Int64) => bn (((y1 &&& (3689348814741910323 : Int64)) + ((lus y1 (2 : Int32)) &&& (3689348814741910323 : Int64)))) (fun (y2 : Int64) => bn (((y2 + (lus y2 (4 : Int32))) &&& (1085102592571150095 : Int64))) (fun (y3 : Int64) => bn (((y3 + (lus y3 (8 : Int32))) + (lus (y3 + (lus y3 (8 : Int32))) (16 : Int32)))) (fun (y4 : Int64) => some (((((y4 + (lus y4 (32 : Int32)))).toInt32) &&& (127 : Int32)))))))
abbrev wsJ13_bitCount_95d88 : List Cond := .code yJ13_bitCount_95d88 cJ13_bitCount_95d88 2 (some .int) :: UW
abbrev rmJ13_bitCount_95d88 : Room := { frames := 0, cells := 0, slots := 0, locals := 0 }
set_option maxHeartbeats 4000000 in
set_option maxRecDepth 100000 in
theorem c_J13_bitCount_95d88 (l : Launch) (g : Gx) (x0 : Int64) (r : Int32) (hf : f_J13_bitCount_95d88 x0 = some r) : CtI l yJ13_bitCount_95d88 wsJ13_bitCount_95d88 rmJ13_bitCount_95d88 g [.long x0] ([]) ([]) r 0 0 := by
  unfold CtI
  intro sz
  refine Met.ofW (cc := cJ13_bitCount_95d88) (maxL := 2) (ret := (some .int)) (by decide) rfl ?_
  intro p e s m args below meth c s₁ B hml hv
  obtain ⟨rfl, hsz, hP, hK, hD0, hG⟩ := hv
  have hx := B.exec
  have hb := B.bytes
  have hr := B.returns
  have hts := atoms_spec (ws := wsJ13_bitCount_95d88) B.pre
  have hown : s.vm.findClass RJ13 = some m.cls := findClass_of_methodNamed B.named
  have hlocks := B.notSynchronized
  subst hsz
  have hD := hD0.self (sz := s.heap.size)
  generalize hAe : va_A ([]) s.heap.size = A at hD hG ⊢
  have hA : ∀ q : Nat, s.heap.size ≤ q → A q := fun q h => by rw [← hAe]; exact Or.inr h
  clear hAe hD0
  have hS : va_S A s.heap s.heap [] := va_S.rf
  have hl := lv_entry ([.long x0]) (n := 2) (Nat.le_of_ble_eq_true rfl)
  rw [lg_entry_eq]
  generalize (lg_sl ([.long x0]) ++ List.replicate (2 - (lg_sl ([.long x0])).length) Slot.unset).toArray = ls at hl ⊢
  have hl : lv_has ls 2 [(0, .long x0)] := hl
  have htu : ∀ w ∈ UW, w.before _ s = true := fun w h => hts w (List.mem_cons_of_mem _ h)
  have k_2_137 := htu _ mw_2_137
  have k_2_138 := htu _ mw_2_138
  have k_2_139 := htu _ mw_2_139
  unfold f_J13_bitCount_95d88 at hf
  obtain ⟨H, hH⟩ : ∃ z, z = s.heap := ⟨_, rfl⟩
  obtain ⟨locs, hlo⟩ : ∃ z : List Loc, z = [] := ⟨_, rfl⟩
  have hS : va_S A s.heap H locs := by rw [hH, hlo]; exact hS
  rw [← hH] at hP
  have hW : W p l e (headSpec wsJ13_bitCount_95d88 rmJ13_bitCount_95d88).room s m ([.long x0] : List Value).toArray below meth c H locs 0 0 (MQ below (qI g A ([]) r) ([.long x0] : List Value).toArray s 0 0 A) (F0 m 0 ls []) := by
    refine lv_lload_n hx hb dJ13_bitCount_95d88_0 rfl (lv_at hl 0 rfl) ?_
    refine lv_lload_n hx hb dJ13_bitCount_95d88_1 rfl (lv_at hl 0 rfl) ?_
    refine lv_iconst (v := (1 : Int32)) hx hb dJ13_bitCount_95d88_2 (by decide) ?_
    refine lv_lushr (v := (lus x0 (1 : Int32))) hx hb dJ13_bitCount_95d88_3 rfl ?_
    refine lv_ldc2 (v := (6148914691236517205 : Int64)) hx hb hown k_2_137 dJ13_bitCount_95d88_4 ?_
    refine lv_land hx hb dJ13_bitCount_95d88_7 ?_
    refine lv_lsub hx hb dJ13_bitCount_95d88_8 ?_
    refine lv_topl (fun y1 ey1 => ?_)
    have hf := bn_at hf ey1
    refine lv_lstore_n (lv' := [(0, .long y1)]) hx hb dJ13_bitCount_95d88_9 rfl hl (by decide) rfl (fun ls hl => ?_)
    refine lv_lload_n hx hb dJ13_bitCount_95d88_10 rfl (lv_at hl 0 rfl) ?_
    refine lv_ldc2 (v := (3689348814741910323 : Int64)) hx hb hown k_2_138 dJ13_bitCount_95d88_11 ?_
    refine lv_land hx hb dJ13_bitCount_95d88_14 ?_
    refine lv_lload_n hx hb dJ13_bitCount_95d88_15 rfl (lv_at hl 0 rfl) ?_
    refine lv_iconst (v := (2 : Int32)) hx hb dJ13_bitCount_95d88_16 (by decide) ?_
    refine lv_lushr (v := (lus y1 (2 : Int32))) hx hb dJ13_bitCount_95d88_17 rfl ?_
    refine lv_ldc2 (v := (3689348814741910323 : Int64)) hx hb hown k_2_138 dJ13_bitCount_95d88_18 ?_
    refine lv_land hx hb dJ13_bitCount_95d88_21 ?_
    refine lv_ladd hx hb dJ13_bitCount_95d88_22 ?_
    refine lv_topl (fun y2 ey2 => ?_)
    have hf := bn_at hf ey2
    refine lv_lstore_n (lv' := [(0, .long y2)]) hx hb dJ13_bitCount_95d88_23 rfl hl (by decide) rfl (fun ls hl => ?_)
    refine lv_lload_n hx hb dJ13_bitCount_95d88_24 rfl (lv_at hl 0 rfl) ?_
    refine lv_lload_n hx hb dJ13_bitCount_95d88_25 rfl (lv_at hl 0 rfl) ?_
    refine lv_iconst (v := (4 : Int32)) hx hb dJ13_bitCount_95d88_26 (by decide) ?_
    refine lv_lushr (v := (lus y2 (4 : Int32))) hx hb dJ13_bitCount_95d88_27 rfl ?_
    refine lv_ladd hx hb dJ13_bitCount_95d88_28 ?_
    refine lv_ldc2 (v := (1085102592571150095 : Int64)) hx hb hown k_2_139 dJ13_bitCount_95d88_29 ?_
    refine lv_land hx hb dJ13_bitCount_95d88_32 ?_
    refine lv_topl (fun y3 ey3 => ?_)
    have hf := bn_at hf ey3
    refine lv_lstore_n (lv' := [(0, .long y3)]) hx hb dJ13_bitCount_95d88_33 rfl hl (by decide) rfl (fun ls hl => ?_)
    refine lv_lload_n hx hb dJ13_bitCount_95d88_34 rfl (lv_at hl 0 rfl) ?_
    refine lv_lload_n hx hb dJ13_bitCount_95d88_35 rfl (lv_at hl 0 rfl) ?_
    refine lv_bipush (v := (8 : Int32)) hx hb dJ13_bitCount_95d88_36 (by decide) ?_
    refine lv_lushr (v := (lus y3 (8 : Int32))) hx hb dJ13_bitCount_95d88_38 rfl ?_
    refine lv_ladd hx hb dJ13_bitCount_95d88_39 ?_
    refine lv_lstore_n (lv' := [(0, .long (y3 + (lus y3 (8 : Int32))))]) hx hb dJ13_bitCount_95d88_40 rfl hl (by decide) rfl (fun ls hl => ?_)
    refine lv_lload_n hx hb dJ13_bitCount_95d88_41 rfl (lv_at hl 0 rfl) ?_
    refine lv_lload_n hx hb dJ13_bitCount_95d88_42 rfl (lv_at hl 0 rfl) ?_
    refine lv_bipush (v := (16 : Int32)) hx hb dJ13_bitCount_95d88_43 (by decide) ?_
    refine lv_lushr (v := (lus (y3 + (lus y3 (8 : Int32))) (16 : Int32))) hx hb dJ13_bitCount_95d88_45 rfl ?_
    refine lv_ladd hx hb dJ13_bitCount_95d88_46 ?_
    refine lv_topl (fun y4 ey4 => ?_)
    have hf := bn_at hf ey4
    refine lv_lstore_n (lv' := [(0, .long y4)]) hx hb dJ13_bitCount_95d88_47 rfl hl (by decide) rfl (fun ls hl => ?_)
    refine lv_lload_n hx hb dJ13_bitCount_95d88_48 rfl (lv_at hl 0 rfl) ?_
    refine lv_lload_n hx hb dJ13_bitCount_95d88_49 rfl (lv_at hl 0 rfl) ?_
    refine lv_bipush (v := (32 : Int32)) hx hb dJ13_bitCount_95d88_50 (by decide) ?_
    refine lv_lushr (v := (lus y4 (32 : Int32))) hx hb dJ13_bitCount_95d88_52 rfl ?_
    refine lv_ladd hx hb dJ13_bitCount_95d88_53 ?_
    refine lv_lstore_n (lv' := [(0, .long (y4 + (lus y4 (32 : Int32))))]) hx hb dJ13_bitCount_95d88_54 rfl hl (by decide) rfl (fun ls hl => ?_)
    refine lv_lload_n hx hb dJ13_bitCount_95d88_55 rfl (lv_at hl 0 rfl) ?_
    refine lv_l2i (v := ((y4 + (lus y4 (32 : Int32)))).toInt32) hx hb dJ13_bitCount_95d88_56 rfl ?_
    refine lv_bipush (v := (127 : Int32)) hx hb dJ13_bitCount_95d88_57 (by decide) ?_
    refine lv_iand hx hb dJ13_bitCount_95d88_59 ?_
    have e5 := Option.some.inj hf
    exact k_iret hx hb hr hlocks hK hP hD hS e5 dJ13_bitCount_95d88_60
  rw [hH, hlo] at hW
  exact hW
def f_J3_checkIndex_8e157_n (x0 : Int32) (x1 : Int32) : Option (Int32) :=
  if x0 < 0 then none else if x0 < x1 then some (x0) else none
abbrev wsJ3_checkIndex_8e157 : List Cond := .code yJ3_checkIndex_8e157 cJ3_checkIndex_8e157 3 (some .int) :: UW
abbrev rmJ3_checkIndex_8e157_n : Room := { frames := 0, cells := 0, slots := 0, locals := 0 }
set_option maxHeartbeats 4000000 in
set_option maxRecDepth 100000 in
theorem c_J3_checkIndex_8e157_n (l : Launch) (g : Gx) (x0 : Int32) (x1 : Int32) (r : Int32) (hf : f_J3_checkIndex_8e157_n x0 x1 = some r) : CtI l yJ3_checkIndex_8e157 wsJ3_checkIndex_8e157 rmJ3_checkIndex_8e157_n g [.int x0, .int x1, .null] ([]) ([]) r 0 0 := by
  unfold CtI
  intro sz
  refine Met.ofW (cc := cJ3_checkIndex_8e157) (maxL := 3) (ret := (some .int)) (by decide) rfl ?_
  intro p e s m args below meth c s₁ B hml hv
  obtain ⟨rfl, hsz, hP, hK, hD0, hG⟩ := hv
  have hx := B.exec
  have hb := B.bytes
  have hr := B.returns
  have hts := atoms_spec (ws := wsJ3_checkIndex_8e157) B.pre
  have hown : s.vm.findClass RJ3 = some m.cls := findClass_of_methodNamed B.named
  have hlocks := B.notSynchronized
  subst hsz
  have hD := hD0.self (sz := s.heap.size)
  generalize hAe : va_A ([]) s.heap.size = A at hD hG ⊢
  have hA : ∀ q : Nat, s.heap.size ≤ q → A q := fun q h => by rw [← hAe]; exact Or.inr h
  clear hAe hD0
  have hS : va_S A s.heap s.heap [] := va_S.rf
  have hl := lv_entry ([.int x0, .int x1, .null]) (n := 3) (Nat.le_of_ble_eq_true rfl)
  rw [lg_entry_eq]
  generalize (lg_sl ([.int x0, .int x1, .null]) ++ List.replicate (3 - (lg_sl ([.int x0, .int x1, .null])).length) Slot.unset).toArray = ls at hl ⊢
  have hl : lv_has ls 3 [(0, .int x0), (1, .int x1), (2, .null)] := hl
  have htu : ∀ w ∈ UW, w.before _ s = true := fun w h => hts w (List.mem_cons_of_mem _ h)
  unfold f_J3_checkIndex_8e157_n at hf
  obtain ⟨H, hH⟩ : ∃ z, z = s.heap := ⟨_, rfl⟩
  obtain ⟨locs, hlo⟩ : ∃ z : List Loc, z = [] := ⟨_, rfl⟩
  have hS : va_S A s.heap H locs := by rw [hH, hlo]; exact hS
  rw [← hH] at hP
  have hW : W p l e (headSpec wsJ3_checkIndex_8e157 rmJ3_checkIndex_8e157_n).room s m ([.int x0, .int x1, .null] : List Value).toArray below meth c H locs 0 0 (MQ below (qI g A ([]) r) ([.int x0, .int x1, .null] : List Value).toArray s 0 0 A) (F0 m 0 ls []) := by
    refine lv_iload_n hx hb dJ3_checkIndex_8e157_0 rfl (lv_at hl 0 rfl) ?_
    refine lv_if_lt (tgt := 9) hx hb dJ3_checkIndex_8e157_1 (by decide) (fun c1 => ?_) (fun c1 => ?_)
    · have hf := it_t hf c1
      cases hf
    · have hf := it_f hf c1
      refine lv_iload_n hx hb dJ3_checkIndex_8e157_4 rfl (lv_at hl 0 rfl) ?_
      refine lv_iload_n hx hb dJ3_checkIndex_8e157_5 rfl (lv_at hl 1 rfl) ?_
      refine lv_icmp_lt (tgt := 16) hx hb dJ3_checkIndex_8e157_6 (by decide) (fun c2 => ?_) (fun c2 => ?_)
      · have hf := it_t hf c2
        refine lv_iload_n hx hb dJ3_checkIndex_8e157_16 rfl (lv_at hl 0 rfl) ?_
        have e3 := Option.some.inj hf
        exact k_iret hx hb hr hlocks hK hP hD hS e3 dJ3_checkIndex_8e157_17
      · have hf := it_f hf c2
        cases hf
  rw [hH, hlo] at hW
  exact hW
abbrev rmJ3_checkIndex_8e157_r : Room := { frames := 0, cells := 0, slots := 0, locals := 0 }
set_option maxHeartbeats 4000000 in
set_option maxRecDepth 100000 in
theorem c_J3_checkIndex_8e157_r (l : Launch) (g : Gx) (x0 : Int32) (x1 : Int32) (t9 : Nat) (r : Int32) (hf : f_J3_checkIndex_8e157_n x0 x1 = some r) : CtI l yJ3_checkIndex_8e157 wsJ3_checkIndex_8e157 rmJ3_checkIndex_8e157_r g [.int x0, .int x1, .ref t9] ([]) ([]) r 0 0 := by
  unfold CtI
  intro sz
  refine Met.ofW (cc := cJ3_checkIndex_8e157) (maxL := 3) (ret := (some .int)) (by decide) rfl ?_
  intro p e s m args below meth c s₁ B hml hv
  obtain ⟨rfl, hsz, hP, hK, hD0, hG⟩ := hv
  have hx := B.exec
  have hb := B.bytes
  have hr := B.returns
  have hts := atoms_spec (ws := wsJ3_checkIndex_8e157) B.pre
  have hown : s.vm.findClass RJ3 = some m.cls := findClass_of_methodNamed B.named
  have hlocks := B.notSynchronized
  subst hsz
  have hD := hD0.self (sz := s.heap.size)
  generalize hAe : va_A ([]) s.heap.size = A at hD hG ⊢
  have hA : ∀ q : Nat, s.heap.size ≤ q → A q := fun q h => by rw [← hAe]; exact Or.inr h
  clear hAe hD0
  have hS : va_S A s.heap s.heap [] := va_S.rf
  have hl := lv_entry ([.int x0, .int x1, .ref t9]) (n := 3) (Nat.le_of_ble_eq_true rfl)
  rw [lg_entry_eq]
  generalize (lg_sl ([.int x0, .int x1, .ref t9]) ++ List.replicate (3 - (lg_sl ([.int x0, .int x1, .ref t9])).length) Slot.unset).toArray = ls at hl ⊢
  have hl : lv_has ls 3 [(0, .int x0), (1, .int x1), (2, .ref t9)] := hl
  have htu : ∀ w ∈ UW, w.before _ s = true := fun w h => hts w (List.mem_cons_of_mem _ h)
  unfold f_J3_checkIndex_8e157_n at hf
  obtain ⟨H, hH⟩ : ∃ z, z = s.heap := ⟨_, rfl⟩
  obtain ⟨locs, hlo⟩ : ∃ z : List Loc, z = [] := ⟨_, rfl⟩
  have hS : va_S A s.heap H locs := by rw [hH, hlo]; exact hS
  rw [← hH] at hP
  have hW : W p l e (headSpec wsJ3_checkIndex_8e157 rmJ3_checkIndex_8e157_r).room s m ([.int x0, .int x1, .ref t9] : List Value).toArray below meth c H locs 0 0 (MQ below (qI g A ([]) r) ([.int x0, .int x1, .ref t9] : List Value).toArray s 0 0 A) (F0 m 0 ls []) := by
    refine lv_iload_n hx hb dJ3_checkIndex_8e157_0 rfl (lv_at hl 0 rfl) ?_
    refine lv_if_lt (tgt := 9) hx hb dJ3_checkIndex_8e157_1 (by decide) (fun c1 => ?_) (fun c1 => ?_)
    · have hf := it_t hf c1
      cases hf
    · have hf := it_f hf c1
      refine lv_iload_n hx hb dJ3_checkIndex_8e157_4 rfl (lv_at hl 0 rfl) ?_
      refine lv_iload_n hx hb dJ3_checkIndex_8e157_5 rfl (lv_at hl 1 rfl) ?_
      refine lv_icmp_lt (tgt := 16) hx hb dJ3_checkIndex_8e157_6 (by decide) (fun c2 => ?_) (fun c2 => ?_)
      · have hf := it_t hf c2
        refine lv_iload_n hx hb dJ3_checkIndex_8e157_16 rfl (lv_at hl 0 rfl) ?_
        have e3 := Option.some.inj hf
        exact k_iret hx hb hr hlocks hK hP hD hS e3 dJ3_checkIndex_8e157_17
      · have hf := it_f hf c2
        cases hf
  rw [hH, hlo] at hW
  exact hW
def f_J0_coder_7d493 (i0 : Nat) : Option (Int32) :=
  jn (fun (t1 : Int32) => gd (isY t1) (some (t1))) (fun k2 => if (1 : Int32) = 0 then none else k2 (0 : Int32))
abbrev wsJ0_coder_7d493 : List Cond := .code yJ0_coder_7d493 cJ0_coder_7d493 1 (some .byte) :: UW
abbrev rmJ0_coder_7d493 : Room := { frames := 0, cells := 0, slots := 0, locals := 0 }
set_option maxHeartbeats 4000000 in
set_option maxRecDepth 100000 in
theorem c_J0_coder_7d493 (l : Launch) (g : Gx) (i0 : Nat) (hi0 : i0 < 26) (r : Int32) (hf : f_J0_coder_7d493 i0 = some r) : CtI l yJ0_coder_7d493 wsJ0_coder_7d493 rmJ0_coder_7d493 g [.ref (adK g i0)] ([]) ([]) r 0 0 := by
  unfold CtI
  intro sz
  refine Met.ofW (cc := cJ0_coder_7d493) (maxL := 1) (ret := (some .byte)) (by decide) rfl ?_
  intro p e s m args below meth c s₁ B hml hv
  obtain ⟨rfl, hsz, hP, hK, hD0, hG⟩ := hv
  have hx := B.exec
  have hb := B.bytes
  have hr := B.returns
  have hts := atoms_spec (ws := wsJ0_coder_7d493) B.pre
  have hown : s.vm.findClass RJ0 = some m.cls := findClass_of_methodNamed B.named
  have hlocks := B.notSynchronized
  subst hsz
  have hD := hD0.self (sz := s.heap.size)
  generalize hAe : va_A ([]) s.heap.size = A at hD hG ⊢
  have hA : ∀ q : Nat, s.heap.size ≤ q → A q := fun q h => by rw [← hAe]; exact Or.inr h
  clear hAe hD0
  have hS : va_S A s.heap s.heap [] := va_S.rf
  have hl := lv_entry ([.ref (adK g i0)]) (n := 1) (Nat.le_of_ble_eq_true rfl)
  rw [lg_entry_eq]
  generalize (lg_sl ([.ref (adK g i0)]) ++ List.replicate (1 - (lg_sl ([.ref (adK g i0)])).length) Slot.unset).toArray = ls at hl ⊢
  have hl : lv_has ls 1 [(0, .ref (adK g i0))] := hl
  have htu : ∀ w ∈ UW, w.before _ s = true := fun w h => hts w (List.mem_cons_of_mem _ h)
  have k_3_219 := htu _ mw_3_219
  have k_7_82 := htu _ mw_7_82
  unfold f_J0_coder_7d493 at hf
  obtain ⟨H, hH⟩ : ∃ z, z = s.heap := ⟨_, rfl⟩
  obtain ⟨locs, hlo⟩ : ∃ z : List Loc, z = [] := ⟨_, rfl⟩
  have hS : va_S A s.heap H locs := by rw [hH, hlo]; exact hS
  rw [← hH] at hP
  have hW : W p l e (headSpec wsJ0_coder_7d493 rmJ0_coder_7d493).room s m ([.ref (adK g i0)] : List Value).toArray below meth c H locs 0 0 (MQ below (qI g A ([]) r) ([.ref (adK g i0)] : List Value).toArray s 0 0 A) (F0 m 0 ls []) := by
    refine va_gets (v := .int 1) hx hb hG.2.2.2.1.1 hS hown k_3_219 (fun _ h9 => h9) dJ0_coder_7d493_0 ?_
    obtain ⟨k2, hk6, hf⟩ := jn_at hf
    have hJ3 : ∀ (t1 : Int32), k2 t1 = some r → ∀ (H : Heap) (locs : List Loc), va_P g.1 vwCl ([]) H → va_D A ([]) → va_S A s.heap H locs → ∀ ls : Array Slot, lv_has ls 1 [] → W p l e (headSpec wsJ0_coder_7d493 rmJ0_coder_7d493).room s m ([.ref (adK g i0)] : List Value).toArray below meth c H locs 0 0 (MQ below (qI g A ([]) r) ([.ref (adK g i0)] : List Value).toArray s 0 0 A) (F0 m 14 ls [.int t1]) := by
      intro t1 hf H locs hP hD hS ls hl
      rw [hk6] at hf
      dsimp only at hf
      clear hk6
      obtain ⟨h4, hf⟩ := gd_at hf
      have e5 := Option.some.inj hf
      exact k_nret hx hb hr hlocks hK hP hD hS e5 (congrArg Value.int (of_decide_eq_true h4)) dJ0_coder_7d493_14
    refine lv_if_eq (tgt := 13) hx hb dJ0_coder_7d493_3 (by decide) (fun c7 => ?_) (fun c7 => ?_)
    · have hf := it_t hf c7
      cases hf
    · have hf := it_f hf c7
      refine lv_aload_n hx hb dJ0_coder_7d493_6 rfl (lv_at hl 0 rfl) ?_
      refine vk_getf (v := .int (0 : Int32)) hx hb (hG.2.2.1.1 i0 hi0).2.1 hS hown k_7_82 (fun _ h9 => h9) dJ0_coder_7d493_7 ?_
      refine lv_goto (tgt := 14) hx hb dJ0_coder_7d493_10 (by decide) ?_
      exact hJ3 (0 : Int32) hf H locs hP hD hS _ (lv_sub hl [] rfl)
  rw [hH, hlo] at hW
  exact hW
def f_J0_isLatin1_aae02 (i0 : Nat) : Option (Int32) :=
  jn (fun (t1 : Int32) => gd (isB t1) (some (t1))) (fun k2 => if (1 : Int32) = 0 then none else if (0 : Int32) = 0 then k2 (1 : Int32) else none)
abbrev wsJ0_isLatin1_aae02 : List Cond := .code yJ0_isLatin1_aae02 cJ0_isLatin1_aae02 1 (some .boolean) :: UW
abbrev rmJ0_isLatin1_aae02 : Room := { frames := 0, cells := 0, slots := 0, locals := 0 }
set_option maxHeartbeats 4000000 in
set_option maxRecDepth 100000 in
theorem c_J0_isLatin1_aae02 (l : Launch) (g : Gx) (i0 : Nat) (hi0 : i0 < 26) (r : Int32) (hf : f_J0_isLatin1_aae02 i0 = some r) : CtI l yJ0_isLatin1_aae02 wsJ0_isLatin1_aae02 rmJ0_isLatin1_aae02 g [.ref (adK g i0)] ([]) ([]) r 0 0 := by
  unfold CtI
  intro sz
  refine Met.ofW (cc := cJ0_isLatin1_aae02) (maxL := 1) (ret := (some .boolean)) (by decide) rfl ?_
  intro p e s m args below meth c s₁ B hml hv
  obtain ⟨rfl, hsz, hP, hK, hD0, hG⟩ := hv
  have hx := B.exec
  have hb := B.bytes
  have hr := B.returns
  have hts := atoms_spec (ws := wsJ0_isLatin1_aae02) B.pre
  have hown : s.vm.findClass RJ0 = some m.cls := findClass_of_methodNamed B.named
  have hlocks := B.notSynchronized
  subst hsz
  have hD := hD0.self (sz := s.heap.size)
  generalize hAe : va_A ([]) s.heap.size = A at hD hG ⊢
  have hA : ∀ q : Nat, s.heap.size ≤ q → A q := fun q h => by rw [← hAe]; exact Or.inr h
  clear hAe hD0
  have hS : va_S A s.heap s.heap [] := va_S.rf
  have hl := lv_entry ([.ref (adK g i0)]) (n := 1) (Nat.le_of_ble_eq_true rfl)
  rw [lg_entry_eq]
  generalize (lg_sl ([.ref (adK g i0)]) ++ List.replicate (1 - (lg_sl ([.ref (adK g i0)])).length) Slot.unset).toArray = ls at hl ⊢
  have hl : lv_has ls 1 [(0, .ref (adK g i0))] := hl
  have htu : ∀ w ∈ UW, w.before _ s = true := fun w h => hts w (List.mem_cons_of_mem _ h)
  have k_3_219 := htu _ mw_3_219
  have k_7_82 := htu _ mw_7_82
  unfold f_J0_isLatin1_aae02 at hf
  obtain ⟨H, hH⟩ : ∃ z, z = s.heap := ⟨_, rfl⟩
  obtain ⟨locs, hlo⟩ : ∃ z : List Loc, z = [] := ⟨_, rfl⟩
  have hS : va_S A s.heap H locs := by rw [hH, hlo]; exact hS
  rw [← hH] at hP
  have hW : W p l e (headSpec wsJ0_isLatin1_aae02 rmJ0_isLatin1_aae02).room s m ([.ref (adK g i0)] : List Value).toArray below meth c H locs 0 0 (MQ below (qI g A ([]) r) ([.ref (adK g i0)] : List Value).toArray s 0 0 A) (F0 m 0 ls []) := by
    refine va_gets (v := .int 1) hx hb hG.2.2.2.1.1 hS hown k_3_219 (fun _ h9 => h9) dJ0_isLatin1_aae02_0 ?_
    obtain ⟨k2, hk6, hf⟩ := jn_at hf
    have hJ3 : ∀ (t1 : Int32), k2 t1 = some r → ∀ (H : Heap) (locs : List Loc), va_P g.1 vwCl ([]) H → va_D A ([]) → va_S A s.heap H locs → ∀ ls : Array Slot, lv_has ls 1 [] → W p l e (headSpec wsJ0_isLatin1_aae02 rmJ0_isLatin1_aae02).room s m ([.ref (adK g i0)] : List Value).toArray below meth c H locs 0 0 (MQ below (qI g A ([]) r) ([.ref (adK g i0)] : List Value).toArray s 0 0 A) (F0 m 18 ls [.int t1]) := by
      intro t1 hf H locs hP hD hS ls hl
      rw [hk6] at hf
      dsimp only at hf
      clear hk6
      obtain ⟨h4, hf⟩ := gd_isB hf
      have e5 := Option.some.inj hf
      exact k_zret hx hb hr hlocks hK hP hD hS e5 h4 dJ0_isLatin1_aae02_18
    refine lv_if_eq (tgt := 17) hx hb dJ0_isLatin1_aae02_3 (by decide) (fun c7 => ?_) (fun c7 => ?_)
    · have hf := it_t hf c7
      cases hf
    · have hf := it_f hf c7
      refine lv_aload_n hx hb dJ0_isLatin1_aae02_6 rfl (lv_at hl 0 rfl) ?_
      refine vk_getf (v := .int (0 : Int32)) hx hb (hG.2.2.1.1 i0 hi0).2.1 hS hown k_7_82 (fun _ h9 => h9) dJ0_isLatin1_aae02_7 ?_
      refine lv_if_ne (tgt := 17) hx hb dJ0_isLatin1_aae02_10 (by decide) (fun c8 => ?_) (fun c8 => ?_)
      · have hf := it_f hf c8
        cases hf
      · have hf := it_t hf c8
        refine lv_iconst (v := (1 : Int32)) hx hb dJ0_isLatin1_aae02_13 (by decide) ?_
        refine lv_goto (tgt := 18) hx hb dJ0_isLatin1_aae02_14 (by decide) ?_
        exact hJ3 (1 : Int32) hf H locs hP hD hS _ (lv_sub hl [] rfl)
  rw [hH, hlo] at hW
  exact hW
def f_J0_length_8abf5 (i0 : Nat) : Option (Int32) :=
  o1 (f_J0_coder_7d493 i0) (fun (r1 : Int32) => some (((Int32.ofNat (lenS.getD i0 0)) >>> (r1 &&& 31))))
abbrev wsJ0_length_8abf5 : List Cond := .code yJ0_length_8abf5 cJ0_length_8abf5 1 (some .int) :: UW
abbrev rmJ0_length_8abf5 : Room := { frames := 1, cells := 0, slots := 0, locals := 20 }
set_option maxHeartbeats 4000000 in
set_option maxRecDepth 100000 in
theorem c_J0_length_8abf5 (l : Launch) (g : Gx) (i0 : Nat) (hi0 : i0 < 26) (r : Int32) (hf : f_J0_length_8abf5 i0 = some r) : CtI l yJ0_length_8abf5 wsJ0_length_8abf5 rmJ0_length_8abf5 g [.ref (adK g i0)] ([]) ([]) r 0 0 := by
  unfold CtI
  intro sz
  refine Met.ofW (cc := cJ0_length_8abf5) (maxL := 1) (ret := (some .int)) (by decide) rfl ?_
  intro p e s m args below meth c s₁ B hml hv
  obtain ⟨rfl, hsz, hP, hK, hD0, hG⟩ := hv
  have hx := B.exec
  have hb := B.bytes
  have hr := B.returns
  have hts := atoms_spec (ws := wsJ0_length_8abf5) B.pre
  have hown : s.vm.findClass RJ0 = some m.cls := findClass_of_methodNamed B.named
  have hlocks := B.notSynchronized
  subst hsz
  have hD := hD0.self (sz := s.heap.size)
  generalize hAe : va_A ([]) s.heap.size = A at hD hG ⊢
  have hA : ∀ q : Nat, s.heap.size ≤ q → A q := fun q h => by rw [← hAe]; exact Or.inr h
  clear hAe hD0
  have hS : va_S A s.heap s.heap [] := va_S.rf
  have hl := lv_entry ([.ref (adK g i0)]) (n := 1) (Nat.le_of_ble_eq_true rfl)
  rw [lg_entry_eq]
  generalize (lg_sl ([.ref (adK g i0)]) ++ List.replicate (1 - (lg_sl ([.ref (adK g i0)])).length) Slot.unset).toArray = ls at hl ⊢
  have hl : lv_has ls 1 [(0, .ref (adK g i0))] := hl
  have htu : ∀ w ∈ UW, w.before _ s = true := fun w h => hts w (List.mem_cons_of_mem _ h)
  have k_7_81 := htu _ mw_7_81
  unfold f_J0_length_8abf5 at hf
  obtain ⟨H, hH⟩ : ∃ z, z = s.heap := ⟨_, rfl⟩
  obtain ⟨locs, hlo⟩ : ∃ z : List Loc, z = [] := ⟨_, rfl⟩
  have hS : va_S A s.heap H locs := by rw [hH, hlo]; exact hS
  rw [← hH] at hP
  have hW : W p l e (headSpec wsJ0_length_8abf5 rmJ0_length_8abf5).room s m ([.ref (adK g i0)] : List Value).toArray below meth c H locs 0 0 (MQ below (qI g A ([]) r) ([.ref (adK g i0)] : List Value).toArray s 0 0 A) (F0 m 0 ls []) := by
    refine lv_aload_n hx hb dJ0_length_8abf5_0 rfl (lv_at hl 0 rfl) ?_
    refine vk_getf (v := .ref (adV g i0)) hx hb (hG.2.2.1.1 i0 hi0).2.2.1 hS hown k_7_81 (fun _ h9 => h9) dJ0_length_8abf5_1 ?_
    refine va_tlen (v := (Int32.ofNat (lenS.getD i0 0))) hx hb (hG.2.2.1.1 i0 hi0).2.2.2 hS rfl dJ0_length_8abf5_4 ?_
    refine lv_aload_n hx hb dJ0_length_8abf5_5 rfl (lv_at hl 0 rfl) ?_
    obtain ⟨r1, hg2, hf⟩ := o1_at hf
    refine k_viS ⟨hx, hb, hml, hown, htu⟩ hK hP hD hS hA hG (c_J0_coder_7d493 l g i0 hi0 r1 hg2) (cwV 0 htu (gU_V mw_3_215 hcJ0_coder_7d493) rfl rfl rfl hdJ0_coder_7d493 ⟨Nat.le_of_ble_eq_true rfl, Nat.le_of_ble_eq_true rfl⟩) (vk_recv hG.2.2.1 hi0 hS) (As := []) (rest := [.int (Int32.ofNat (lenS.getD i0 0))]) rfl rfl hl.1 (Nat.le_of_ble_eq_true rfl) dJ0_length_8abf5_6 (k1 := 0) (n1 := 0) rfl rfl ⟨Nat.le_refl _, Nat.le_refl _⟩ (fun H locs hP hD hS => ?_)
    refine lv_ishr hx hb dJ0_length_8abf5_9 ?_
    have e3 := Option.some.inj hf
    exact k_iret hx hb hr hlocks hK hP hD hS e3 dJ0_length_8abf5_10
  rw [hH, hlo] at hW
  exact hW
def f_J0_checkIndex_df160 (x0 : Int32) (x1 : Int32) : Option (Unit) :=
  o1 (f_J3_checkIndex_8e157_n x0 x1) (fun (r1 : Int32) => some ())
abbrev wsJ0_checkIndex_df160 : List Cond := .code yJ0_checkIndex_df160 cJ0_checkIndex_df160 2 none :: UW
abbrev rmJ0_checkIndex_df160 : Room := { frames := 1, cells := 0, slots := 0, locals := 22 }
set_option maxHeartbeats 4000000 in
set_option maxRecDepth 100000 in
theorem c_J0_checkIndex_df160 (l : Launch) (g : Gx) (x0 : Int32) (x1 : Int32) (hf : f_J0_checkIndex_df160 x0 x1 = some ()) : CtV l yJ0_checkIndex_df160 wsJ0_checkIndex_df160 rmJ0_checkIndex_df160 g [.int x0, .int x1] ([]) ([]) 0 0 := by
  unfold CtV
  intro sz
  refine Met.ofW (cc := cJ0_checkIndex_df160) (maxL := 2) (ret := none) (by decide) rfl ?_
  intro p e s m args below meth c s₁ B hml hv
  obtain ⟨rfl, hsz, hP, hK, hD0, hG⟩ := hv
  have hx := B.exec
  have hb := B.bytes
  have hr := B.returns
  have hts := atoms_spec (ws := wsJ0_checkIndex_df160) B.pre
  have hown : s.vm.findClass RJ0 = some m.cls := findClass_of_methodNamed B.named
  have hlocks := B.notSynchronized
  subst hsz
  have hD := hD0.self (sz := s.heap.size)
  generalize hAe : va_A ([]) s.heap.size = A at hD hG ⊢
  have hA : ∀ q : Nat, s.heap.size ≤ q → A q := fun q h => by rw [← hAe]; exact Or.inr h
  clear hAe hD0
  have hS : va_S A s.heap s.heap [] := va_S.rf
  have hl := lv_entry ([.int x0, .int x1]) (n := 2) (Nat.le_of_ble_eq_true rfl)
  rw [lg_entry_eq]
  generalize (lg_sl ([.int x0, .int x1]) ++ List.replicate (2 - (lg_sl ([.int x0, .int x1])).length) Slot.unset).toArray = ls at hl ⊢
  have hl : lv_has ls 2 [(0, .int x0), (1, .int x1)] := hl
  have htu : ∀ w ∈ UW, w.before _ s = true := fun w h => hts w (List.mem_cons_of_mem _ h)
  have k_3_235 := htu _ mw_3_235
  unfold f_J0_checkIndex_df160 at hf
  obtain ⟨H, hH⟩ : ∃ z, z = s.heap := ⟨_, rfl⟩
  obtain ⟨locs, hlo⟩ : ∃ z : List Loc, z = [] := ⟨_, rfl⟩
  have hS : va_S A s.heap H locs := by rw [hH, hlo]; exact hS
  rw [← hH] at hP
  have hW : W p l e (headSpec wsJ0_checkIndex_df160 rmJ0_checkIndex_df160).room s m ([.int x0, .int x1] : List Value).toArray below meth c H locs 0 0 (MQ below (qV g A ([])) ([.int x0, .int x1] : List Value).toArray s 0 0 A) (F0 m 0 ls []) := by
    refine lv_iload_n hx hb dJ0_checkIndex_df160_0 rfl (lv_at hl 0 rfl) ?_
    refine lv_iload_n hx hb dJ0_checkIndex_df160_1 rfl (lv_at hl 1 rfl) ?_
    rcases hG.2.2.2.1.2 with hZ9 | ⟨t9, hZ9⟩
    · refine va_gets (v := .null) hx hb hZ9 hS hown k_3_235 (fun _ h9 => h9) dJ0_checkIndex_df160_2 ?_
      obtain ⟨r1, hg2, hf⟩ := o1_at hf
      refine k_si0 ⟨hx, hb, hml, hown, htu⟩ hK hP hD hS hA hG (c_J3_checkIndex_8e157_n l g x0 x1 r1 hg2) (va_cwS 3 htu (gU_S mw_3_237 hcJ3_checkIndex_8e157) rfl rfl rfl hdJ3_checkIndex_8e157 ⟨Nat.le_of_ble_eq_true rfl, Nat.le_of_ble_eq_true rfl⟩) (As := [.int x0, .int x1, .null]) (rest := []) rfl rfl hl.1 (Nat.le_of_ble_eq_true rfl) dJ0_checkIndex_df160_5 (k1 := 0) (n1 := 0) rfl rfl ⟨Nat.le_refl _, Nat.le_refl _⟩ (fun H locs hP hD hS => ?_)
      refine lv_pop hx hb dJ0_checkIndex_df160_8 rfl ?_
      exact k_vret hx hb hr hlocks hK hP hD hS dJ0_checkIndex_df160_9
    · refine va_gets (v := .ref t9) hx hb hZ9 hS hown k_3_235 (fun _ h9 => h9) dJ0_checkIndex_df160_2 ?_
      obtain ⟨r1, hg2, hf⟩ := o1_at hf
      refine k_si0 ⟨hx, hb, hml, hown, htu⟩ hK hP hD hS hA hG (c_J3_checkIndex_8e157_r l g x0 x1 t9 r1 hg2) (va_cwS 3 htu (gU_S mw_3_237 hcJ3_checkIndex_8e157) rfl rfl rfl hdJ3_checkIndex_8e157 ⟨Nat.le_of_ble_eq_true rfl, Nat.le_of_ble_eq_true rfl⟩) (As := [.int x0, .int x1, .ref t9]) (rest := []) rfl rfl hl.1 (Nat.le_of_ble_eq_true rfl) dJ0_checkIndex_df160_5 (k1 := 0) (n1 := 0) rfl rfl ⟨Nat.le_refl _, Nat.le_refl _⟩ (fun H locs hP hD hS => ?_)
      refine lv_pop hx hb dJ0_checkIndex_df160_8 rfl ?_
      exact k_vret hx hb hr hlocks hK hP hD hS dJ0_checkIndex_df160_9
  rw [hH, hlo] at hW
  exact hW
def f_J1_charAt_3b067 (x1 : Int32) (i0 : Nat) : Option (Int32) :=
  o1 (f_J0_checkIndex_df160 x1 (Int32.ofNat (lenS.getD i0 0))) (fun _ => gd (inb x1 (lenS.getD i0 0)) (gd (isC (i2c (((bytS.getD i0 []).getD (x1).toNatClampNeg 0) &&& (255 : Int32)))) (some ((i2c (((bytS.getD i0 []).getD (x1).toNatClampNeg 0) &&& (255 : Int32)))))))
abbrev wsJ1_charAt_3b067 : List Cond := .code yJ1_charAt_3b067 cJ1_charAt_3b067 2 (some .char) :: UW
abbrev rmJ1_charAt_3b067 : Room := { frames := 2, cells := 0, slots := 0, locals := 43 }
set_option maxHeartbeats 4000000 in
set_option maxRecDepth 100000 in
theorem c_J1_charAt_3b067 (l : Launch) (g : Gx) (x1 : Int32) (i0 : Nat) (hi0 : i0 < 26) (r : Int32) (hf : f_J1_charAt_3b067 x1 i0 = some r) : CtI l yJ1_charAt_3b067 wsJ1_charAt_3b067 rmJ1_charAt_3b067 g [.ref (adV g i0), .int x1] ([]) ([]) r 0 0 := by
  unfold CtI
  intro sz
  refine Met.ofW (cc := cJ1_charAt_3b067) (maxL := 2) (ret := (some .char)) (by decide) rfl ?_
  intro p e s m args below meth c s₁ B hml hv
  obtain ⟨rfl, hsz, hP, hK, hD0, hG⟩ := hv
  have hx := B.exec
  have hb := B.bytes
  have hr := B.returns
  have hts := atoms_spec (ws := wsJ1_charAt_3b067) B.pre
  have hown : s.vm.findClass RJ1 = some m.cls := findClass_of_methodNamed B.named
  have hlocks := B.notSynchronized
  subst hsz
  have hD := hD0.self (sz := s.heap.size)
  generalize hAe : va_A ([]) s.heap.size = A at hD hG ⊢
  have hA : ∀ q : Nat, s.heap.size ≤ q → A q := fun q h => by rw [← hAe]; exact Or.inr h
  clear hAe hD0
  have hS : va_S A s.heap s.heap [] := va_S.rf
  have hl := lv_entry ([.ref (adV g i0), .int x1]) (n := 2) (Nat.le_of_ble_eq_true rfl)
  rw [lg_entry_eq]
  generalize (lg_sl ([.ref (adV g i0), .int x1]) ++ List.replicate (2 - (lg_sl ([.ref (adV g i0), .int x1])).length) Slot.unset).toArray = ls at hl ⊢
  have hl : lv_has ls 2 [(0, .ref (adV g i0)), (1, .int x1)] := hl
  have htu : ∀ w ∈ UW, w.before _ s = true := fun w h => hts w (List.mem_cons_of_mem _ h)
  unfold f_J1_charAt_3b067 at hf
  obtain ⟨H, hH⟩ : ∃ z, z = s.heap := ⟨_, rfl⟩
  obtain ⟨locs, hlo⟩ : ∃ z : List Loc, z = [] := ⟨_, rfl⟩
  have hS : va_S A s.heap H locs := by rw [hH, hlo]; exact hS
  rw [← hH] at hP
  have hW : W p l e (headSpec wsJ1_charAt_3b067 rmJ1_charAt_3b067).room s m ([.ref (adV g i0), .int x1] : List Value).toArray below meth c H locs 0 0 (MQ below (qI g A ([]) r) ([.ref (adV g i0), .int x1] : List Value).toArray s 0 0 A) (F0 m 0 ls []) := by
    refine lv_iload_n hx hb dJ1_charAt_3b067_0 rfl (lv_at hl 1 rfl) ?_
    refine lv_aload_n hx hb dJ1_charAt_3b067_1 rfl (lv_at hl 0 rfl) ?_
    refine va_tlen (v := (Int32.ofNat (lenS.getD i0 0))) hx hb (hG.2.2.1.1 i0 hi0).2.2.2 hS rfl dJ1_charAt_3b067_2 ?_
    obtain ⟨_, hg1, hf⟩ := o1_at hf
    refine k_sv0 ⟨hx, hb, hml, hown, htu⟩ hK hP hD hS hA hG (c_J0_checkIndex_df160 l g x1 (Int32.ofNat (lenS.getD i0 0)) hg1) (va_cwS 2 htu (gU_S mw_3_232 hcJ0_checkIndex_df160) rfl rfl rfl hdJ0_checkIndex_df160 ⟨Nat.le_of_ble_eq_true rfl, Nat.le_of_ble_eq_true rfl⟩) (As := [.int x1, .int (Int32.ofNat (lenS.getD i0 0))]) (rest := []) rfl rfl hl.1 (Nat.le_of_ble_eq_true rfl) dJ1_charAt_3b067_3 (k1 := 0) (n1 := 0) rfl rfl ⟨Nat.le_refl _, Nat.le_refl _⟩ (fun H locs hP hD hS => ?_)
    refine lv_aload_n hx hb dJ1_charAt_3b067_6 rfl (lv_at hl 0 rfl) ?_
    refine lv_iload_n hx hb dJ1_charAt_3b067_7 rfl (lv_at hl 1 rfl) ?_
    obtain ⟨h2, hf⟩ := gd_in hf
    refine va_tb (v := .int ((bytS.getD i0 []).getD (x1).toNatClampNeg 0)) hx hb (hG.2.2.1.1 i0 hi0).2.2.2 hS h2 rfl dJ1_charAt_3b067_8 ?_
    refine lv_sipush (v := (255 : Int32)) hx hb dJ1_charAt_3b067_9 (by decide) ?_
    refine lv_iand hx hb dJ1_charAt_3b067_12 ?_
    refine lv_i2c (v := (i2c (((bytS.getD i0 []).getD (x1).toNatClampNeg 0) &&& (255 : Int32)))) hx hb dJ1_charAt_3b067_13 rfl ?_
    obtain ⟨h3, hf⟩ := gd_at hf
    have e4 := Option.some.inj hf
    exact k_nret hx hb hr hlocks hK hP hD hS e4 (congrArg Value.int (of_decide_eq_true h3)) dJ1_charAt_3b067_14
  rw [hH, hlo] at hW
  exact hW
def f_J0_charAt_5068e (x1 : Int32) (i0 : Nat) : Option (Int32) :=
  o1 (f_J0_isLatin1_aae02 i0) (fun (r1 : Int32) => if r1 = 0 then none else o1 (f_J1_charAt_3b067 x1 i0) (fun (r4 : Int32) => gd (isC r4) (some (r4))))
abbrev wsJ0_charAt_5068e : List Cond := .code yJ0_charAt_5068e cJ0_charAt_5068e 2 (some .char) :: UW
abbrev rmJ0_charAt_5068e : Room := { frames := 3, cells := 0, slots := 0, locals := 64 }
set_option maxHeartbeats 4000000 in
set_option maxRecDepth 100000 in
theorem c_J0_charAt_5068e (l : Launch) (g : Gx) (x1 : Int32) (i0 : Nat) (hi0 : i0 < 26) (r : Int32) (hf : f_J0_charAt_5068e x1 i0 = some r) : CtI l yJ0_charAt_5068e wsJ0_charAt_5068e rmJ0_charAt_5068e g [.ref (adK g i0), .int x1] ([]) ([]) r 0 0 := by
  unfold CtI
  intro sz
  refine Met.ofW (cc := cJ0_charAt_5068e) (maxL := 2) (ret := (some .char)) (by decide) rfl ?_
  intro p e s m args below meth c s₁ B hml hv
  obtain ⟨rfl, hsz, hP, hK, hD0, hG⟩ := hv
  have hx := B.exec
  have hb := B.bytes
  have hr := B.returns
  have hts := atoms_spec (ws := wsJ0_charAt_5068e) B.pre
  have hown : s.vm.findClass RJ0 = some m.cls := findClass_of_methodNamed B.named
  have hlocks := B.notSynchronized
  subst hsz
  have hD := hD0.self (sz := s.heap.size)
  generalize hAe : va_A ([]) s.heap.size = A at hD hG ⊢
  have hA : ∀ q : Nat, s.heap.size ≤ q → A q := fun q h => by rw [← hAe]; exact Or.inr h
  clear hAe hD0
  have hS : va_S A s.heap s.heap [] := va_S.rf
  have hl := lv_entry ([.ref (adK g i0), .int x1]) (n := 2) (Nat.le_of_ble_eq_true rfl)
  rw [lg_entry_eq]
  generalize (lg_sl ([.ref (adK g i0), .int x1]) ++ List.replicate (2 - (lg_sl ([.ref (adK g i0), .int x1])).length) Slot.unset).toArray = ls at hl ⊢
  have hl : lv_has ls 2 [(0, .ref (adK g i0)), (1, .int x1)] := hl
  have htu : ∀ w ∈ UW, w.before _ s = true := fun w h => hts w (List.mem_cons_of_mem _ h)
  have k_7_81 := htu _ mw_7_81
  unfold f_J0_charAt_5068e at hf
  obtain ⟨H, hH⟩ : ∃ z, z = s.heap := ⟨_, rfl⟩
  obtain ⟨locs, hlo⟩ : ∃ z : List Loc, z = [] := ⟨_, rfl⟩
  have hS : va_S A s.heap H locs := by rw [hH, hlo]; exact hS
  rw [← hH] at hP
  have hW : W p l e (headSpec wsJ0_charAt_5068e rmJ0_charAt_5068e).room s m ([.ref (adK g i0), .int x1] : List Value).toArray below meth c H locs 0 0 (MQ below (qI g A ([]) r) ([.ref (adK g i0), .int x1] : List Value).toArray s 0 0 A) (F0 m 0 ls []) := by
    refine lv_aload_n hx hb dJ0_charAt_5068e_0 rfl (lv_at hl 0 rfl) ?_
    obtain ⟨r1, hg2, hf⟩ := o1_at hf
    refine k_viS ⟨hx, hb, hml, hown, htu⟩ hK hP hD hS hA hG (c_J0_isLatin1_aae02 l g i0 hi0 r1 hg2) (cwV 0 htu (gU_V mw_3_225 hcJ0_isLatin1_aae02) rfl rfl rfl hdJ0_isLatin1_aae02 ⟨Nat.le_of_ble_eq_true rfl, Nat.le_of_ble_eq_true rfl⟩) (vk_recv hG.2.2.1 hi0 hS) (As := []) (rest := []) rfl rfl hl.1 (Nat.le_of_ble_eq_true rfl) dJ0_charAt_5068e_1 (k1 := 0) (n1 := 0) rfl rfl ⟨Nat.le_refl _, Nat.le_refl _⟩ (fun H locs hP hD hS => ?_)
    refine lv_if_eq (tgt := 16) hx hb dJ0_charAt_5068e_4 (by decide) (fun c3 => ?_) (fun c3 => ?_)
    · have hf := it_t hf c3
      cases hf
    · have hf := it_f hf c3
      refine lv_aload_n hx hb dJ0_charAt_5068e_7 rfl (lv_at hl 0 rfl) ?_
      refine vk_getf (v := .ref (adV g i0)) hx hb (hG.2.2.1.1 i0 hi0).2.2.1 hS hown k_7_81 (fun _ h9 => h9) dJ0_charAt_5068e_8 ?_
      refine lv_iload_n hx hb dJ0_charAt_5068e_11 rfl (lv_at hl 1 rfl) ?_
      obtain ⟨r4, hg5, hf⟩ := o1_at hf
      refine k_si0 ⟨hx, hb, hml, hown, htu⟩ hK hP hD hS hA hG (c_J1_charAt_3b067 l g x1 i0 hi0 r4 hg5) (va_cwS 2 htu (gU_S mw_3_229 hcJ1_charAt_3b067) rfl rfl rfl hdJ1_charAt_3b067 ⟨Nat.le_of_ble_eq_true rfl, Nat.le_of_ble_eq_true rfl⟩) (As := [.ref (adV g i0), .int x1]) (rest := []) rfl rfl hl.1 (Nat.le_of_ble_eq_true rfl) dJ0_charAt_5068e_12 (k1 := 0) (n1 := 0) rfl rfl ⟨Nat.le_refl _, Nat.le_refl _⟩ (fun H locs hP hD hS => ?_)
      obtain ⟨h6, hf⟩ := gd_at hf
      have e7 := Option.some.inj hf
      exact k_nret hx hb hr hlocks hK hP hD hS e7 (congrArg Value.int (of_decide_eq_true h6)) dJ0_charAt_5068e_15
  rw [hH, hlo] at hW
  exact hW
def f_X8_thrown (vM : Vs) : Option (Int32) :=
  some ((vM.1 0))
abbrev wsX8_thrown : List Cond := .code yX8_thrown cX8_thrown 1 (some .int) :: UW
abbrev rmX8_thrown : Room := { frames := 0, cells := 0, slots := 0, locals := 0 }
set_option maxHeartbeats 4000000 in
set_option maxRecDepth 100000 in
theorem c_X8_thrown (l : Launch) (g : Gx) (bM : Nat → Nat) (vM : Vs) (r : Int32) (hf : f_X8_thrown vM = some r) : CtI l yX8_thrown wsX8_thrown rmX8_thrown g [.ref (bM 0)] (cM g bM vM) (cM g bM vM) r 0 0 := by
  unfold CtI
  intro sz
  refine Met.ofW (cc := cX8_thrown) (maxL := 1) (ret := (some .int)) (by decide) rfl ?_
  intro p e s m args below meth c s₁ B hml hv
  obtain ⟨rfl, hsz, hP, hK, hD0, hG⟩ := hv
  have hx := B.exec
  have hb := B.bytes
  have hr := B.returns
  have hts := atoms_spec (ws := wsX8_thrown) B.pre
  have hown : s.vm.findClass RX8 = some m.cls := findClass_of_methodNamed B.named
  have hlocks := B.notSynchronized
  subst hsz
  have hD := hD0.self (sz := s.heap.size)
  generalize hAe : va_A (cM g bM vM) s.heap.size = A at hD hG ⊢
  have hA : ∀ q : Nat, s.heap.size ≤ q → A q := fun q h => by rw [← hAe]; exact Or.inr h
  clear hAe hD0
  have hS : va_S A s.heap s.heap [] := va_S.rf
  have hl := lv_entry ([.ref (bM 0)]) (n := 1) (Nat.le_of_ble_eq_true rfl)
  rw [lg_entry_eq]
  generalize (lg_sl ([.ref (bM 0)]) ++ List.replicate (1 - (lg_sl ([.ref (bM 0)])).length) Slot.unset).toArray = ls at hl ⊢
  have hl : lv_has ls 1 [(0, .ref (bM 0))] := hl
  have htu : ∀ w ∈ UW, w.before _ s = true := fun w h => hts w (List.mem_cons_of_mem _ h)
  have k_5_72 := htu _ mw_5_72
  unfold f_X8_thrown at hf
  obtain ⟨H, hH⟩ : ∃ z, z = s.heap := ⟨_, rfl⟩
  obtain ⟨locs, hlo⟩ : ∃ z : List Loc, z = [] := ⟨_, rfl⟩
  have hS : va_S A s.heap H locs := by rw [hH, hlo]; exact hS
  rw [← hH] at hP
  have hW : W p l e (headSpec wsX8_thrown rmX8_thrown).room s m ([.ref (bM 0)] : List Value).toArray below meth c H locs 0 0 (MQ below (qI g A (cM g bM vM) r) ([.ref (bM 0)] : List Value).toArray s 0 0 A) (F0 m 0 ls []) := by
    refine lv_aload_n hx hb dX8_thrown_0 rfl (lv_at hl 0 rfl) ?_
    refine va_get (D := g.1) (ci := 8) (fs := fcM bM vM) (v := .int (vM.1 0)) (C := RX8) (T := TX8) (N := 23) hx hb htu hinX8 hown hK hP 0 rfl rfl 0 (by decide) k_5_72 (fun _ h9 => h9) rfl dX8_thrown_1 ?_
    have e1 := Option.some.inj hf
    exact k_iret hx hb hr hlocks hK hP hD hS e1 dX8_thrown_4
  rw [hH, hlo] at hW
  exact hW
def f_X8_isIn (x0 : Int32) (x1 : Int32) (x2 : Int32) : Option (Int32) :=
  jn (fun (t1 : Int32) => gd (isB t1) (some (t1))) (fun k2 => jn (k2 (0 : Int32)) (fun k7 => if x0 < x1 then k7 else if x2 < x0 then k7 else k2 (1 : Int32)))
abbrev wsX8_isIn : List Cond := .code yX8_isIn cX8_isIn 3 (some .boolean) :: UW
abbrev rmX8_isIn : Room := { frames := 0, cells := 0, slots := 0, locals := 0 }
set_option maxHeartbeats 4000000 in
set_option maxRecDepth 100000 in
theorem c_X8_isIn (l : Launch) (g : Gx) (x0 : Int32) (x1 : Int32) (x2 : Int32) (r : Int32) (hf : f_X8_isIn x0 x1 x2 = some r) : CtI l yX8_isIn wsX8_isIn rmX8_isIn g [.int x0, .int x1, .int x2] ([]) ([]) r 0 0 := by
  unfold CtI
  intro sz
  refine Met.ofW (cc := cX8_isIn) (maxL := 3) (ret := (some .boolean)) (by decide) rfl ?_
  intro p e s m args below meth c s₁ B hml hv
  obtain ⟨rfl, hsz, hP, hK, hD0, hG⟩ := hv
  have hx := B.exec
  have hb := B.bytes
  have hr := B.returns
  have hts := atoms_spec (ws := wsX8_isIn) B.pre
  have hown : s.vm.findClass RX8 = some m.cls := findClass_of_methodNamed B.named
  have hlocks := B.notSynchronized
  subst hsz
  have hD := hD0.self (sz := s.heap.size)
  generalize hAe : va_A ([]) s.heap.size = A at hD hG ⊢
  have hA : ∀ q : Nat, s.heap.size ≤ q → A q := fun q h => by rw [← hAe]; exact Or.inr h
  clear hAe hD0
  have hS : va_S A s.heap s.heap [] := va_S.rf
  have hl := lv_entry ([.int x0, .int x1, .int x2]) (n := 3) (Nat.le_of_ble_eq_true rfl)
  rw [lg_entry_eq]
  generalize (lg_sl ([.int x0, .int x1, .int x2]) ++ List.replicate (3 - (lg_sl ([.int x0, .int x1, .int x2])).length) Slot.unset).toArray = ls at hl ⊢
  have hl : lv_has ls 3 [(0, .int x0), (1, .int x1), (2, .int x2)] := hl
  have htu : ∀ w ∈ UW, w.before _ s = true := fun w h => hts w (List.mem_cons_of_mem _ h)
  unfold f_X8_isIn at hf
  obtain ⟨H, hH⟩ : ∃ z, z = s.heap := ⟨_, rfl⟩
  obtain ⟨locs, hlo⟩ : ∃ z : List Loc, z = [] := ⟨_, rfl⟩
  have hS : va_S A s.heap H locs := by rw [hH, hlo]; exact hS
  rw [← hH] at hP
  have hW : W p l e (headSpec wsX8_isIn rmX8_isIn).room s m ([.int x0, .int x1, .int x2] : List Value).toArray below meth c H locs 0 0 (MQ below (qI g A ([]) r) ([.int x0, .int x1, .int x2] : List Value).toArray s 0 0 A) (F0 m 0 ls []) := by
    refine lv_iload_n hx hb dX8_isIn_0 rfl (lv_at hl 0 rfl) ?_
    refine lv_iload_n hx hb dX8_isIn_1 rfl (lv_at hl 1 rfl) ?_
    obtain ⟨k2, hk6, hf⟩ := jn_at hf
    have hJ3 : ∀ (t1 : Int32), k2 t1 = some r → ∀ (H : Heap) (locs : List Loc), va_P g.1 vwCl ([]) H → va_D A ([]) → va_S A s.heap H locs → ∀ ls : Array Slot, lv_has ls 3 [] → W p l e (headSpec wsX8_isIn rmX8_isIn).room s m ([.int x0, .int x1, .int x2] : List Value).toArray below meth c H locs 0 0 (MQ below (qI g A ([]) r) ([.int x0, .int x1, .int x2] : List Value).toArray s 0 0 A) (F0 m 15 ls [.int t1]) := by
      intro t1 hf H locs hP hD hS ls hl
      rw [hk6] at hf
      dsimp only at hf
      clear hk6
      obtain ⟨h4, hf⟩ := gd_isB hf
      have e5 := Option.some.inj hf
      exact k_zret hx hb hr hlocks hK hP hD hS e5 h4 dX8_isIn_15
    obtain ⟨k7, hk9, hf⟩ := jn_at hf
    have hJ8 : k7 = some r → ∀ (H : Heap) (locs : List Loc), va_P g.1 vwCl ([]) H → va_D A ([]) → va_S A s.heap H locs → ∀ ls : Array Slot, lv_has ls 3 [] → W p l e (headSpec wsX8_isIn rmX8_isIn).room s m ([.int x0, .int x1, .int x2] : List Value).toArray below meth c H locs 0 0 (MQ below (qI g A ([]) r) ([.int x0, .int x1, .int x2] : List Value).toArray s 0 0 A) (F0 m 14 ls []) := by
      intro hf H locs hP hD hS ls hl
      rw [hk9] at hf
      clear hk9
      refine lv_iconst (v := (0 : Int32)) hx hb dX8_isIn_14 (by decide) ?_
      exact hJ3 (0 : Int32) hf H locs hP hD hS _ (lv_sub hl [] rfl)
    refine lv_icmp_lt (tgt := 14) hx hb dX8_isIn_2 (by decide) (fun c10 => ?_) (fun c10 => ?_)
    · have hf := it_t hf c10
      exact hJ8 hf H locs hP hD hS _ (lv_sub hl [] rfl)
    · have hf := it_f hf c10
      refine lv_iload_n hx hb dX8_isIn_5 rfl (lv_at hl 0 rfl) ?_
      refine lv_iload_n hx hb dX8_isIn_6 rfl (lv_at hl 2 rfl) ?_
      refine lv_icmp_gt (tgt := 14) hx hb dX8_isIn_7 (by decide) (fun c11 => ?_) (fun c11 => ?_)
      · have hf := it_t hf c11
        exact hJ8 hf H locs hP hD hS _ (lv_sub hl [] rfl)
      · have hf := it_f hf c11
        refine lv_iconst (v := (1 : Int32)) hx hb dX8_isIn_10 (by decide) ?_
        refine lv_goto (tgt := 15) hx hb dX8_isIn_11 (by decide) ?_
        exact hJ3 (1 : Int32) hf H locs hP hD hS _ (lv_sub hl [] rfl)
  rw [hH, hlo] at hW
  exact hW
def f_X8_get (vM : Vs) (x1 : Int32) : Option (Int32) :=
  gd (inb (((440 : Int32) * (vM.1 3)) + x1) 3960) (some ((vM.2.1 1 ((((440 : Int32) * (vM.1 3)) + x1)).toNatClampNeg)))
abbrev wsX8_get : List Cond := .code yX8_get cX8_get 2 (some .int) :: UW
abbrev rmX8_get : Room := { frames := 0, cells := 0, slots := 0, locals := 0 }
set_option maxHeartbeats 4000000 in
set_option maxRecDepth 100000 in
theorem c_X8_get (l : Launch) (g : Gx) (bM : Nat → Nat) (vM : Vs) (x1 : Int32) (r : Int32) (hf : f_X8_get vM x1 = some r) : CtI l yX8_get wsX8_get rmX8_get g [.ref (bM 0), .int x1] (cM g bM vM) (cM g bM vM) r 0 0 := by
  unfold CtI
  intro sz
  refine Met.ofW (cc := cX8_get) (maxL := 2) (ret := (some .int)) (by decide) rfl ?_
  intro p e s m args below meth c s₁ B hml hv
  obtain ⟨rfl, hsz, hP, hK, hD0, hG⟩ := hv
  have hx := B.exec
  have hb := B.bytes
  have hr := B.returns
  have hts := atoms_spec (ws := wsX8_get) B.pre
  have hown : s.vm.findClass RX8 = some m.cls := findClass_of_methodNamed B.named
  have hlocks := B.notSynchronized
  subst hsz
  have hD := hD0.self (sz := s.heap.size)
  generalize hAe : va_A (cM g bM vM) s.heap.size = A at hD hG ⊢
  have hA : ∀ q : Nat, s.heap.size ≤ q → A q := fun q h => by rw [← hAe]; exact Or.inr h
  clear hAe hD0
  have hS : va_S A s.heap s.heap [] := va_S.rf
  have hl := lv_entry ([.ref (bM 0), .int x1]) (n := 2) (Nat.le_of_ble_eq_true rfl)
  rw [lg_entry_eq]
  generalize (lg_sl ([.ref (bM 0), .int x1]) ++ List.replicate (2 - (lg_sl ([.ref (bM 0), .int x1])).length) Slot.unset).toArray = ls at hl ⊢
  have hl : lv_has ls 2 [(0, .ref (bM 0)), (1, .int x1)] := hl
  have htu : ∀ w ∈ UW, w.before _ s = true := fun w h => hts w (List.mem_cons_of_mem _ h)
  have k_5_73 := htu _ mw_5_73
  have k_5_75 := htu _ mw_5_75
  unfold f_X8_get at hf
  obtain ⟨H, hH⟩ : ∃ z, z = s.heap := ⟨_, rfl⟩
  obtain ⟨locs, hlo⟩ : ∃ z : List Loc, z = [] := ⟨_, rfl⟩
  have hS : va_S A s.heap H locs := by rw [hH, hlo]; exact hS
  rw [← hH] at hP
  have hW : W p l e (headSpec wsX8_get rmX8_get).room s m ([.ref (bM 0), .int x1] : List Value).toArray below meth c H locs 0 0 (MQ below (qI g A (cM g bM vM) r) ([.ref (bM 0), .int x1] : List Value).toArray s 0 0 A) (F0 m 0 ls []) := by
    refine lv_aload_n hx hb dX8_get_0 rfl (lv_at hl 0 rfl) ?_
    refine va_get (D := g.1) (ci := 8) (fs := fcM bM vM) (v := .ref (bM 2)) (C := RX8) (T := TX8) (N := 23) hx hb htu hinX8 hown hK hP 0 rfl rfl 1 (by decide) k_5_73 (fun _ h9 => h9) rfl dX8_get_1 ?_
    refine lv_sipush (v := (440 : Int32)) hx hb dX8_get_4 (by decide) ?_
    refine lv_aload_n hx hb dX8_get_7 rfl (lv_at hl 0 rfl) ?_
    refine va_get (D := g.1) (ci := 8) (fs := fcM bM vM) (v := .int (vM.1 3)) (C := RX8) (T := TX8) (N := 23) hx hb htu hinX8 hown hK hP 0 rfl rfl 3 (by decide) k_5_75 (fun _ h9 => h9) rfl dX8_get_8 ?_
    refine lv_imul hx hb dX8_get_11 ?_
    refine lv_iload_n hx hb dX8_get_12 rfl (lv_at hl 1 rfl) ?_
    refine lv_iadd hx hb dX8_get_13 ?_
    obtain ⟨h1, hf⟩ := gd_in hf
    refine va_iald (D := g.1) (f := (vM.2.1 1)) hx hb hK hP 1 0 rfl rfl h1 dX8_get_14 ?_
    have e2 := Option.some.inj hf
    exact k_iret hx hb hr hlocks hK hP hD hS e2 dX8_get_15
  rw [hH, hlo] at hW
  exact hW
def f_X8_put (vM : Vs) (x1 : Int32) (x2 : Int32) : Option (Vs) :=
  gd (inb (((440 : Int32) * (vM.1 3)) + x1) 3960) (bn (sI vM 1 ((((440 : Int32) * (vM.1 3)) + x1)).toNatClampNeg x2) (fun (vM_2 : Vs) => some (vM_2)))
abbrev wsX8_put : List Cond := .code yX8_put cX8_put 3 none :: UW
abbrev rmX8_put : Room := { frames := 0, cells := 0, slots := 0, locals := 0 }
set_option maxHeartbeats 4000000 in
set_option maxRecDepth 100000 in
theorem c_X8_put (l : Launch) (g : Gx) (bM : Nat → Nat) (vM : Vs) (x1 : Int32) (x2 : Int32) (vM1 : Vs) (hf : f_X8_put vM x1 x2 = some vM1) : CtV l yX8_put wsX8_put rmX8_put g [.ref (bM 0), .int x1, .int x2] (cM g bM vM) (cM g bM vM1) 0 0 := by
  unfold CtV
  intro sz
  refine Met.ofW (cc := cX8_put) (maxL := 3) (ret := none) (by decide) rfl ?_
  intro p e s m args below meth c s₁ B hml hv
  obtain ⟨rfl, hsz, hP, hK, hD0, hG⟩ := hv
  have hx := B.exec
  have hb := B.bytes
  have hr := B.returns
  have hts := atoms_spec (ws := wsX8_put) B.pre
  have hown : s.vm.findClass RX8 = some m.cls := findClass_of_methodNamed B.named
  have hlocks := B.notSynchronized
  subst hsz
  have hD := hD0.self (sz := s.heap.size)
  generalize hAe : va_A (cM g bM vM) s.heap.size = A at hD hG ⊢
  have hA : ∀ q : Nat, s.heap.size ≤ q → A q := fun q h => by rw [← hAe]; exact Or.inr h
  clear hAe hD0
  have hS : va_S A s.heap s.heap [] := va_S.rf
  have hl := lv_entry ([.ref (bM 0), .int x1, .int x2]) (n := 3) (Nat.le_of_ble_eq_true rfl)
  rw [lg_entry_eq]
  generalize (lg_sl ([.ref (bM 0), .int x1, .int x2]) ++ List.replicate (3 - (lg_sl ([.ref (bM 0), .int x1, .int x2])).length) Slot.unset).toArray = ls at hl ⊢
  have hl : lv_has ls 3 [(0, .ref (bM 0)), (1, .int x1), (2, .int x2)] := hl
  have htu : ∀ w ∈ UW, w.before _ s = true := fun w h => hts w (List.mem_cons_of_mem _ h)
  have k_5_73 := htu _ mw_5_73
  have k_5_75 := htu _ mw_5_75
  unfold f_X8_put at hf
  obtain ⟨H, hH⟩ : ∃ z, z = s.heap := ⟨_, rfl⟩
  obtain ⟨locs, hlo⟩ : ∃ z : List Loc, z = [] := ⟨_, rfl⟩
  have hS : va_S A s.heap H locs := by rw [hH, hlo]; exact hS
  rw [← hH] at hP
  have hW : W p l e (headSpec wsX8_put rmX8_put).room s m ([.ref (bM 0), .int x1, .int x2] : List Value).toArray below meth c H locs 0 0 (MQ below (qV g A (cM g bM vM1)) ([.ref (bM 0), .int x1, .int x2] : List Value).toArray s 0 0 A) (F0 m 0 ls []) := by
    refine lv_aload_n hx hb dX8_put_0 rfl (lv_at hl 0 rfl) ?_
    refine va_get (D := g.1) (ci := 8) (fs := fcM bM vM) (v := .ref (bM 2)) (C := RX8) (T := TX8) (N := 23) hx hb htu hinX8 hown hK hP 0 rfl rfl 1 (by decide) k_5_73 (fun _ h9 => h9) rfl dX8_put_1 ?_
    refine lv_sipush (v := (440 : Int32)) hx hb dX8_put_4 (by decide) ?_
    refine lv_aload_n hx hb dX8_put_7 rfl (lv_at hl 0 rfl) ?_
    refine va_get (D := g.1) (ci := 8) (fs := fcM bM vM) (v := .int (vM.1 3)) (C := RX8) (T := TX8) (N := 23) hx hb htu hinX8 hown hK hP 0 rfl rfl 3 (by decide) k_5_75 (fun _ h9 => h9) rfl dX8_put_8 ?_
    refine lv_imul hx hb dX8_put_11 ?_
    refine lv_iload_n hx hb dX8_put_12 rfl (lv_at hl 1 rfl) ?_
    refine lv_iadd hx hb dX8_put_13 ?_
    refine lv_iload_n hx hb dX8_put_14 rfl (lv_at hl 2 rfl) ?_
    obtain ⟨h1, hf⟩ := gd_in hf
    refine va_iast (D := g.1) (f := (vM.2.1 1)) hx hb hK hP hD hS 1 0 rfl rfl h1 dX8_put_15 (fun H locs hP hD hS => ?_)
    obtain ⟨vM_2, evM_2⟩ : ∃ z, z = sI vM 1 ((((440 : Int32) * (vM.1 3)) + x1)).toNatClampNeg x2 := ⟨_, rfl⟩
    have hf := bn_at hf evM_2
    have hP : va_P g.1 vwCl (cM g bM vM_2) H := by rw [evM_2]; exact hP
    have hD : va_D A (cM g bM vM_2) := by rw [evM_2]; exact hD
    have e3 := Option.some.inj hf
    rw [e3] at hP hD
    exact k_vret hx hb hr hlocks hK hP hD hS dX8_put_16
  rw [hH, hlo] at hW
  exact hW
def f_X8_change_L12 (y2 : Int32) (self5 : Int32 → Vs → Option (Vs)) (x2_3 : Int32) (vM_4 : Vs) : Option (Vs) :=
  if (440 : Int32) ≤ x2_3 then bn (sF vM_4 3 y2) (fun (vM_9 : Vs) => jn (fun (t10 : Int32) => bn (sF vM_9 4 t10) (fun (vM_13 : Vs) => some (vM_13))) (fun k11 => if (8 : Int32) ≤ (vM_9.1 4) then k11 (vM_9.1 4) else k11 ((vM_9.1 4) + (1 : Int32)))) else o1 (f_X8_get vM_4 x2_3) (fun (r17 : Int32) => gd (inb (((440 : Int32) * y2) + x2_3) 3960) (bn (sI vM_4 1 ((((440 : Int32) * y2) + x2_3)).toNatClampNeg r17) (fun (vM_20 : Vs) => self5 (x2_3 + (1 : Int32)) vM_20)))
def f_X8_change (vM : Vs) : Option (Vs) :=
  gd (nz (9 : Int32)) (bn ((((vM.1 3) + (1 : Int32)) - ((vM.1 3) + (1 : Int32)) / (9 : Int32) * (9 : Int32))) (fun (y2 : Int32) => lp (f_X8_change_L12 y2) (fun _ _ => none) FU (0 : Int32) vM))
abbrev wsX8_change : List Cond := .code yX8_change cX8_change 3 none :: UW
abbrev rmX8_change : Room := { frames := 1, cells := 0, slots := 0, locals := 21 }
set_option maxHeartbeats 4000000 in
set_option maxRecDepth 100000 in
theorem c_X8_change (l : Launch) (g : Gx) (bM : Nat → Nat) (vM : Vs) (vM1 : Vs) (hf : f_X8_change vM = some vM1) : CtV l yX8_change wsX8_change rmX8_change g [.ref (bM 0)] (cM g bM vM) (cM g bM vM1) 0 0 := by
  unfold CtV
  intro sz
  refine Met.ofW (cc := cX8_change) (maxL := 3) (ret := none) (by decide) rfl ?_
  intro p e s m args below meth c s₁ B hml hv
  obtain ⟨rfl, hsz, hP, hK, hD0, hG⟩ := hv
  have hx := B.exec
  have hb := B.bytes
  have hr := B.returns
  have hts := atoms_spec (ws := wsX8_change) B.pre
  have hown : s.vm.findClass RX8 = some m.cls := findClass_of_methodNamed B.named
  have hlocks := B.notSynchronized
  subst hsz
  have hD := hD0.self (sz := s.heap.size)
  generalize hAe : va_A (cM g bM vM) s.heap.size = A at hD hG ⊢
  have hA : ∀ q : Nat, s.heap.size ≤ q → A q := fun q h => by rw [← hAe]; exact Or.inr h
  clear hAe hD0
  have hS : va_S A s.heap s.heap [] := va_S.rf
  have hl := lv_entry ([.ref (bM 0)]) (n := 3) (Nat.le_of_ble_eq_true rfl)
  rw [lg_entry_eq]
  generalize (lg_sl ([.ref (bM 0)]) ++ List.replicate (3 - (lg_sl ([.ref (bM 0)])).length) Slot.unset).toArray = ls at hl ⊢
  have hl : lv_has ls 3 [(0, .ref (bM 0))] := hl
  have htu : ∀ w ∈ UW, w.before _ s = true := fun w h => hts w (List.mem_cons_of_mem _ h)
  have k_5_75 := htu _ mw_5_75
  have k_5_76 := htu _ mw_5_76
  have k_5_73 := htu _ mw_5_73
  unfold f_X8_change at hf
  obtain ⟨H, hH⟩ : ∃ z, z = s.heap := ⟨_, rfl⟩
  obtain ⟨locs, hlo⟩ : ∃ z : List Loc, z = [] := ⟨_, rfl⟩
  have hS : va_S A s.heap H locs := by rw [hH, hlo]; exact hS
  rw [← hH] at hP
  have hW : W p l e (headSpec wsX8_change rmX8_change).room s m ([.ref (bM 0)] : List Value).toArray below meth c H locs 0 0 (MQ below (qV g A (cM g bM vM1)) ([.ref (bM 0)] : List Value).toArray s 0 0 A) (F0 m 0 ls []) := by
    refine lv_aload_n hx hb dX8_change_0 rfl (lv_at hl 0 rfl) ?_
    refine va_get (D := g.1) (ci := 8) (fs := fcM bM vM) (v := .int (vM.1 3)) (C := RX8) (T := TX8) (N := 23) hx hb htu hinX8 hown hK hP 0 rfl rfl 3 (by decide) k_5_75 (fun _ h9 => h9) rfl dX8_change_1 ?_
    refine lv_iconst (v := (1 : Int32)) hx hb dX8_change_4 (by decide) ?_
    refine lv_iadd hx hb dX8_change_5 ?_
    refine lv_bipush (v := (9 : Int32)) hx hb dX8_change_6 (by decide) ?_
    obtain ⟨h1, hf⟩ := gd_nz hf
    refine lv_irem hx hb dX8_change_8 h1 ?_
    refine lv_topi (fun y2 ey2 => ?_)
    have hf := bn_at hf ey2
    refine lv_istore_n (lv' := [(1, .int y2), (0, .ref (bM 0))]) hx hb dX8_change_9 rfl hl (by decide) rfl (fun ls hl => ?_)
    refine lv_iconst (v := (0 : Int32)) hx hb dX8_change_10 (by decide) ?_
    refine lv_istore_n (lv' := [(2, .int (0 : Int32)), (1, .int y2), (0, .ref (bM 0))]) hx hb dX8_change_11 rfl hl (by decide) rfl (fun ls hl => ?_)
    have hL6 : ∀ (x2_3 : Int32) (vM_4 : Vs), lp (f_X8_change_L12 y2) (fun _ _ => none) FU x2_3 vM_4 = some vM1 → ∀ (H : Heap) (locs : List Loc), va_P g.1 vwCl (cM g bM vM_4) H → va_D A (cM g bM vM_4) → va_S A s.heap H locs → ∀ ls : Array Slot, lv_has ls 3 [(0, .ref (bM 0)), (1, .int y2), (2, .int x2_3)] → W p l e (headSpec wsX8_change rmX8_change).room s m ([.ref (bM 0)] : List Value).toArray below meth c H locs 0 0 (MQ below (qV g A (cM g bM vM1)) ([.ref (bM 0)] : List Value).toArray s 0 0 A) (F0 m 12 ls []) := by
      refine lp_ind (T := Int32 → Vs → Option (Vs)) (fun self5 => ∀ (x2_3 : Int32) (vM_4 : Vs), self5 x2_3 vM_4 = some vM1 → ∀ (H : Heap) (locs : List Loc), va_P g.1 vwCl (cM g bM vM_4) H → va_D A (cM g bM vM_4) → va_S A s.heap H locs → ∀ ls : Array Slot, lv_has ls 3 [(0, .ref (bM 0)), (1, .int y2), (2, .int x2_3)] → W p l e (headSpec wsX8_change rmX8_change).room s m ([.ref (bM 0)] : List Value).toArray below meth c H locs 0 0 (MQ below (qV g A (cM g bM vM1)) ([.ref (bM 0)] : List Value).toArray s 0 0 A) (F0 m 12 ls [])) ?_ ?_ FU
      · intro x2_3 vM_4 hf; cases hf
      · intro self5 ih7 x2_3 vM_4 hf H locs hP hD hS ls hl
        unfold f_X8_change_L12 at hf
        refine lv_iload_n hx hb dX8_change_12 rfl (lv_at hl 2 rfl) ?_
        refine lv_sipush (v := (440 : Int32)) hx hb dX8_change_13 (by decide) ?_
        refine lv_icmp_ge (tgt := 42) hx hb dX8_change_16 (by decide) (fun c8 => ?_) (fun c8 => ?_)
        · have hf := it_t hf c8
          refine lv_aload_n hx hb dX8_change_42 rfl (lv_at hl 0 rfl) ?_
          refine lv_iload_n hx hb dX8_change_43 rfl (lv_at hl 1 rfl) ?_
          refine va_put (D := g.1) (ci := 8) (fs := fcM bM vM_4) (v := .int y2) (ty := .int) (C := RX8) (T := TX8) (N := 23) hx hb htu hinX8 tyX8 tyX8_ok nmX8 hown hK hP hD hS 0 rfl rfl 3 (by decide) k_5_75 (fun _ h9 => h9) rfl (by decide +kernel) rfl rfl (Nat.le_of_ble_eq_true rfl) dX8_change_44 (fun H locs hP hD hS => ?_)
          obtain ⟨vM_9, evM_9⟩ : ∃ z, z = sF vM_4 3 y2 := ⟨_, rfl⟩
          have hf := bn_at hf evM_9
          have hP : va_P g.1 vwCl (cM g bM vM_9) H := by rw [evM_9]; exact hP
          have hD : va_D A (cM g bM vM_9) := by rw [evM_9]; exact hD
          refine lv_aload_n hx hb dX8_change_47 rfl (lv_at hl 0 rfl) ?_
          refine lv_aload_n hx hb dX8_change_48 rfl (lv_at hl 0 rfl) ?_
          refine va_get (D := g.1) (ci := 8) (fs := fcM bM vM_9) (v := .int (vM_9.1 4)) (C := RX8) (T := TX8) (N := 23) hx hb htu hinX8 hown hK hP 0 rfl rfl 4 (by decide) k_5_76 (fun _ h9 => h9) rfl dX8_change_49 ?_
          refine lv_bipush (v := (8 : Int32)) hx hb dX8_change_52 (by decide) ?_
          obtain ⟨k11, hk15, hf⟩ := jn_at hf
          have hJ12 : ∀ (t10 : Int32), k11 t10 = some vM1 → ∀ (H : Heap) (locs : List Loc), va_P g.1 vwCl (cM g bM vM_9) H → va_D A (cM g bM vM_9) → va_S A s.heap H locs → ∀ ls : Array Slot, lv_has ls 3 [] → W p l e (headSpec wsX8_change rmX8_change).room s m ([.ref (bM 0)] : List Value).toArray below meth c H locs 0 0 (MQ below (qV g A (cM g bM vM1)) ([.ref (bM 0)] : List Value).toArray s 0 0 A) (F0 m 70 ls [.int t10, .ref (bM 0)]) := by
            intro t10 hf H locs hP hD hS ls hl
            rw [hk15] at hf
            dsimp only at hf
            clear hk15
            refine va_put (D := g.1) (ci := 8) (fs := fcM bM vM_9) (v := .int t10) (ty := .int) (C := RX8) (T := TX8) (N := 23) hx hb htu hinX8 tyX8 tyX8_ok nmX8 hown hK hP hD hS 0 rfl rfl 4 (by decide) k_5_76 (fun _ h9 => h9) rfl (by decide +kernel) rfl rfl (Nat.le_of_ble_eq_true rfl) dX8_change_70 (fun H locs hP hD hS => ?_)
            obtain ⟨vM_13, evM_13⟩ : ∃ z, z = sF vM_9 4 t10 := ⟨_, rfl⟩
            have hf := bn_at hf evM_13
            have hP : va_P g.1 vwCl (cM g bM vM_13) H := by rw [evM_13]; exact hP
            have hD : va_D A (cM g bM vM_13) := by rw [evM_13]; exact hD
            have e14 := Option.some.inj hf
            rw [e14] at hP hD
            exact k_vret hx hb hr hlocks hK hP hD hS dX8_change_73
          refine lv_icmp_ge (tgt := 66) hx hb dX8_change_54 (by decide) (fun c16 => ?_) (fun c16 => ?_)
          · have hf := it_t hf c16
            refine lv_aload_n hx hb dX8_change_66 rfl (lv_at hl 0 rfl) ?_
            refine va_get (D := g.1) (ci := 8) (fs := fcM bM vM_9) (v := .int (vM_9.1 4)) (C := RX8) (T := TX8) (N := 23) hx hb htu hinX8 hown hK hP 0 rfl rfl 4 (by decide) k_5_76 (fun _ h9 => h9) rfl dX8_change_67 ?_
            exact hJ12 (vM_9.1 4) hf H locs hP hD hS _ (lv_sub hl [] rfl)
          · have hf := it_f hf c16
            refine lv_aload_n hx hb dX8_change_57 rfl (lv_at hl 0 rfl) ?_
            refine va_get (D := g.1) (ci := 8) (fs := fcM bM vM_9) (v := .int (vM_9.1 4)) (C := RX8) (T := TX8) (N := 23) hx hb htu hinX8 hown hK hP 0 rfl rfl 4 (by decide) k_5_76 (fun _ h9 => h9) rfl dX8_change_58 ?_
            refine lv_iconst (v := (1 : Int32)) hx hb dX8_change_61 (by decide) ?_
            refine lv_iadd hx hb dX8_change_62 ?_
            refine lv_goto (tgt := 70) hx hb dX8_change_63 (by decide) ?_
            exact hJ12 ((vM_9.1 4) + (1 : Int32)) hf H locs hP hD hS _ (lv_sub hl [] rfl)
        · have hf := it_f hf c8
          refine lv_aload_n hx hb dX8_change_19 rfl (lv_at hl 0 rfl) ?_
          refine va_get (D := g.1) (ci := 8) (fs := fcM bM vM_4) (v := .ref (bM 2)) (C := RX8) (T := TX8) (N := 23) hx hb htu hinX8 hown hK hP 0 rfl rfl 1 (by decide) k_5_73 (fun _ h9 => h9) rfl dX8_change_20 ?_
          refine lv_sipush (v := (440 : Int32)) hx hb dX8_change_23 (by decide) ?_
          refine lv_iload_n hx hb dX8_change_26 rfl (lv_at hl 1 rfl) ?_
          refine lv_imul hx hb dX8_change_27 ?_
          refine lv_iload_n hx hb dX8_change_28 rfl (lv_at hl 2 rfl) ?_
          refine lv_iadd hx hb dX8_change_29 ?_
          refine lv_aload_n hx hb dX8_change_30 rfl (lv_at hl 0 rfl) ?_
          refine lv_iload_n hx hb dX8_change_31 rfl (lv_at hl 2 rfl) ?_
          obtain ⟨r17, hg18, hf⟩ := o1_at hf
          refine k_viW ⟨hx, hb, hml, hown, htu⟩ hK hP hD hS hA hG (c_X8_get l g bM vM_4 x2_3 r17 hg18) (cwV 1 htu (gU_V mw_6_20 hcX8_get) rfl rfl rfl hdX8_get ⟨Nat.le_of_ble_eq_true rfl, Nat.le_of_ble_eq_true rfl⟩) (q0 := 0) (ci := 8) (fs := fcM bM vM_4) (q := (RX8, TX8, 23)) rfl rfl rfl (As := [.int x2_3]) (rest := [.int (((440 : Int32) * y2) + x2_3), .ref (bM 2)]) rfl rfl hl.1 (Nat.le_of_ble_eq_true rfl) dX8_change_32 (k1 := 0) (n1 := 0) rfl rfl ⟨Nat.le_refl _, Nat.le_refl _⟩ (fun H locs hP hD hS => ?_)
          obtain ⟨h19, hf⟩ := gd_in hf
          refine va_iast (D := g.1) (f := (vM_4.2.1 1)) hx hb hK hP hD hS 1 0 rfl rfl h19 dX8_change_35 (fun H locs hP hD hS => ?_)
          obtain ⟨vM_20, evM_20⟩ : ∃ z, z = sI vM_4 1 ((((440 : Int32) * y2) + x2_3)).toNatClampNeg r17 := ⟨_, rfl⟩
          have hf := bn_at hf evM_20
          have hP : va_P g.1 vwCl (cM g bM vM_20) H := by rw [evM_20]; exact hP
          have hD : va_D A (cM g bM vM_20) := by rw [evM_20]; exact hD
          refine lv_iinc (v := (x2_3 + (1 : Int32))) (lv' := [(2, .int (x2_3 + (1 : Int32))), (0, .ref (bM 0)), (1, .int y2)]) hx hb dX8_change_36 hl (k := 2) rfl rfl (by decide) rfl (fun ls hl => ?_)
          refine lv_goto (tgt := 12) hx hb dX8_change_39 (by decide) ?_
          exact ih7 (x2_3 + (1 : Int32)) vM_20 hf H locs hP hD hS _ (lv_sub hl [1, 2, 0] rfl)
    exact hL6 (0 : Int32) vM hf H locs hP hD hS _ (lv_sub hl [2, 1, 0] rfl)
  rw [hH, hlo] at hW
  exact hW
def f_X8_right (vM : Vs) (x1 : Int32) (x2 : Int32) : Option (Int32 × Vs) :=
  jn (fun (vM_1 : Vs) => jn (fun (t4 : Int32) => gd (isB t4) (some (t4, vM_1))) (fun k5 => if (vM_1.1 0) = 0 then k5 (1 : Int32) else k5 (0 : Int32))) (fun k2 => if (vM.1 0) = 0 then if x1 = 0 then bn (sF vM 0 x2) (fun (vM_15 : Vs) => k2 vM_15) else k2 vM else k2 vM)
abbrev wsX8_right : List Cond := .code yX8_right cX8_right 3 (some .boolean) :: UW
abbrev rmX8_right : Room := { frames := 0, cells := 0, slots := 0, locals := 0 }
set_option maxHeartbeats 4000000 in
set_option maxRecDepth 100000 in
theorem c_X8_right (l : Launch) (g : Gx) (bM : Nat → Nat) (vM : Vs) (x1 : Int32) (x2 : Int32) (r : Int32) (vM1 : Vs) (hf : f_X8_right vM x1 x2 = some (r, vM1)) : CtI l yX8_right wsX8_right rmX8_right g [.ref (bM 0), .int x1, .int x2] (cM g bM vM) (cM g bM vM1) r 0 0 := by
  unfold CtI
  intro sz
  refine Met.ofW (cc := cX8_right) (maxL := 3) (ret := (some .boolean)) (by decide) rfl ?_
  intro p e s m args below meth c s₁ B hml hv
  obtain ⟨rfl, hsz, hP, hK, hD0, hG⟩ := hv
  have hx := B.exec
  have hb := B.bytes
  have hr := B.returns
  have hts := atoms_spec (ws := wsX8_right) B.pre
  have hown : s.vm.findClass RX8 = some m.cls := findClass_of_methodNamed B.named
  have hlocks := B.notSynchronized
  subst hsz
  have hD := hD0.self (sz := s.heap.size)
  generalize hAe : va_A (cM g bM vM) s.heap.size = A at hD hG ⊢
  have hA : ∀ q : Nat, s.heap.size ≤ q → A q := fun q h => by rw [← hAe]; exact Or.inr h
  clear hAe hD0
  have hS : va_S A s.heap s.heap [] := va_S.rf
  have hl := lv_entry ([.ref (bM 0), .int x1, .int x2]) (n := 3) (Nat.le_of_ble_eq_true rfl)
  rw [lg_entry_eq]
  generalize (lg_sl ([.ref (bM 0), .int x1, .int x2]) ++ List.replicate (3 - (lg_sl ([.ref (bM 0), .int x1, .int x2])).length) Slot.unset).toArray = ls at hl ⊢
  have hl : lv_has ls 3 [(0, .ref (bM 0)), (1, .int x1), (2, .int x2)] := hl
  have htu : ∀ w ∈ UW, w.before _ s = true := fun w h => hts w (List.mem_cons_of_mem _ h)
  have k_5_72 := htu _ mw_5_72
  unfold f_X8_right at hf
  obtain ⟨H, hH⟩ : ∃ z, z = s.heap := ⟨_, rfl⟩
  obtain ⟨locs, hlo⟩ : ∃ z : List Loc, z = [] := ⟨_, rfl⟩
  have hS : va_S A s.heap H locs := by rw [hH, hlo]; exact hS
  rw [← hH] at hP
  have hW : W p l e (headSpec wsX8_right rmX8_right).room s m ([.ref (bM 0), .int x1, .int x2] : List Value).toArray below meth c H locs 0 0 (MQ below (qI g A (cM g bM vM1) r) ([.ref (bM 0), .int x1, .int x2] : List Value).toArray s 0 0 A) (F0 m 0 ls []) := by
    refine lv_aload_n hx hb dX8_right_0 rfl (lv_at hl 0 rfl) ?_
    refine va_get (D := g.1) (ci := 8) (fs := fcM bM vM) (v := .int (vM.1 0)) (C := RX8) (T := TX8) (N := 23) hx hb htu hinX8 hown hK hP 0 rfl rfl 0 (by decide) k_5_72 (fun _ h9 => h9) rfl dX8_right_1 ?_
    obtain ⟨k2, hk12, hf⟩ := jn_at hf
    have hJ3 : ∀ (vM_1 : Vs), k2 vM_1 = some (r, vM1) → ∀ (H : Heap) (locs : List Loc), va_P g.1 vwCl (cM g bM vM_1) H → va_D A (cM g bM vM_1) → va_S A s.heap H locs → ∀ ls : Array Slot, lv_has ls 3 [(0, .ref (bM 0))] → W p l e (headSpec wsX8_right rmX8_right).room s m ([.ref (bM 0), .int x1, .int x2] : List Value).toArray below meth c H locs 0 0 (MQ below (qI g A (cM g bM vM1) r) ([.ref (bM 0), .int x1, .int x2] : List Value).toArray s 0 0 A) (F0 m 16 ls []) := by
      intro vM_1 hf H locs hP hD hS ls hl
      rw [hk12] at hf
      dsimp only at hf
      clear hk12
      refine lv_aload_n hx hb dX8_right_16 rfl (lv_at hl 0 rfl) ?_
      refine va_get (D := g.1) (ci := 8) (fs := fcM bM vM_1) (v := .int (vM_1.1 0)) (C := RX8) (T := TX8) (N := 23) hx hb htu hinX8 hown hK hP 0 rfl rfl 0 (by decide) k_5_72 (fun _ h9 => h9) rfl dX8_right_17 ?_
      obtain ⟨k5, hk10, hf⟩ := jn_at hf
      have hJ6 : ∀ (t4 : Int32), k5 t4 = some (r, vM1) → ∀ (H : Heap) (locs : List Loc), va_P g.1 vwCl (cM g bM vM_1) H → va_D A (cM g bM vM_1) → va_S A s.heap H locs → ∀ ls : Array Slot, lv_has ls 3 [] → W p l e (headSpec wsX8_right rmX8_right).room s m ([.ref (bM 0), .int x1, .int x2] : List Value).toArray below meth c H locs 0 0 (MQ below (qI g A (cM g bM vM1) r) ([.ref (bM 0), .int x1, .int x2] : List Value).toArray s 0 0 A) (F0 m 28 ls [.int t4]) := by
        intro t4 hf H locs hP hD hS ls hl
        rw [hk10] at hf
        dsimp only at hf
        clear hk10
        obtain ⟨h7, hf⟩ := gd_isB hf
        obtain ⟨e8, e9⟩ := kp_2 hf
        rw [e9] at hP hD
        exact k_zret hx hb hr hlocks hK hP hD hS e8 h7 dX8_right_28
      refine lv_if_ne (tgt := 27) hx hb dX8_right_20 (by decide) (fun c11 => ?_) (fun c11 => ?_)
      · have hf := it_f hf c11
        refine lv_iconst (v := (0 : Int32)) hx hb dX8_right_27 (by decide) ?_
        exact hJ6 (0 : Int32) hf H locs hP hD hS _ (lv_sub hl [] rfl)
      · have hf := it_t hf c11
        refine lv_iconst (v := (1 : Int32)) hx hb dX8_right_23 (by decide) ?_
        refine lv_goto (tgt := 28) hx hb dX8_right_24 (by decide) ?_
        exact hJ6 (1 : Int32) hf H locs hP hD hS _ (lv_sub hl [] rfl)
    refine lv_if_ne (tgt := 16) hx hb dX8_right_4 (by decide) (fun c13 => ?_) (fun c13 => ?_)
    · have hf := it_f hf c13
      exact hJ3 vM hf H locs hP hD hS _ (lv_sub hl [0] rfl)
    · have hf := it_t hf c13
      refine lv_iload_n hx hb dX8_right_7 rfl (lv_at hl 1 rfl) ?_
      refine lv_if_ne (tgt := 16) hx hb dX8_right_8 (by decide) (fun c14 => ?_) (fun c14 => ?_)
      · have hf := it_f hf c14
        exact hJ3 vM hf H locs hP hD hS _ (lv_sub hl [0] rfl)
      · have hf := it_t hf c14
        refine lv_aload_n hx hb dX8_right_11 rfl (lv_at hl 0 rfl) ?_
        refine lv_iload_n hx hb dX8_right_12 rfl (lv_at hl 2 rfl) ?_
        refine va_put (D := g.1) (ci := 8) (fs := fcM bM vM) (v := .int x2) (ty := .int) (C := RX8) (T := TX8) (N := 23) hx hb htu hinX8 tyX8 tyX8_ok nmX8 hown hK hP hD hS 0 rfl rfl 0 (by decide) k_5_72 (fun _ h9 => h9) rfl (by decide +kernel) rfl rfl (Nat.le_of_ble_eq_true rfl) dX8_right_13 (fun H locs hP hD hS => ?_)
        obtain ⟨vM_15, evM_15⟩ : ∃ z, z = sF vM 0 x2 := ⟨_, rfl⟩
        have hf := bn_at hf evM_15
        have hP : va_P g.1 vwCl (cM g bM vM_15) H := by rw [evM_15]; exact hP
        have hD : va_D A (cM g bM vM_15) := by rw [evM_15]; exact hD
        exact hJ3 vM_15 hf H locs hP hD hS _ (lv_sub hl [0] rfl)
  rw [hH, hlo] at hW
  exact hW
def f_X8_plain_L42 (self9 : Int32 → Vs → Option (Vs)) (x1_7 : Int32) (vM_8 : Vs) : Option (Vs) :=
  if (24 : Int32) ≤ x1_7 then some (vM_8) else gd (inb ((8 : Int32) + x1_7) 440) (bn (sI vM_8 2 (((8 : Int32) + x1_7)).toNatClampNeg (-1 : Int32)) (fun (vM_15 : Vs) => self9 (x1_7 + (1 : Int32)) vM_15))
def f_X8_plain_L2 (self3 : Int32 → Vs → Option (Vs)) (x1_1 : Int32) (vM_2 : Vs) : Option (Vs) :=
  if (440 : Int32) ≤ x1_1 then lp f_X8_plain_L42 (fun _ _ => none) FU (0 : Int32) vM_2 else jn (fun (t16 : Int32) => gd (inb x1_1 440) (bn (sI vM_2 2 (x1_1).toNatClampNeg t16) (fun (vM_20 : Vs) => self3 (x1_1 + (1 : Int32)) vM_20))) (fun k17 => jn (k17 (0 : Int32)) (fun k22 => if x1_1 < (310 : Int32) then k22 else if (406 : Int32) ≤ x1_1 then k22 else k17 (2 : Int32)))
def f_X8_plain (vM : Vs) : Option (Vs) :=
  lp f_X8_plain_L2 (fun _ _ => none) FU (0 : Int32) vM
abbrev wsX8_plain : List Cond := .code yX8_plain cX8_plain 2 none :: UW
abbrev rmX8_plain : Room := { frames := 0, cells := 0, slots := 0, locals := 0 }
set_option maxHeartbeats 4000000 in
set_option maxRecDepth 100000 in
theorem c_X8_plain (l : Launch) (g : Gx) (bM : Nat → Nat) (vM : Vs) (vM1 : Vs) (hf : f_X8_plain vM = some vM1) : CtV l yX8_plain wsX8_plain rmX8_plain g [.ref (bM 0)] (cM g bM vM) (cM g bM vM1) 0 0 := by
  unfold CtV
  intro sz
  refine Met.ofW (cc := cX8_plain) (maxL := 2) (ret := none) (by decide) rfl ?_
  intro p e s m args below meth c s₁ B hml hv
  obtain ⟨rfl, hsz, hP, hK, hD0, hG⟩ := hv
  have hx := B.exec
  have hb := B.bytes
  have hr := B.returns
  have hts := atoms_spec (ws := wsX8_plain) B.pre
  have hown : s.vm.findClass RX8 = some m.cls := findClass_of_methodNamed B.named
  have hlocks := B.notSynchronized
  subst hsz
  have hD := hD0.self (sz := s.heap.size)
  generalize hAe : va_A (cM g bM vM) s.heap.size = A at hD hG ⊢
  have hA : ∀ q : Nat, s.heap.size ≤ q → A q := fun q h => by rw [← hAe]; exact Or.inr h
  clear hAe hD0
  have hS : va_S A s.heap s.heap [] := va_S.rf
  have hl := lv_entry ([.ref (bM 0)]) (n := 2) (Nat.le_of_ble_eq_true rfl)
  rw [lg_entry_eq]
  generalize (lg_sl ([.ref (bM 0)]) ++ List.replicate (2 - (lg_sl ([.ref (bM 0)])).length) Slot.unset).toArray = ls at hl ⊢
  have hl : lv_has ls 2 [(0, .ref (bM 0))] := hl
  have htu : ∀ w ∈ UW, w.before _ s = true := fun w h => hts w (List.mem_cons_of_mem _ h)
  have k_5_74 := htu _ mw_5_74
  unfold f_X8_plain at hf
  obtain ⟨H, hH⟩ : ∃ z, z = s.heap := ⟨_, rfl⟩
  obtain ⟨locs, hlo⟩ : ∃ z : List Loc, z = [] := ⟨_, rfl⟩
  have hS : va_S A s.heap H locs := by rw [hH, hlo]; exact hS
  rw [← hH] at hP
  have hW : W p l e (headSpec wsX8_plain rmX8_plain).room s m ([.ref (bM 0)] : List Value).toArray below meth c H locs 0 0 (MQ below (qV g A (cM g bM vM1)) ([.ref (bM 0)] : List Value).toArray s 0 0 A) (F0 m 0 ls []) := by
    refine lv_iconst (v := (0 : Int32)) hx hb dX8_plain_0 (by decide) ?_
    refine lv_istore_n (lv' := [(1, .int (0 : Int32)), (0, .ref (bM 0))]) hx hb dX8_plain_1 rfl hl (by decide) rfl (fun ls hl => ?_)
    have hL4 : ∀ (x1_1 : Int32) (vM_2 : Vs), lp f_X8_plain_L2 (fun _ _ => none) FU x1_1 vM_2 = some vM1 → ∀ (H : Heap) (locs : List Loc), va_P g.1 vwCl (cM g bM vM_2) H → va_D A (cM g bM vM_2) → va_S A s.heap H locs → ∀ ls : Array Slot, lv_has ls 2 [(0, .ref (bM 0)), (1, .int x1_1)] → W p l e (headSpec wsX8_plain rmX8_plain).room s m ([.ref (bM 0)] : List Value).toArray below meth c H locs 0 0 (MQ below (qV g A (cM g bM vM1)) ([.ref (bM 0)] : List Value).toArray s 0 0 A) (F0 m 2 ls []) := by
      refine lp_ind (T := Int32 → Vs → Option (Vs)) (fun self3 => ∀ (x1_1 : Int32) (vM_2 : Vs), self3 x1_1 vM_2 = some vM1 → ∀ (H : Heap) (locs : List Loc), va_P g.1 vwCl (cM g bM vM_2) H → va_D A (cM g bM vM_2) → va_S A s.heap H locs → ∀ ls : Array Slot, lv_has ls 2 [(0, .ref (bM 0)), (1, .int x1_1)] → W p l e (headSpec wsX8_plain rmX8_plain).room s m ([.ref (bM 0)] : List Value).toArray below meth c H locs 0 0 (MQ below (qV g A (cM g bM vM1)) ([.ref (bM 0)] : List Value).toArray s 0 0 A) (F0 m 2 ls [])) ?_ ?_ FU
      · intro x1_1 vM_2 hf; cases hf
      · intro self3 ih5 x1_1 vM_2 hf H locs hP hD hS ls hl
        unfold f_X8_plain_L2 at hf
        refine lv_iload_n hx hb dX8_plain_2 rfl (lv_at hl 1 rfl) ?_
        refine lv_sipush (v := (440 : Int32)) hx hb dX8_plain_3 (by decide) ?_
        refine lv_icmp_ge (tgt := 40) hx hb dX8_plain_6 (by decide) (fun c6 => ?_) (fun c6 => ?_)
        · have hf := it_t hf c6
          refine lv_iconst (v := (0 : Int32)) hx hb dX8_plain_40 (by decide) ?_
          refine lv_istore_n (lv' := [(1, .int (0 : Int32)), (0, .ref (bM 0))]) hx hb dX8_plain_41 rfl hl (by decide) rfl (fun ls hl => ?_)
          have hL10 : ∀ (x1_7 : Int32) (vM_8 : Vs), lp f_X8_plain_L42 (fun _ _ => none) FU x1_7 vM_8 = some vM1 → ∀ (H : Heap) (locs : List Loc), va_P g.1 vwCl (cM g bM vM_8) H → va_D A (cM g bM vM_8) → va_S A s.heap H locs → ∀ ls : Array Slot, lv_has ls 2 [(0, .ref (bM 0)), (1, .int x1_7)] → W p l e (headSpec wsX8_plain rmX8_plain).room s m ([.ref (bM 0)] : List Value).toArray below meth c H locs 0 0 (MQ below (qV g A (cM g bM vM1)) ([.ref (bM 0)] : List Value).toArray s 0 0 A) (F0 m 42 ls []) := by
            refine lp_ind (T := Int32 → Vs → Option (Vs)) (fun self9 => ∀ (x1_7 : Int32) (vM_8 : Vs), self9 x1_7 vM_8 = some vM1 → ∀ (H : Heap) (locs : List Loc), va_P g.1 vwCl (cM g bM vM_8) H → va_D A (cM g bM vM_8) → va_S A s.heap H locs → ∀ ls : Array Slot, lv_has ls 2 [(0, .ref (bM 0)), (1, .int x1_7)] → W p l e (headSpec wsX8_plain rmX8_plain).room s m ([.ref (bM 0)] : List Value).toArray below meth c H locs 0 0 (MQ below (qV g A (cM g bM vM1)) ([.ref (bM 0)] : List Value).toArray s 0 0 A) (F0 m 42 ls [])) ?_ ?_ FU
            · intro x1_7 vM_8 hf; cases hf
            · intro self9 ih11 x1_7 vM_8 hf H locs hP hD hS ls hl
              unfold f_X8_plain_L42 at hf
              refine lv_iload_n hx hb dX8_plain_42 rfl (lv_at hl 1 rfl) ?_
              refine lv_bipush (v := (24 : Int32)) hx hb dX8_plain_43 (by decide) ?_
              refine lv_icmp_ge (tgt := 64) hx hb dX8_plain_45 (by decide) (fun c12 => ?_) (fun c12 => ?_)
              · have hf := it_t hf c12
                have e13 := Option.some.inj hf
                rw [e13] at hP hD
                exact k_vret hx hb hr hlocks hK hP hD hS dX8_plain_64
              · have hf := it_f hf c12
                refine lv_aload_n hx hb dX8_plain_48 rfl (lv_at hl 0 rfl) ?_
                refine va_get (D := g.1) (ci := 8) (fs := fcM bM vM_8) (v := .ref (bM 3)) (C := RX8) (T := TX8) (N := 23) hx hb htu hinX8 hown hK hP 0 rfl rfl 2 (by decide) k_5_74 (fun _ h9 => h9) rfl dX8_plain_49 ?_
                refine lv_bipush (v := (8 : Int32)) hx hb dX8_plain_52 (by decide) ?_
                refine lv_iload_n hx hb dX8_plain_54 rfl (lv_at hl 1 rfl) ?_
                refine lv_iadd hx hb dX8_plain_55 ?_
                refine lv_iconst (v := (-1 : Int32)) hx hb dX8_plain_56 (by decide) ?_
                obtain ⟨h14, hf⟩ := gd_in hf
                refine va_iast (D := g.1) (f := (vM_8.2.1 2)) hx hb hK hP hD hS 2 0 rfl rfl h14 dX8_plain_57 (fun H locs hP hD hS => ?_)
                obtain ⟨vM_15, evM_15⟩ : ∃ z, z = sI vM_8 2 (((8 : Int32) + x1_7)).toNatClampNeg (-1 : Int32) := ⟨_, rfl⟩
                have hf := bn_at hf evM_15
                have hP : va_P g.1 vwCl (cM g bM vM_15) H := by rw [evM_15]; exact hP
                have hD : va_D A (cM g bM vM_15) := by rw [evM_15]; exact hD
                refine lv_iinc (v := (x1_7 + (1 : Int32))) (lv' := [(1, .int (x1_7 + (1 : Int32))), (0, .ref (bM 0))]) hx hb dX8_plain_58 hl (k := 1) rfl rfl (by decide) rfl (fun ls hl => ?_)
                refine lv_goto (tgt := 42) hx hb dX8_plain_61 (by decide) ?_
                exact ih11 (x1_7 + (1 : Int32)) vM_15 hf H locs hP hD hS _ (lv_sub hl [1, 0] rfl)
          exact hL10 (0 : Int32) vM_2 hf H locs hP hD hS _ (lv_sub hl [1, 0] rfl)
        · have hf := it_f hf c6
          refine lv_aload_n hx hb dX8_plain_9 rfl (lv_at hl 0 rfl) ?_
          refine va_get (D := g.1) (ci := 8) (fs := fcM bM vM_2) (v := .ref (bM 3)) (C := RX8) (T := TX8) (N := 23) hx hb htu hinX8 hown hK hP 0 rfl rfl 2 (by decide) k_5_74 (fun _ h9 => h9) rfl dX8_plain_10 ?_
          refine lv_iload_n hx hb dX8_plain_13 rfl (lv_at hl 1 rfl) ?_
          refine lv_iload_n hx hb dX8_plain_14 rfl (lv_at hl 1 rfl) ?_
          refine lv_sipush (v := (310 : Int32)) hx hb dX8_plain_15 (by decide) ?_
          obtain ⟨k17, hk21, hf⟩ := jn_at hf
          have hJ18 : ∀ (t16 : Int32), k17 t16 = some vM1 → ∀ (H : Heap) (locs : List Loc), va_P g.1 vwCl (cM g bM vM_2) H → va_D A (cM g bM vM_2) → va_S A s.heap H locs → ∀ ls : Array Slot, lv_has ls 2 [(0, .ref (bM 0)), (1, .int x1_1)] → W p l e (headSpec wsX8_plain rmX8_plain).room s m ([.ref (bM 0)] : List Value).toArray below meth c H locs 0 0 (MQ below (qV g A (cM g bM vM1)) ([.ref (bM 0)] : List Value).toArray s 0 0 A) (F0 m 33 ls [.int t16, .int x1_1, .ref (bM 3)]) := by
            intro t16 hf H locs hP hD hS ls hl
            rw [hk21] at hf
            dsimp only at hf
            clear hk21
            obtain ⟨h19, hf⟩ := gd_in hf
            refine va_iast (D := g.1) (f := (vM_2.2.1 2)) hx hb hK hP hD hS 2 0 rfl rfl h19 dX8_plain_33 (fun H locs hP hD hS => ?_)
            obtain ⟨vM_20, evM_20⟩ : ∃ z, z = sI vM_2 2 (x1_1).toNatClampNeg t16 := ⟨_, rfl⟩
            have hf := bn_at hf evM_20
            have hP : va_P g.1 vwCl (cM g bM vM_20) H := by rw [evM_20]; exact hP
            have hD : va_D A (cM g bM vM_20) := by rw [evM_20]; exact hD
            refine lv_iinc (v := (x1_1 + (1 : Int32))) (lv' := [(1, .int (x1_1 + (1 : Int32))), (0, .ref (bM 0))]) hx hb dX8_plain_34 hl (k := 1) rfl rfl (by decide) rfl (fun ls hl => ?_)
            refine lv_goto (tgt := 2) hx hb dX8_plain_37 (by decide) ?_
            exact ih5 (x1_1 + (1 : Int32)) vM_20 hf H locs hP hD hS _ (lv_sub hl [1, 0] rfl)
          obtain ⟨k22, hk24, hf⟩ := jn_at hf
          have hJ23 : k22 = some vM1 → ∀ (H : Heap) (locs : List Loc), va_P g.1 vwCl (cM g bM vM_2) H → va_D A (cM g bM vM_2) → va_S A s.heap H locs → ∀ ls : Array Slot, lv_has ls 2 [(0, .ref (bM 0)), (1, .int x1_1)] → W p l e (headSpec wsX8_plain rmX8_plain).room s m ([.ref (bM 0)] : List Value).toArray below meth c H locs 0 0 (MQ below (qV g A (cM g bM vM1)) ([.ref (bM 0)] : List Value).toArray s 0 0 A) (F0 m 32 ls [.int x1_1, .ref (bM 3)]) := by
            intro hf H locs hP hD hS ls hl
            rw [hk24] at hf
            clear hk24
            refine lv_iconst (v := (0 : Int32)) hx hb dX8_plain_32 (by decide) ?_
            exact hJ18 (0 : Int32) hf H locs hP hD hS _ (lv_sub hl [0, 1] rfl)
          refine lv_icmp_lt (tgt := 32) hx hb dX8_plain_18 (by decide) (fun c25 => ?_) (fun c25 => ?_)
          · have hf := it_t hf c25
            exact hJ23 hf H locs hP hD hS _ (lv_sub hl [0, 1] rfl)
          · have hf := it_f hf c25
            refine lv_iload_n hx hb dX8_plain_21 rfl (lv_at hl 1 rfl) ?_
            refine lv_sipush (v := (406 : Int32)) hx hb dX8_plain_22 (by decide) ?_
            refine lv_icmp_ge (tgt := 32) hx hb dX8_plain_25 (by decide) (fun c26 => ?_) (fun c26 => ?_)
            · have hf := it_t hf c26
              exact hJ23 hf H locs hP hD hS _ (lv_sub hl [0, 1] rfl)
            · have hf := it_f hf c26
              refine lv_iconst (v := (2 : Int32)) hx hb dX8_plain_28 (by decide) ?_
              refine lv_goto (tgt := 33) hx hb dX8_plain_29 (by decide) ?_
              exact hJ18 (2 : Int32) hf H locs hP hD hS _ (lv_sub hl [0, 1] rfl)
    exact hL4 (0 : Int32) vM hf H locs hP hD hS _ (lv_sub hl [1, 0] rfl)
  rw [hH, hlo] at hW
  exact hW
def f_X8_inputs (vM : Vs) : Option (Int32) :=
  o1 (f_X8_get vM (0 : Int32)) (fun (r1 : Int32) => some (r1))
abbrev wsX8_inputs : List Cond := .code yX8_inputs cX8_inputs 1 (some .int) :: UW
abbrev rmX8_inputs : Room := { frames := 1, cells := 0, slots := 0, locals := 21 }
set_option maxHeartbeats 4000000 in
set_option maxRecDepth 100000 in
theorem c_X8_inputs (l : Launch) (g : Gx) (bM : Nat → Nat) (vM : Vs) (r : Int32) (hf : f_X8_inputs vM = some r) : CtI l yX8_inputs wsX8_inputs rmX8_inputs g [.ref (bM 0)] (cM g bM vM) (cM g bM vM) r 0 0 := by
  unfold CtI
  intro sz
  refine Met.ofW (cc := cX8_inputs) (maxL := 1) (ret := (some .int)) (by decide) rfl ?_
  intro p e s m args below meth c s₁ B hml hv
  obtain ⟨rfl, hsz, hP, hK, hD0, hG⟩ := hv
  have hx := B.exec
  have hb := B.bytes
  have hr := B.returns
  have hts := atoms_spec (ws := wsX8_inputs) B.pre
  have hown : s.vm.findClass RX8 = some m.cls := findClass_of_methodNamed B.named
  have hlocks := B.notSynchronized
  subst hsz
  have hD := hD0.self (sz := s.heap.size)
  generalize hAe : va_A (cM g bM vM) s.heap.size = A at hD hG ⊢
  have hA : ∀ q : Nat, s.heap.size ≤ q → A q := fun q h => by rw [← hAe]; exact Or.inr h
  clear hAe hD0
  have hS : va_S A s.heap s.heap [] := va_S.rf
  have hl := lv_entry ([.ref (bM 0)]) (n := 1) (Nat.le_of_ble_eq_true rfl)
  rw [lg_entry_eq]
  generalize (lg_sl ([.ref (bM 0)]) ++ List.replicate (1 - (lg_sl ([.ref (bM 0)])).length) Slot.unset).toArray = ls at hl ⊢
  have hl : lv_has ls 1 [(0, .ref (bM 0))] := hl
  have htu : ∀ w ∈ UW, w.before _ s = true := fun w h => hts w (List.mem_cons_of_mem _ h)
  unfold f_X8_inputs at hf
  obtain ⟨H, hH⟩ : ∃ z, z = s.heap := ⟨_, rfl⟩
  obtain ⟨locs, hlo⟩ : ∃ z : List Loc, z = [] := ⟨_, rfl⟩
  have hS : va_S A s.heap H locs := by rw [hH, hlo]; exact hS
  rw [← hH] at hP
  have hW : W p l e (headSpec wsX8_inputs rmX8_inputs).room s m ([.ref (bM 0)] : List Value).toArray below meth c H locs 0 0 (MQ below (qI g A (cM g bM vM) r) ([.ref (bM 0)] : List Value).toArray s 0 0 A) (F0 m 0 ls []) := by
    refine lv_aload_n hx hb dX8_inputs_0 rfl (lv_at hl 0 rfl) ?_
    refine lv_iconst (v := (0 : Int32)) hx hb dX8_inputs_1 (by decide) ?_
    obtain ⟨r1, hg2, hf⟩ := o1_at hf
    refine k_viW ⟨hx, hb, hml, hown, htu⟩ hK hP hD hS hA hG (c_X8_get l g bM vM (0 : Int32) r1 hg2) (cwV 1 htu (gU_V mw_6_20 hcX8_get) rfl rfl rfl hdX8_get ⟨Nat.le_of_ble_eq_true rfl, Nat.le_of_ble_eq_true rfl⟩) (q0 := 0) (ci := 8) (fs := fcM bM vM) (q := (RX8, TX8, 23)) rfl rfl rfl (As := [.int (0 : Int32)]) (rest := []) rfl rfl hl.1 (Nat.le_of_ble_eq_true rfl) dX8_inputs_2 (k1 := 0) (n1 := 0) rfl rfl ⟨Nat.le_refl _, Nat.le_refl _⟩ (fun H locs hP hD hS => ?_)
    have e3 := Option.some.inj hf
    exact k_iret hx hb hr hlocks hK hP hD hS e3 dX8_inputs_5
  rw [hH, hlo] at hW
  exact hW
def f_X8_wires (vM : Vs) : Option (Int32) :=
  o1 (f_X8_get vM (1 : Int32)) (fun (r1 : Int32) => some (r1))
abbrev wsX8_wires : List Cond := .code yX8_wires cX8_wires 1 (some .int) :: UW
abbrev rmX8_wires : Room := { frames := 1, cells := 0, slots := 0, locals := 21 }
set_option maxHeartbeats 4000000 in
set_option maxRecDepth 100000 in
theorem c_X8_wires (l : Launch) (g : Gx) (bM : Nat → Nat) (vM : Vs) (r : Int32) (hf : f_X8_wires vM = some r) : CtI l yX8_wires wsX8_wires rmX8_wires g [.ref (bM 0)] (cM g bM vM) (cM g bM vM) r 0 0 := by
  unfold CtI
  intro sz
  refine Met.ofW (cc := cX8_wires) (maxL := 1) (ret := (some .int)) (by decide) rfl ?_
  intro p e s m args below meth c s₁ B hml hv
  obtain ⟨rfl, hsz, hP, hK, hD0, hG⟩ := hv
  have hx := B.exec
  have hb := B.bytes
  have hr := B.returns
  have hts := atoms_spec (ws := wsX8_wires) B.pre
  have hown : s.vm.findClass RX8 = some m.cls := findClass_of_methodNamed B.named
  have hlocks := B.notSynchronized
  subst hsz
  have hD := hD0.self (sz := s.heap.size)
  generalize hAe : va_A (cM g bM vM) s.heap.size = A at hD hG ⊢
  have hA : ∀ q : Nat, s.heap.size ≤ q → A q := fun q h => by rw [← hAe]; exact Or.inr h
  clear hAe hD0
  have hS : va_S A s.heap s.heap [] := va_S.rf
  have hl := lv_entry ([.ref (bM 0)]) (n := 1) (Nat.le_of_ble_eq_true rfl)
  rw [lg_entry_eq]
  generalize (lg_sl ([.ref (bM 0)]) ++ List.replicate (1 - (lg_sl ([.ref (bM 0)])).length) Slot.unset).toArray = ls at hl ⊢
  have hl : lv_has ls 1 [(0, .ref (bM 0))] := hl
  have htu : ∀ w ∈ UW, w.before _ s = true := fun w h => hts w (List.mem_cons_of_mem _ h)
  unfold f_X8_wires at hf
  obtain ⟨H, hH⟩ : ∃ z, z = s.heap := ⟨_, rfl⟩
  obtain ⟨locs, hlo⟩ : ∃ z : List Loc, z = [] := ⟨_, rfl⟩
  have hS : va_S A s.heap H locs := by rw [hH, hlo]; exact hS
  rw [← hH] at hP
  have hW : W p l e (headSpec wsX8_wires rmX8_wires).room s m ([.ref (bM 0)] : List Value).toArray below meth c H locs 0 0 (MQ below (qI g A (cM g bM vM) r) ([.ref (bM 0)] : List Value).toArray s 0 0 A) (F0 m 0 ls []) := by
    refine lv_aload_n hx hb dX8_wires_0 rfl (lv_at hl 0 rfl) ?_
    refine lv_iconst (v := (1 : Int32)) hx hb dX8_wires_1 (by decide) ?_
    obtain ⟨r1, hg2, hf⟩ := o1_at hf
    refine k_viW ⟨hx, hb, hml, hown, htu⟩ hK hP hD hS hA hG (c_X8_get l g bM vM (1 : Int32) r1 hg2) (cwV 1 htu (gU_V mw_6_20 hcX8_get) rfl rfl rfl hdX8_get ⟨Nat.le_of_ble_eq_true rfl, Nat.le_of_ble_eq_true rfl⟩) (q0 := 0) (ci := 8) (fs := fcM bM vM) (q := (RX8, TX8, 23)) rfl rfl rfl (As := [.int (1 : Int32)]) (rest := []) rfl rfl hl.1 (Nat.le_of_ble_eq_true rfl) dX8_wires_2 (k1 := 0) (n1 := 0) rfl rfl ⟨Nat.le_refl _, Nat.le_refl _⟩ (fun H locs hP hD hS => ?_)
    have e3 := Option.some.inj hf
    exact k_iret hx hb hr hlocks hK hP hD hS e3 dX8_wires_5
  rw [hH, hlo] at hW
  exact hW
def f_X8_outputs (vM : Vs) : Option (Int32) :=
  o1 (f_X8_get vM (2 : Int32)) (fun (r1 : Int32) => some (r1))
abbrev wsX8_outputs : List Cond := .code yX8_outputs cX8_outputs 1 (some .int) :: UW
abbrev rmX8_outputs : Room := { frames := 1, cells := 0, slots := 0, locals := 21 }
set_option maxHeartbeats 4000000 in
set_option maxRecDepth 100000 in
theorem c_X8_outputs (l : Launch) (g : Gx) (bM : Nat → Nat) (vM : Vs) (r : Int32) (hf : f_X8_outputs vM = some r) : CtI l yX8_outputs wsX8_outputs rmX8_outputs g [.ref (bM 0)] (cM g bM vM) (cM g bM vM) r 0 0 := by
  unfold CtI
  intro sz
  refine Met.ofW (cc := cX8_outputs) (maxL := 1) (ret := (some .int)) (by decide) rfl ?_
  intro p e s m args below meth c s₁ B hml hv
  obtain ⟨rfl, hsz, hP, hK, hD0, hG⟩ := hv
  have hx := B.exec
  have hb := B.bytes
  have hr := B.returns
  have hts := atoms_spec (ws := wsX8_outputs) B.pre
  have hown : s.vm.findClass RX8 = some m.cls := findClass_of_methodNamed B.named
  have hlocks := B.notSynchronized
  subst hsz
  have hD := hD0.self (sz := s.heap.size)
  generalize hAe : va_A (cM g bM vM) s.heap.size = A at hD hG ⊢
  have hA : ∀ q : Nat, s.heap.size ≤ q → A q := fun q h => by rw [← hAe]; exact Or.inr h
  clear hAe hD0
  have hS : va_S A s.heap s.heap [] := va_S.rf
  have hl := lv_entry ([.ref (bM 0)]) (n := 1) (Nat.le_of_ble_eq_true rfl)
  rw [lg_entry_eq]
  generalize (lg_sl ([.ref (bM 0)]) ++ List.replicate (1 - (lg_sl ([.ref (bM 0)])).length) Slot.unset).toArray = ls at hl ⊢
  have hl : lv_has ls 1 [(0, .ref (bM 0))] := hl
  have htu : ∀ w ∈ UW, w.before _ s = true := fun w h => hts w (List.mem_cons_of_mem _ h)
  unfold f_X8_outputs at hf
  obtain ⟨H, hH⟩ : ∃ z, z = s.heap := ⟨_, rfl⟩
  obtain ⟨locs, hlo⟩ : ∃ z : List Loc, z = [] := ⟨_, rfl⟩
  have hS : va_S A s.heap H locs := by rw [hH, hlo]; exact hS
  rw [← hH] at hP
  have hW : W p l e (headSpec wsX8_outputs rmX8_outputs).room s m ([.ref (bM 0)] : List Value).toArray below meth c H locs 0 0 (MQ below (qI g A (cM g bM vM) r) ([.ref (bM 0)] : List Value).toArray s 0 0 A) (F0 m 0 ls []) := by
    refine lv_aload_n hx hb dX8_outputs_0 rfl (lv_at hl 0 rfl) ?_
    refine lv_iconst (v := (2 : Int32)) hx hb dX8_outputs_1 (by decide) ?_
    obtain ⟨r1, hg2, hf⟩ := o1_at hf
    refine k_viW ⟨hx, hb, hml, hown, htu⟩ hK hP hD hS hA hG (c_X8_get l g bM vM (2 : Int32) r1 hg2) (cwV 1 htu (gU_V mw_6_20 hcX8_get) rfl rfl rfl hdX8_get ⟨Nat.le_of_ble_eq_true rfl, Nat.le_of_ble_eq_true rfl⟩) (q0 := 0) (ci := 8) (fs := fcM bM vM) (q := (RX8, TX8, 23)) rfl rfl rfl (As := [.int (2 : Int32)]) (rest := []) rfl rfl hl.1 (Nat.le_of_ble_eq_true rfl) dX8_outputs_2 (k1 := 0) (n1 := 0) rfl rfl ⟨Nat.le_refl _, Nat.le_refl _⟩ (fun H locs hP hD hS => ?_)
    have e3 := Option.some.inj hf
    exact k_iret hx hb hr hlocks hK hP hD hS e3 dX8_outputs_5
  rw [hH, hlo] at hW
  exact hW
def f_X8_tests (vM : Vs) : Option (Int32) :=
  o1 (f_X8_get vM (4 : Int32)) (fun (r1 : Int32) => some (r1))
abbrev wsX8_tests : List Cond := .code yX8_tests cX8_tests 1 (some .int) :: UW
abbrev rmX8_tests : Room := { frames := 1, cells := 0, slots := 0, locals := 21 }
set_option maxHeartbeats 4000000 in
set_option maxRecDepth 100000 in
theorem c_X8_tests (l : Launch) (g : Gx) (bM : Nat → Nat) (vM : Vs) (r : Int32) (hf : f_X8_tests vM = some r) : CtI l yX8_tests wsX8_tests rmX8_tests g [.ref (bM 0)] (cM g bM vM) (cM g bM vM) r 0 0 := by
  unfold CtI
  intro sz
  refine Met.ofW (cc := cX8_tests) (maxL := 1) (ret := (some .int)) (by decide) rfl ?_
  intro p e s m args below meth c s₁ B hml hv
  obtain ⟨rfl, hsz, hP, hK, hD0, hG⟩ := hv
  have hx := B.exec
  have hb := B.bytes
  have hr := B.returns
  have hts := atoms_spec (ws := wsX8_tests) B.pre
  have hown : s.vm.findClass RX8 = some m.cls := findClass_of_methodNamed B.named
  have hlocks := B.notSynchronized
  subst hsz
  have hD := hD0.self (sz := s.heap.size)
  generalize hAe : va_A (cM g bM vM) s.heap.size = A at hD hG ⊢
  have hA : ∀ q : Nat, s.heap.size ≤ q → A q := fun q h => by rw [← hAe]; exact Or.inr h
  clear hAe hD0
  have hS : va_S A s.heap s.heap [] := va_S.rf
  have hl := lv_entry ([.ref (bM 0)]) (n := 1) (Nat.le_of_ble_eq_true rfl)
  rw [lg_entry_eq]
  generalize (lg_sl ([.ref (bM 0)]) ++ List.replicate (1 - (lg_sl ([.ref (bM 0)])).length) Slot.unset).toArray = ls at hl ⊢
  have hl : lv_has ls 1 [(0, .ref (bM 0))] := hl
  have htu : ∀ w ∈ UW, w.before _ s = true := fun w h => hts w (List.mem_cons_of_mem _ h)
  unfold f_X8_tests at hf
  obtain ⟨H, hH⟩ : ∃ z, z = s.heap := ⟨_, rfl⟩
  obtain ⟨locs, hlo⟩ : ∃ z : List Loc, z = [] := ⟨_, rfl⟩
  have hS : va_S A s.heap H locs := by rw [hH, hlo]; exact hS
  rw [← hH] at hP
  have hW : W p l e (headSpec wsX8_tests rmX8_tests).room s m ([.ref (bM 0)] : List Value).toArray below meth c H locs 0 0 (MQ below (qI g A (cM g bM vM) r) ([.ref (bM 0)] : List Value).toArray s 0 0 A) (F0 m 0 ls []) := by
    refine lv_aload_n hx hb dX8_tests_0 rfl (lv_at hl 0 rfl) ?_
    refine lv_iconst (v := (4 : Int32)) hx hb dX8_tests_1 (by decide) ?_
    obtain ⟨r1, hg2, hf⟩ := o1_at hf
    refine k_viW ⟨hx, hb, hml, hown, htu⟩ hK hP hD hS hA hG (c_X8_get l g bM vM (4 : Int32) r1 hg2) (cwV 1 htu (gU_V mw_6_20 hcX8_get) rfl rfl rfl hdX8_get ⟨Nat.le_of_ble_eq_true rfl, Nat.le_of_ble_eq_true rfl⟩) (q0 := 0) (ci := 8) (fs := fcM bM vM) (q := (RX8, TX8, 23)) rfl rfl rfl (As := [.int (4 : Int32)]) (rest := []) rfl rfl hl.1 (Nat.le_of_ble_eq_true rfl) dX8_tests_2 (k1 := 0) (n1 := 0) rfl rfl ⟨Nat.le_refl _, Nat.le_refl _⟩ (fun H locs hP hD hS => ?_)
    have e3 := Option.some.inj hf
    exact k_iret hx hb hr hlocks hK hP hD hS e3 dX8_tests_5
  rw [hH, hlo] at hW
  exact hW
def f_X8_faults (vM : Vs) : Option (Int32) :=
  o1 (f_X8_wires vM) (fun (r1 : Int32) => o1 (f_X8_get vM (3 : Int32)) (fun (r3 : Int32) => some ((((2 : Int32) * r1) + r3))))
abbrev wsX8_faults : List Cond := .code yX8_faults cX8_faults 1 (some .int) :: UW
abbrev rmX8_faults : Room := { frames := 2, cells := 0, slots := 0, locals := 41 }
set_option maxHeartbeats 4000000 in
set_option maxRecDepth 100000 in
theorem c_X8_faults (l : Launch) (g : Gx) (bM : Nat → Nat) (vM : Vs) (r : Int32) (hf : f_X8_faults vM = some r) : CtI l yX8_faults wsX8_faults rmX8_faults g [.ref (bM 0)] (cM g bM vM) (cM g bM vM) r 0 0 := by
  unfold CtI
  intro sz
  refine Met.ofW (cc := cX8_faults) (maxL := 1) (ret := (some .int)) (by decide) rfl ?_
  intro p e s m args below meth c s₁ B hml hv
  obtain ⟨rfl, hsz, hP, hK, hD0, hG⟩ := hv
  have hx := B.exec
  have hb := B.bytes
  have hr := B.returns
  have hts := atoms_spec (ws := wsX8_faults) B.pre
  have hown : s.vm.findClass RX8 = some m.cls := findClass_of_methodNamed B.named
  have hlocks := B.notSynchronized
  subst hsz
  have hD := hD0.self (sz := s.heap.size)
  generalize hAe : va_A (cM g bM vM) s.heap.size = A at hD hG ⊢
  have hA : ∀ q : Nat, s.heap.size ≤ q → A q := fun q h => by rw [← hAe]; exact Or.inr h
  clear hAe hD0
  have hS : va_S A s.heap s.heap [] := va_S.rf
  have hl := lv_entry ([.ref (bM 0)]) (n := 1) (Nat.le_of_ble_eq_true rfl)
  rw [lg_entry_eq]
  generalize (lg_sl ([.ref (bM 0)]) ++ List.replicate (1 - (lg_sl ([.ref (bM 0)])).length) Slot.unset).toArray = ls at hl ⊢
  have hl : lv_has ls 1 [(0, .ref (bM 0))] := hl
  have htu : ∀ w ∈ UW, w.before _ s = true := fun w h => hts w (List.mem_cons_of_mem _ h)
  unfold f_X8_faults at hf
  obtain ⟨H, hH⟩ : ∃ z, z = s.heap := ⟨_, rfl⟩
  obtain ⟨locs, hlo⟩ : ∃ z : List Loc, z = [] := ⟨_, rfl⟩
  have hS : va_S A s.heap H locs := by rw [hH, hlo]; exact hS
  rw [← hH] at hP
  have hW : W p l e (headSpec wsX8_faults rmX8_faults).room s m ([.ref (bM 0)] : List Value).toArray below meth c H locs 0 0 (MQ below (qI g A (cM g bM vM) r) ([.ref (bM 0)] : List Value).toArray s 0 0 A) (F0 m 0 ls []) := by
    refine lv_iconst (v := (2 : Int32)) hx hb dX8_faults_0 (by decide) ?_
    refine lv_aload_n hx hb dX8_faults_1 rfl (lv_at hl 0 rfl) ?_
    obtain ⟨r1, hg2, hf⟩ := o1_at hf
    refine k_viW ⟨hx, hb, hml, hown, htu⟩ hK hP hD hS hA hG (c_X8_wires l g bM vM r1 hg2) (cwV 0 htu (gU_V mw_6_24 hcX8_wires) rfl rfl rfl hdX8_wires ⟨Nat.le_of_ble_eq_true rfl, Nat.le_of_ble_eq_true rfl⟩) (q0 := 0) (ci := 8) (fs := fcM bM vM) (q := (RX8, TX8, 23)) rfl rfl rfl (As := []) (rest := [.int (2 : Int32)]) rfl rfl hl.1 (Nat.le_of_ble_eq_true rfl) dX8_faults_2 (k1 := 0) (n1 := 0) rfl rfl ⟨Nat.le_refl _, Nat.le_refl _⟩ (fun H locs hP hD hS => ?_)
    refine lv_imul hx hb dX8_faults_5 ?_
    refine lv_aload_n hx hb dX8_faults_6 rfl (lv_at hl 0 rfl) ?_
    refine lv_iconst (v := (3 : Int32)) hx hb dX8_faults_7 (by decide) ?_
    obtain ⟨r3, hg4, hf⟩ := o1_at hf
    refine k_viW ⟨hx, hb, hml, hown, htu⟩ hK hP hD hS hA hG (c_X8_get l g bM vM (3 : Int32) r3 hg4) (cwV 1 htu (gU_V mw_6_20 hcX8_get) rfl rfl rfl hdX8_get ⟨Nat.le_of_ble_eq_true rfl, Nat.le_of_ble_eq_true rfl⟩) (q0 := 0) (ci := 8) (fs := fcM bM vM) (q := (RX8, TX8, 23)) rfl rfl rfl (As := [.int (3 : Int32)]) (rest := [.int ((2 : Int32) * r1)]) rfl rfl hl.1 (Nat.le_of_ble_eq_true rfl) dX8_faults_8 (k1 := 0) (n1 := 0) rfl rfl ⟨Nat.le_refl _, Nat.le_refl _⟩ (fun H locs hP hD hS => ?_)
    refine lv_iadd hx hb dX8_faults_11 ?_
    have e5 := Option.some.inj hf
    exact k_iret hx hb hr hlocks hK hP hD hS e5 dX8_faults_12
  rw [hH, hlo] at hW
  exact hW
def f_X8_kindOf (vM : Vs) (x1 : Int32) : Option (Int32) :=
  o1 (f_X8_get vM ((8 : Int32) + x1)) (fun (r1 : Int32) => some (r1))
abbrev wsX8_kindOf : List Cond := .code yX8_kindOf cX8_kindOf 2 (some .int) :: UW
abbrev rmX8_kindOf : Room := { frames := 1, cells := 0, slots := 0, locals := 21 }
set_option maxHeartbeats 4000000 in
set_option maxRecDepth 100000 in
theorem c_X8_kindOf (l : Launch) (g : Gx) (bM : Nat → Nat) (vM : Vs) (x1 : Int32) (r : Int32) (hf : f_X8_kindOf vM x1 = some r) : CtI l yX8_kindOf wsX8_kindOf rmX8_kindOf g [.ref (bM 0), .int x1] (cM g bM vM) (cM g bM vM) r 0 0 := by
  unfold CtI
  intro sz
  refine Met.ofW (cc := cX8_kindOf) (maxL := 2) (ret := (some .int)) (by decide) rfl ?_
  intro p e s m args below meth c s₁ B hml hv
  obtain ⟨rfl, hsz, hP, hK, hD0, hG⟩ := hv
  have hx := B.exec
  have hb := B.bytes
  have hr := B.returns
  have hts := atoms_spec (ws := wsX8_kindOf) B.pre
  have hown : s.vm.findClass RX8 = some m.cls := findClass_of_methodNamed B.named
  have hlocks := B.notSynchronized
  subst hsz
  have hD := hD0.self (sz := s.heap.size)
  generalize hAe : va_A (cM g bM vM) s.heap.size = A at hD hG ⊢
  have hA : ∀ q : Nat, s.heap.size ≤ q → A q := fun q h => by rw [← hAe]; exact Or.inr h
  clear hAe hD0
  have hS : va_S A s.heap s.heap [] := va_S.rf
  have hl := lv_entry ([.ref (bM 0), .int x1]) (n := 2) (Nat.le_of_ble_eq_true rfl)
  rw [lg_entry_eq]
  generalize (lg_sl ([.ref (bM 0), .int x1]) ++ List.replicate (2 - (lg_sl ([.ref (bM 0), .int x1])).length) Slot.unset).toArray = ls at hl ⊢
  have hl : lv_has ls 2 [(0, .ref (bM 0)), (1, .int x1)] := hl
  have htu : ∀ w ∈ UW, w.before _ s = true := fun w h => hts w (List.mem_cons_of_mem _ h)
  unfold f_X8_kindOf at hf
  obtain ⟨H, hH⟩ : ∃ z, z = s.heap := ⟨_, rfl⟩
  obtain ⟨locs, hlo⟩ : ∃ z : List Loc, z = [] := ⟨_, rfl⟩
  have hS : va_S A s.heap H locs := by rw [hH, hlo]; exact hS
  rw [← hH] at hP
  have hW : W p l e (headSpec wsX8_kindOf rmX8_kindOf).room s m ([.ref (bM 0), .int x1] : List Value).toArray below meth c H locs 0 0 (MQ below (qI g A (cM g bM vM) r) ([.ref (bM 0), .int x1] : List Value).toArray s 0 0 A) (F0 m 0 ls []) := by
    refine lv_aload_n hx hb dX8_kindOf_0 rfl (lv_at hl 0 rfl) ?_
    refine lv_bipush (v := (8 : Int32)) hx hb dX8_kindOf_1 (by decide) ?_
    refine lv_iload_n hx hb dX8_kindOf_3 rfl (lv_at hl 1 rfl) ?_
    refine lv_iadd hx hb dX8_kindOf_4 ?_
    obtain ⟨r1, hg2, hf⟩ := o1_at hf
    refine k_viW ⟨hx, hb, hml, hown, htu⟩ hK hP hD hS hA hG (c_X8_get l g bM vM ((8 : Int32) + x1) r1 hg2) (cwV 1 htu (gU_V mw_6_20 hcX8_get) rfl rfl rfl hdX8_get ⟨Nat.le_of_ble_eq_true rfl, Nat.le_of_ble_eq_true rfl⟩) (q0 := 0) (ci := 8) (fs := fcM bM vM) (q := (RX8, TX8, 23)) rfl rfl rfl (As := [.int ((8 : Int32) + x1)]) (rest := []) rfl rfl hl.1 (Nat.le_of_ble_eq_true rfl) dX8_kindOf_5 (k1 := 0) (n1 := 0) rfl rfl ⟨Nat.le_refl _, Nat.le_refl _⟩ (fun H locs hP hD hS => ?_)
    have e3 := Option.some.inj hf
    exact k_iret hx hb hr hlocks hK hP hD hS e3 dX8_kindOf_8
  rw [hH, hlo] at hW
  exact hW
def f_X8_have (vM : Vs) (x1 : Int32) : Option (Int32) :=
  o1 (f_X8_get vM ((32 : Int32) + x1)) (fun (r1 : Int32) => some (r1))
abbrev wsX8_have : List Cond := .code yX8_have cX8_have 2 (some .int) :: UW
abbrev rmX8_have : Room := { frames := 1, cells := 0, slots := 0, locals := 21 }
set_option maxHeartbeats 4000000 in
set_option maxRecDepth 100000 in
theorem c_X8_have (l : Launch) (g : Gx) (bM : Nat → Nat) (vM : Vs) (x1 : Int32) (r : Int32) (hf : f_X8_have vM x1 = some r) : CtI l yX8_have wsX8_have rmX8_have g [.ref (bM 0), .int x1] (cM g bM vM) (cM g bM vM) r 0 0 := by
  unfold CtI
  intro sz
  refine Met.ofW (cc := cX8_have) (maxL := 2) (ret := (some .int)) (by decide) rfl ?_
  intro p e s m args below meth c s₁ B hml hv
  obtain ⟨rfl, hsz, hP, hK, hD0, hG⟩ := hv
  have hx := B.exec
  have hb := B.bytes
  have hr := B.returns
  have hts := atoms_spec (ws := wsX8_have) B.pre
  have hown : s.vm.findClass RX8 = some m.cls := findClass_of_methodNamed B.named
  have hlocks := B.notSynchronized
  subst hsz
  have hD := hD0.self (sz := s.heap.size)
  generalize hAe : va_A (cM g bM vM) s.heap.size = A at hD hG ⊢
  have hA : ∀ q : Nat, s.heap.size ≤ q → A q := fun q h => by rw [← hAe]; exact Or.inr h
  clear hAe hD0
  have hS : va_S A s.heap s.heap [] := va_S.rf
  have hl := lv_entry ([.ref (bM 0), .int x1]) (n := 2) (Nat.le_of_ble_eq_true rfl)
  rw [lg_entry_eq]
  generalize (lg_sl ([.ref (bM 0), .int x1]) ++ List.replicate (2 - (lg_sl ([.ref (bM 0), .int x1])).length) Slot.unset).toArray = ls at hl ⊢
  have hl : lv_has ls 2 [(0, .ref (bM 0)), (1, .int x1)] := hl
  have htu : ∀ w ∈ UW, w.before _ s = true := fun w h => hts w (List.mem_cons_of_mem _ h)
  unfold f_X8_have at hf
  obtain ⟨H, hH⟩ : ∃ z, z = s.heap := ⟨_, rfl⟩
  obtain ⟨locs, hlo⟩ : ∃ z : List Loc, z = [] := ⟨_, rfl⟩
  have hS : va_S A s.heap H locs := by rw [hH, hlo]; exact hS
  rw [← hH] at hP
  have hW : W p l e (headSpec wsX8_have rmX8_have).room s m ([.ref (bM 0), .int x1] : List Value).toArray below meth c H locs 0 0 (MQ below (qI g A (cM g bM vM) r) ([.ref (bM 0), .int x1] : List Value).toArray s 0 0 A) (F0 m 0 ls []) := by
    refine lv_aload_n hx hb dX8_have_0 rfl (lv_at hl 0 rfl) ?_
    refine lv_bipush (v := (32 : Int32)) hx hb dX8_have_1 (by decide) ?_
    refine lv_iload_n hx hb dX8_have_3 rfl (lv_at hl 1 rfl) ?_
    refine lv_iadd hx hb dX8_have_4 ?_
    obtain ⟨r1, hg2, hf⟩ := o1_at hf
    refine k_viW ⟨hx, hb, hml, hown, htu⟩ hK hP hD hS hA hG (c_X8_get l g bM vM ((32 : Int32) + x1) r1 hg2) (cwV 1 htu (gU_V mw_6_20 hcX8_get) rfl rfl rfl hdX8_get ⟨Nat.le_of_ble_eq_true rfl, Nat.le_of_ble_eq_true rfl⟩) (q0 := 0) (ci := 8) (fs := fcM bM vM) (q := (RX8, TX8, 23)) rfl rfl rfl (As := [.int ((32 : Int32) + x1)]) (rest := []) rfl rfl hl.1 (Nat.le_of_ble_eq_true rfl) dX8_have_5 (k1 := 0) (n1 := 0) rfl rfl ⟨Nat.le_refl _, Nat.le_refl _⟩ (fun H locs hP hD hS => ?_)
    have e3 := Option.some.inj hf
    exact k_iret hx hb hr hlocks hK hP hD hS e3 dX8_have_8
  rw [hH, hlo] at hW
  exact hW
def f_X8_operandOf (vM : Vs) (x1 : Int32) (x2 : Int32) : Option (Int32) :=
  o1 (f_X8_get vM (((56 : Int32) + ((4 : Int32) * x1)) + x2)) (fun (r1 : Int32) => some (r1))
abbrev wsX8_operandOf : List Cond := .code yX8_operandOf cX8_operandOf 3 (some .int) :: UW
abbrev rmX8_operandOf : Room := { frames := 1, cells := 0, slots := 0, locals := 21 }
set_option maxHeartbeats 4000000 in
set_option maxRecDepth 100000 in
theorem c_X8_operandOf (l : Launch) (g : Gx) (bM : Nat → Nat) (vM : Vs) (x1 : Int32) (x2 : Int32) (r : Int32) (hf : f_X8_operandOf vM x1 x2 = some r) : CtI l yX8_operandOf wsX8_operandOf rmX8_operandOf g [.ref (bM 0), .int x1, .int x2] (cM g bM vM) (cM g bM vM) r 0 0 := by
  unfold CtI
  intro sz
  refine Met.ofW (cc := cX8_operandOf) (maxL := 3) (ret := (some .int)) (by decide) rfl ?_
  intro p e s m args below meth c s₁ B hml hv
  obtain ⟨rfl, hsz, hP, hK, hD0, hG⟩ := hv
  have hx := B.exec
  have hb := B.bytes
  have hr := B.returns
  have hts := atoms_spec (ws := wsX8_operandOf) B.pre
  have hown : s.vm.findClass RX8 = some m.cls := findClass_of_methodNamed B.named
  have hlocks := B.notSynchronized
  subst hsz
  have hD := hD0.self (sz := s.heap.size)
  generalize hAe : va_A (cM g bM vM) s.heap.size = A at hD hG ⊢
  have hA : ∀ q : Nat, s.heap.size ≤ q → A q := fun q h => by rw [← hAe]; exact Or.inr h
  clear hAe hD0
  have hS : va_S A s.heap s.heap [] := va_S.rf
  have hl := lv_entry ([.ref (bM 0), .int x1, .int x2]) (n := 3) (Nat.le_of_ble_eq_true rfl)
  rw [lg_entry_eq]
  generalize (lg_sl ([.ref (bM 0), .int x1, .int x2]) ++ List.replicate (3 - (lg_sl ([.ref (bM 0), .int x1, .int x2])).length) Slot.unset).toArray = ls at hl ⊢
  have hl : lv_has ls 3 [(0, .ref (bM 0)), (1, .int x1), (2, .int x2)] := hl
  have htu : ∀ w ∈ UW, w.before _ s = true := fun w h => hts w (List.mem_cons_of_mem _ h)
  unfold f_X8_operandOf at hf
  obtain ⟨H, hH⟩ : ∃ z, z = s.heap := ⟨_, rfl⟩
  obtain ⟨locs, hlo⟩ : ∃ z : List Loc, z = [] := ⟨_, rfl⟩
  have hS : va_S A s.heap H locs := by rw [hH, hlo]; exact hS
  rw [← hH] at hP
  have hW : W p l e (headSpec wsX8_operandOf rmX8_operandOf).room s m ([.ref (bM 0), .int x1, .int x2] : List Value).toArray below meth c H locs 0 0 (MQ below (qI g A (cM g bM vM) r) ([.ref (bM 0), .int x1, .int x2] : List Value).toArray s 0 0 A) (F0 m 0 ls []) := by
    refine lv_aload_n hx hb dX8_operandOf_0 rfl (lv_at hl 0 rfl) ?_
    refine lv_bipush (v := (56 : Int32)) hx hb dX8_operandOf_1 (by decide) ?_
    refine lv_iconst (v := (4 : Int32)) hx hb dX8_operandOf_3 (by decide) ?_
    refine lv_iload_n hx hb dX8_operandOf_4 rfl (lv_at hl 1 rfl) ?_
    refine lv_imul hx hb dX8_operandOf_5 ?_
    refine lv_iadd hx hb dX8_operandOf_6 ?_
    refine lv_iload_n hx hb dX8_operandOf_7 rfl (lv_at hl 2 rfl) ?_
    refine lv_iadd hx hb dX8_operandOf_8 ?_
    obtain ⟨r1, hg2, hf⟩ := o1_at hf
    refine k_viW ⟨hx, hb, hml, hown, htu⟩ hK hP hD hS hA hG (c_X8_get l g bM vM (((56 : Int32) + ((4 : Int32) * x1)) + x2) r1 hg2) (cwV 1 htu (gU_V mw_6_20 hcX8_get) rfl rfl rfl hdX8_get ⟨Nat.le_of_ble_eq_true rfl, Nat.le_of_ble_eq_true rfl⟩) (q0 := 0) (ci := 8) (fs := fcM bM vM) (q := (RX8, TX8, 23)) rfl rfl rfl (As := [.int (((56 : Int32) + ((4 : Int32) * x1)) + x2)]) (rest := []) rfl rfl hl.1 (Nat.le_of_ble_eq_true rfl) dX8_operandOf_9 (k1 := 0) (n1 := 0) rfl rfl ⟨Nat.le_refl _, Nat.le_refl _⟩ (fun H locs hP hD hS => ?_)
    have e3 := Option.some.inj hf
    exact k_iret hx hb hr hlocks hK hP hD hS e3 dX8_operandOf_12
  rw [hH, hlo] at hW
  exact hW
def f_X8_levelOf_L22 (x1 : Int32) (x2_3 : Int32) (x3_4 : Int32) (self6 : Int32 → Int32 → Vs → Option (Int32 × Vs)) (self16 : Int32 → Vs → Option (Int32 × Vs)) (x4_14 : Int32) (vM_15 : Vs) : Option (Int32 × Vs) :=
  o1 (f_X8_have vM_15 x3_4) (fun (r19 : Int32) => if r19 ≤ x4_14 then jn (fun (t22 : Int32) => self6 t22 (x3_4 + (1 : Int32)) vM_15) (fun k23 => if x3_4 = x1 then gd (inb x3_4 24) (k23 (vM_15.2.1 5 (x3_4).toNatClampNeg)) else k23 x2_3) else o1 (f_X8_operandOf vM_15 x3_4 x4_14) (fun (r28 : Int32) => o1 (f_X8_inputs vM_15) (fun (r30 : Int32) => jn (fun (t32 : Int32) => gd (inb x3_4 24) (jn (fun (t36 : Int32) => gd (inb x3_4 24) (bn (sI vM_15 5 (x3_4).toNatClampNeg t36) (fun (vM_40 : Vs) => self16 (x4_14 + (1 : Int32)) vM_40))) (fun k37 => if (t32 + (1 : Int32)) ≤ (vM_15.2.1 5 (x3_4).toNatClampNeg) then gd (inb x3_4 24) (k37 (vM_15.2.1 5 (x3_4).toNatClampNeg)) else k37 (t32 + (1 : Int32))))) (fun k33 => if r30 ≤ r28 then o1 (f_X8_operandOf vM_15 x3_4 x4_14) (fun (r46 : Int32) => gd (inb r46 24) (k33 (vM_15.2.1 5 (r46).toNatClampNeg))) else k33 (0 : Int32)))))
def f_X8_levelOf_L7 (x1 : Int32) (self6 : Int32 → Int32 → Vs → Option (Int32 × Vs)) (x2_3 : Int32) (x3_4 : Int32) (vM_5 : Vs) : Option (Int32 × Vs) :=
  if x1 < x3_4 then some (x2_3, vM_5) else gd (inb x3_4 24) (bn (sI vM_5 5 (x3_4).toNatClampNeg (0 : Int32)) (fun (vM_13 : Vs) => lp (f_X8_levelOf_L22 x1 x2_3 x3_4 self6) (fun _ _ => none) FU (0 : Int32) vM_13))
def f_X8_levelOf (vM : Vs) (x1 : Int32) : Option (Int32 × Vs) :=
  o1 (f_X8_inputs vM) (fun (r1 : Int32) => lp (f_X8_levelOf_L7 x1) (fun _ _ _ => none) FU (0 : Int32) r1 vM)
abbrev wsX8_levelOf : List Cond := .code yX8_levelOf cX8_levelOf 6 (some .int) :: UW
abbrev rmX8_levelOf : Room := { frames := 2, cells := 0, slots := 0, locals := 43 }
set_option maxHeartbeats 4000000 in
set_option maxRecDepth 100000 in
theorem c_X8_levelOf (l : Launch) (g : Gx) (bM : Nat → Nat) (vM : Vs) (x1 : Int32) (r : Int32) (vM1 : Vs) (hf : f_X8_levelOf vM x1 = some (r, vM1)) : CtI l yX8_levelOf wsX8_levelOf rmX8_levelOf g [.ref (bM 0), .int x1] (cM g bM vM) (cM g bM vM1) r 0 0 := by
  unfold CtI
  intro sz
  refine Met.ofW (cc := cX8_levelOf) (maxL := 6) (ret := (some .int)) (by decide) rfl ?_
  intro p e s m args below meth c s₁ B hml hv
  obtain ⟨rfl, hsz, hP, hK, hD0, hG⟩ := hv
  have hx := B.exec
  have hb := B.bytes
  have hr := B.returns
  have hts := atoms_spec (ws := wsX8_levelOf) B.pre
  have hown : s.vm.findClass RX8 = some m.cls := findClass_of_methodNamed B.named
  have hlocks := B.notSynchronized
  subst hsz
  have hD := hD0.self (sz := s.heap.size)
  generalize hAe : va_A (cM g bM vM) s.heap.size = A at hD hG ⊢
  have hA : ∀ q : Nat, s.heap.size ≤ q → A q := fun q h => by rw [← hAe]; exact Or.inr h
  clear hAe hD0
  have hS : va_S A s.heap s.heap [] := va_S.rf
  have hl := lv_entry ([.ref (bM 0), .int x1]) (n := 6) (Nat.le_of_ble_eq_true rfl)
  rw [lg_entry_eq]
  generalize (lg_sl ([.ref (bM 0), .int x1]) ++ List.replicate (6 - (lg_sl ([.ref (bM 0), .int x1])).length) Slot.unset).toArray = ls at hl ⊢
  have hl : lv_has ls 6 [(0, .ref (bM 0)), (1, .int x1)] := hl
  have htu : ∀ w ∈ UW, w.before _ s = true := fun w h => hts w (List.mem_cons_of_mem _ h)
  have k_5_77 := htu _ mw_5_77
  unfold f_X8_levelOf at hf
  obtain ⟨H, hH⟩ : ∃ z, z = s.heap := ⟨_, rfl⟩
  obtain ⟨locs, hlo⟩ : ∃ z : List Loc, z = [] := ⟨_, rfl⟩
  have hS : va_S A s.heap H locs := by rw [hH, hlo]; exact hS
  rw [← hH] at hP
  have hW : W p l e (headSpec wsX8_levelOf rmX8_levelOf).room s m ([.ref (bM 0), .int x1] : List Value).toArray below meth c H locs 0 0 (MQ below (qI g A (cM g bM vM1) r) ([.ref (bM 0), .int x1] : List Value).toArray s 0 0 A) (F0 m 0 ls []) := by
    refine lv_iconst (v := (0 : Int32)) hx hb dX8_levelOf_0 (by decide) ?_
    refine lv_istore_n (lv' := [(2, .int (0 : Int32)), (0, .ref (bM 0)), (1, .int x1)]) hx hb dX8_levelOf_1 rfl hl (by decide) rfl (fun ls hl => ?_)
    refine lv_aload_n hx hb dX8_levelOf_2 rfl (lv_at hl 1 rfl) ?_
    obtain ⟨r1, hg2, hf⟩ := o1_at hf
    refine k_viW ⟨hx, hb, hml, hown, htu⟩ hK hP hD hS hA hG (c_X8_inputs l g bM vM r1 hg2) (cwV 0 htu (gU_V mw_6_36 hcX8_inputs) rfl rfl rfl hdX8_inputs ⟨Nat.le_of_ble_eq_true rfl, Nat.le_of_ble_eq_true rfl⟩) (q0 := 0) (ci := 8) (fs := fcM bM vM) (q := (RX8, TX8, 23)) rfl rfl rfl (As := []) (rest := []) rfl rfl hl.1 (Nat.le_of_ble_eq_true rfl) dX8_levelOf_3 (k1 := 0) (n1 := 0) rfl rfl ⟨Nat.le_refl _, Nat.le_refl _⟩ (fun H locs hP hD hS => ?_)
    refine lv_istore_n (lv' := [(3, .int r1), (2, .int (0 : Int32)), (0, .ref (bM 0)), (1, .int x1)]) hx hb dX8_levelOf_6 rfl hl (by decide) rfl (fun ls hl => ?_)
    have hL7 : ∀ (x2_3 : Int32) (x3_4 : Int32) (vM_5 : Vs), lp (f_X8_levelOf_L7 x1) (fun _ _ _ => none) FU x2_3 x3_4 vM_5 = some (r, vM1) → ∀ (H : Heap) (locs : List Loc), va_P g.1 vwCl (cM g bM vM_5) H → va_D A (cM g bM vM_5) → va_S A s.heap H locs → ∀ ls : Array Slot, lv_has ls 6 [(0, .ref (bM 0)), (1, .int x1), (2, .int x2_3), (3, .int x3_4)] → W p l e (headSpec wsX8_levelOf rmX8_levelOf).room s m ([.ref (bM 0), .int x1] : List Value).toArray below meth c H locs 0 0 (MQ below (qI g A (cM g bM vM1) r) ([.ref (bM 0), .int x1] : List Value).toArray s 0 0 A) (F0 m 7 ls []) := by
      refine lp_ind (T := Int32 → Int32 → Vs → Option (Int32 × Vs)) (fun self6 => ∀ (x2_3 : Int32) (x3_4 : Int32) (vM_5 : Vs), self6 x2_3 x3_4 vM_5 = some (r, vM1) → ∀ (H : Heap) (locs : List Loc), va_P g.1 vwCl (cM g bM vM_5) H → va_D A (cM g bM vM_5) → va_S A s.heap H locs → ∀ ls : Array Slot, lv_has ls 6 [(0, .ref (bM 0)), (1, .int x1), (2, .int x2_3), (3, .int x3_4)] → W p l e (headSpec wsX8_levelOf rmX8_levelOf).room s m ([.ref (bM 0), .int x1] : List Value).toArray below meth c H locs 0 0 (MQ below (qI g A (cM g bM vM1) r) ([.ref (bM 0), .int x1] : List Value).toArray s 0 0 A) (F0 m 7 ls [])) ?_ ?_ FU
      · intro x2_3 x3_4 vM_5 hf; cases hf
      · intro self6 ih8 x2_3 x3_4 vM_5 hf H locs hP hD hS ls hl
        unfold f_X8_levelOf_L7 at hf
        refine lv_iload_n hx hb dX8_levelOf_7 rfl (lv_at hl 3 rfl) ?_
        refine lv_iload_n hx hb dX8_levelOf_8 rfl (lv_at hl 1 rfl) ?_
        refine lv_icmp_gt (tgt := 124) hx hb dX8_levelOf_9 (by decide) (fun c9 => ?_) (fun c9 => ?_)
        · have hf := it_t hf c9
          refine lv_iload_n hx hb dX8_levelOf_124 rfl (lv_at hl 2 rfl) ?_
          obtain ⟨e10, e11⟩ := kp_2 hf
          rw [e11] at hP hD
          exact k_iret hx hb hr hlocks hK hP hD hS e10 dX8_levelOf_125
        · have hf := it_f hf c9
          refine lv_aload_n hx hb dX8_levelOf_12 rfl (lv_at hl 0 rfl) ?_
          refine va_get (D := g.1) (ci := 8) (fs := fcM bM vM_5) (v := .ref (bM 6)) (C := RX8) (T := TX8) (N := 23) hx hb htu hinX8 hown hK hP 0 rfl rfl 5 (by decide) k_5_77 (fun _ h9 => h9) rfl dX8_levelOf_13 ?_
          refine lv_iload_n hx hb dX8_levelOf_16 rfl (lv_at hl 3 rfl) ?_
          refine lv_iconst (v := (0 : Int32)) hx hb dX8_levelOf_17 (by decide) ?_
          obtain ⟨h12, hf⟩ := gd_in hf
          refine va_iast (D := g.1) (f := (vM_5.2.1 5)) hx hb hK hP hD hS 3 0 rfl rfl h12 dX8_levelOf_18 (fun H locs hP hD hS => ?_)
          obtain ⟨vM_13, evM_13⟩ : ∃ z, z = sI vM_5 5 (x3_4).toNatClampNeg (0 : Int32) := ⟨_, rfl⟩
          have hf := bn_at hf evM_13
          have hP : va_P g.1 vwCl (cM g bM vM_13) H := by rw [evM_13]; exact hP
          have hD : va_D A (cM g bM vM_13) := by rw [evM_13]; exact hD
          refine lv_iconst (v := (0 : Int32)) hx hb dX8_levelOf_19 (by decide) ?_
          refine lv_istore (lv' := [(4, .int (0 : Int32)), (0, .ref (bM 0)), (1, .int x1), (2, .int x2_3), (3, .int x3_4)]) hx hb dX8_levelOf_20 hl (by decide) rfl (fun ls hl => ?_)
          have hL17 : ∀ (x4_14 : Int32) (vM_15 : Vs), lp (f_X8_levelOf_L22 x1 x2_3 x3_4 self6) (fun _ _ => none) FU x4_14 vM_15 = some (r, vM1) → ∀ (H : Heap) (locs : List Loc), va_P g.1 vwCl (cM g bM vM_15) H → va_D A (cM g bM vM_15) → va_S A s.heap H locs → ∀ ls : Array Slot, lv_has ls 6 [(0, .ref (bM 0)), (1, .int x1), (2, .int x2_3), (3, .int x3_4), (4, .int x4_14)] → W p l e (headSpec wsX8_levelOf rmX8_levelOf).room s m ([.ref (bM 0), .int x1] : List Value).toArray below meth c H locs 0 0 (MQ below (qI g A (cM g bM vM1) r) ([.ref (bM 0), .int x1] : List Value).toArray s 0 0 A) (F0 m 22 ls []) := by
            refine lp_ind (T := Int32 → Vs → Option (Int32 × Vs)) (fun self16 => ∀ (x4_14 : Int32) (vM_15 : Vs), self16 x4_14 vM_15 = some (r, vM1) → ∀ (H : Heap) (locs : List Loc), va_P g.1 vwCl (cM g bM vM_15) H → va_D A (cM g bM vM_15) → va_S A s.heap H locs → ∀ ls : Array Slot, lv_has ls 6 [(0, .ref (bM 0)), (1, .int x1), (2, .int x2_3), (3, .int x3_4), (4, .int x4_14)] → W p l e (headSpec wsX8_levelOf rmX8_levelOf).room s m ([.ref (bM 0), .int x1] : List Value).toArray below meth c H locs 0 0 (MQ below (qI g A (cM g bM vM1) r) ([.ref (bM 0), .int x1] : List Value).toArray s 0 0 A) (F0 m 22 ls [])) ?_ ?_ FU
            · intro x4_14 vM_15 hf; cases hf
            · intro self16 ih18 x4_14 vM_15 hf H locs hP hD hS ls hl
              unfold f_X8_levelOf_L22 at hf
              refine lv_iload hx hb dX8_levelOf_22 (lv_at hl 4 rfl) ?_
              refine lv_aload_n hx hb dX8_levelOf_24 rfl (lv_at hl 0 rfl) ?_
              refine lv_iload_n hx hb dX8_levelOf_25 rfl (lv_at hl 3 rfl) ?_
              obtain ⟨r19, hg20, hf⟩ := o1_at hf
              refine k_viW ⟨hx, hb, hml, hown, htu⟩ hK hP hD hS hA hG (c_X8_have l g bM vM_15 x3_4 r19 hg20) (cwV 1 htu (gU_V mw_6_91 hcX8_have) rfl rfl rfl hdX8_have ⟨Nat.le_of_ble_eq_true rfl, Nat.le_of_ble_eq_true rfl⟩) (q0 := 0) (ci := 8) (fs := fcM bM vM_15) (q := (RX8, TX8, 23)) rfl rfl rfl (As := [.int x3_4]) (rest := [.int x4_14]) rfl rfl hl.1 (Nat.le_of_ble_eq_true rfl) dX8_levelOf_26 (k1 := 0) (n1 := 0) rfl rfl ⟨Nat.le_refl _, Nat.le_refl _⟩ (fun H locs hP hD hS => ?_)
              refine lv_icmp_ge (tgt := 102) hx hb dX8_levelOf_29 (by decide) (fun c21 => ?_) (fun c21 => ?_)
              · have hf := it_t hf c21
                refine lv_iload_n hx hb dX8_levelOf_102 rfl (lv_at hl 3 rfl) ?_
                refine lv_iload_n hx hb dX8_levelOf_103 rfl (lv_at hl 1 rfl) ?_
                obtain ⟨k23, hk25, hf⟩ := jn_at hf
                have hJ24 : ∀ (t22 : Int32), k23 t22 = some (r, vM1) → ∀ (H : Heap) (locs : List Loc), va_P g.1 vwCl (cM g bM vM_15) H → va_D A (cM g bM vM_15) → va_S A s.heap H locs → ∀ ls : Array Slot, lv_has ls 6 [(0, .ref (bM 0)), (1, .int x1), (3, .int x3_4)] → W p l e (headSpec wsX8_levelOf rmX8_levelOf).room s m ([.ref (bM 0), .int x1] : List Value).toArray below meth c H locs 0 0 (MQ below (qI g A (cM g bM vM1) r) ([.ref (bM 0), .int x1] : List Value).toArray s 0 0 A) (F0 m 117 ls [.int t22]) := by
                  intro t22 hf H locs hP hD hS ls hl
                  rw [hk25] at hf
                  dsimp only at hf
                  clear hk25
                  refine lv_istore_n (lv' := [(2, .int t22), (0, .ref (bM 0)), (1, .int x1), (3, .int x3_4)]) hx hb dX8_levelOf_117 rfl hl (by decide) rfl (fun ls hl => ?_)
                  refine lv_iinc (v := (x3_4 + (1 : Int32))) (lv' := [(3, .int (x3_4 + (1 : Int32))), (2, .int t22), (0, .ref (bM 0)), (1, .int x1)]) hx hb dX8_levelOf_118 hl (k := 3) rfl rfl (by decide) rfl (fun ls hl => ?_)
                  refine lv_goto (tgt := 7) hx hb dX8_levelOf_121 (by decide) ?_
                  exact ih8 t22 (x3_4 + (1 : Int32)) vM_15 hf H locs hP hD hS _ (lv_sub hl [2, 3, 1, 0] rfl)
                refine lv_icmp_ne (tgt := 116) hx hb dX8_levelOf_104 (by decide) (fun c26 => ?_) (fun c26 => ?_)
                · have hf := it_f hf c26
                  refine lv_iload_n hx hb dX8_levelOf_116 rfl (lv_at hl 2 rfl) ?_
                  exact hJ24 x2_3 hf H locs hP hD hS _ (lv_sub hl [0, 1, 3] rfl)
                · have hf := it_t hf c26
                  refine lv_aload_n hx hb dX8_levelOf_107 rfl (lv_at hl 0 rfl) ?_
                  refine va_get (D := g.1) (ci := 8) (fs := fcM bM vM_15) (v := .ref (bM 6)) (C := RX8) (T := TX8) (N := 23) hx hb htu hinX8 hown hK hP 0 rfl rfl 5 (by decide) k_5_77 (fun _ h9 => h9) rfl dX8_levelOf_108 ?_
                  refine lv_iload_n hx hb dX8_levelOf_111 rfl (lv_at hl 3 rfl) ?_
                  obtain ⟨h27, hf⟩ := gd_in hf
                  refine va_iald (D := g.1) (f := (vM_15.2.1 5)) hx hb hK hP 3 0 rfl rfl h27 dX8_levelOf_112 ?_
                  refine lv_goto (tgt := 117) hx hb dX8_levelOf_113 (by decide) ?_
                  exact hJ24 (vM_15.2.1 5 (x3_4).toNatClampNeg) hf H locs hP hD hS _ (lv_sub hl [0, 1, 3] rfl)
              · have hf := it_f hf c21
                refine lv_aload_n hx hb dX8_levelOf_32 rfl (lv_at hl 0 rfl) ?_
                refine lv_iload_n hx hb dX8_levelOf_33 rfl (lv_at hl 3 rfl) ?_
                refine lv_iload hx hb dX8_levelOf_34 (lv_at hl 4 rfl) ?_
                obtain ⟨r28, hg29, hf⟩ := o1_at hf
                refine k_viW ⟨hx, hb, hml, hown, htu⟩ hK hP hD hS hA hG (c_X8_operandOf l g bM vM_15 x3_4 x4_14 r28 hg29) (cwV 2 htu (gU_V mw_6_84 hcX8_operandOf) rfl rfl rfl hdX8_operandOf ⟨Nat.le_of_ble_eq_true rfl, Nat.le_of_ble_eq_true rfl⟩) (q0 := 0) (ci := 8) (fs := fcM bM vM_15) (q := (RX8, TX8, 23)) rfl rfl rfl (As := [.int x3_4, .int x4_14]) (rest := []) rfl rfl hl.1 (Nat.le_of_ble_eq_true rfl) dX8_levelOf_36 (k1 := 0) (n1 := 0) rfl rfl ⟨Nat.le_refl _, Nat.le_refl _⟩ (fun H locs hP hD hS => ?_)
                refine lv_aload_n hx hb dX8_levelOf_39 rfl (lv_at hl 0 rfl) ?_
                obtain ⟨r30, hg31, hf⟩ := o1_at hf
                refine k_viW ⟨hx, hb, hml, hown, htu⟩ hK hP hD hS hA hG (c_X8_inputs l g bM vM_15 r30 hg31) (cwV 0 htu (gU_V mw_6_36 hcX8_inputs) rfl rfl rfl hdX8_inputs ⟨Nat.le_of_ble_eq_true rfl, Nat.le_of_ble_eq_true rfl⟩) (q0 := 0) (ci := 8) (fs := fcM bM vM_15) (q := (RX8, TX8, 23)) rfl rfl rfl (As := []) (rest := [.int r28]) rfl rfl hl.1 (Nat.le_of_ble_eq_true rfl) dX8_levelOf_40 (k1 := 0) (n1 := 0) rfl rfl ⟨Nat.le_refl _, Nat.le_refl _⟩ (fun H locs hP hD hS => ?_)
                obtain ⟨k33, hk44, hf⟩ := jn_at hf
                have hJ34 : ∀ (t32 : Int32), k33 t32 = some (r, vM1) → ∀ (H : Heap) (locs : List Loc), va_P g.1 vwCl (cM g bM vM_15) H → va_D A (cM g bM vM_15) → va_S A s.heap H locs → ∀ ls : Array Slot, lv_has ls 6 [(0, .ref (bM 0)), (1, .int x1), (2, .int x2_3), (3, .int x3_4), (4, .int x4_14)] → W p l e (headSpec wsX8_levelOf rmX8_levelOf).room s m ([.ref (bM 0), .int x1] : List Value).toArray below meth c H locs 0 0 (MQ below (qI g A (cM g bM vM1) r) ([.ref (bM 0), .int x1] : List Value).toArray s 0 0 A) (F0 m 62 ls [.int t32]) := by
                  intro t32 hf H locs hP hD hS ls hl
                  rw [hk44] at hf
                  dsimp only at hf
                  clear hk44
                  refine lv_istore (lv' := [(5, .int t32), (0, .ref (bM 0)), (1, .int x1), (2, .int x2_3), (3, .int x3_4), (4, .int x4_14)]) hx hb dX8_levelOf_62 hl (by decide) rfl (fun ls hl => ?_)
                  refine lv_aload_n hx hb dX8_levelOf_64 rfl (lv_at hl 1 rfl) ?_
                  refine va_get (D := g.1) (ci := 8) (fs := fcM bM vM_15) (v := .ref (bM 6)) (C := RX8) (T := TX8) (N := 23) hx hb htu hinX8 hown hK hP 0 rfl rfl 5 (by decide) k_5_77 (fun _ h9 => h9) rfl dX8_levelOf_65 ?_
                  refine lv_iload_n hx hb dX8_levelOf_68 rfl (lv_at hl 4 rfl) ?_
                  refine lv_iload hx hb dX8_levelOf_69 (lv_at hl 0 rfl) ?_
                  refine lv_iconst (v := (1 : Int32)) hx hb dX8_levelOf_71 (by decide) ?_
                  refine lv_iadd hx hb dX8_levelOf_72 ?_
                  refine lv_aload_n hx hb dX8_levelOf_73 rfl (lv_at hl 1 rfl) ?_
                  refine va_get (D := g.1) (ci := 8) (fs := fcM bM vM_15) (v := .ref (bM 6)) (C := RX8) (T := TX8) (N := 23) hx hb htu hinX8 hown hK hP 0 rfl rfl 5 (by decide) k_5_77 (fun _ h9 => h9) rfl dX8_levelOf_74 ?_
                  refine lv_iload_n hx hb dX8_levelOf_77 rfl (lv_at hl 4 rfl) ?_
                  obtain ⟨h35, hf⟩ := gd_in hf
                  refine va_iald (D := g.1) (f := (vM_15.2.1 5)) hx hb hK hP 3 0 rfl rfl h35 dX8_levelOf_78 ?_
                  obtain ⟨k37, hk41, hf⟩ := jn_at hf
                  have hJ38 : ∀ (t36 : Int32), k37 t36 = some (r, vM1) → ∀ (H : Heap) (locs : List Loc), va_P g.1 vwCl (cM g bM vM_15) H → va_D A (cM g bM vM_15) → va_S A s.heap H locs → ∀ ls : Array Slot, lv_has ls 6 [(0, .ref (bM 0)), (1, .int x1), (2, .int x2_3), (3, .int x3_4), (4, .int x4_14)] → W p l e (headSpec wsX8_levelOf rmX8_levelOf).room s m ([.ref (bM 0), .int x1] : List Value).toArray below meth c H locs 0 0 (MQ below (qI g A (cM g bM vM1) r) ([.ref (bM 0), .int x1] : List Value).toArray s 0 0 A) (F0 m 95 ls [.int t36, .int x3_4, .ref (bM 6)]) := by
                    intro t36 hf H locs hP hD hS ls hl
                    rw [hk41] at hf
                    dsimp only at hf
                    clear hk41
                    obtain ⟨h39, hf⟩ := gd_in hf
                    refine va_iast (D := g.1) (f := (vM_15.2.1 5)) hx hb hK hP hD hS 3 0 rfl rfl h39 dX8_levelOf_95 (fun H locs hP hD hS => ?_)
                    obtain ⟨vM_40, evM_40⟩ : ∃ z, z = sI vM_15 5 (x3_4).toNatClampNeg t36 := ⟨_, rfl⟩
                    have hf := bn_at hf evM_40
                    have hP : va_P g.1 vwCl (cM g bM vM_40) H := by rw [evM_40]; exact hP
                    have hD : va_D A (cM g bM vM_40) := by rw [evM_40]; exact hD
                    refine lv_iinc (v := (x4_14 + (1 : Int32))) (lv' := [(4, .int (x4_14 + (1 : Int32))), (0, .ref (bM 0)), (1, .int x1), (2, .int x2_3), (3, .int x3_4)]) hx hb dX8_levelOf_96 hl (k := 4) rfl rfl (by decide) rfl (fun ls hl => ?_)
                    refine lv_goto (tgt := 22) hx hb dX8_levelOf_99 (by decide) ?_
                    exact ih18 (x4_14 + (1 : Int32)) vM_40 hf H locs hP hD hS _ (lv_sub hl [1, 2, 3, 4, 0] rfl)
                  refine lv_icmp_le (tgt := 89) hx hb dX8_levelOf_79 (by decide) (fun c42 => ?_) (fun c42 => ?_)
                  · have hf := it_t hf c42
                    refine lv_aload_n hx hb dX8_levelOf_89 rfl (lv_at hl 1 rfl) ?_
                    refine va_get (D := g.1) (ci := 8) (fs := fcM bM vM_15) (v := .ref (bM 6)) (C := RX8) (T := TX8) (N := 23) hx hb htu hinX8 hown hK hP 0 rfl rfl 5 (by decide) k_5_77 (fun _ h9 => h9) rfl dX8_levelOf_90 ?_
                    refine lv_iload_n hx hb dX8_levelOf_93 rfl (lv_at hl 4 rfl) ?_
                    obtain ⟨h43, hf⟩ := gd_in hf
                    refine va_iald (D := g.1) (f := (vM_15.2.1 5)) hx hb hK hP 3 0 rfl rfl h43 dX8_levelOf_94 ?_
                    exact hJ38 (vM_15.2.1 5 (x3_4).toNatClampNeg) hf H locs hP hD hS _ (lv_sub hl [1, 2, 3, 4, 5] rfl)
                  · have hf := it_f hf c42
                    refine lv_iload hx hb dX8_levelOf_82 (lv_at hl 0 rfl) ?_
                    refine lv_iconst (v := (1 : Int32)) hx hb dX8_levelOf_84 (by decide) ?_
                    refine lv_iadd hx hb dX8_levelOf_85 ?_
                    refine lv_goto (tgt := 95) hx hb dX8_levelOf_86 (by decide) ?_
                    exact hJ38 (t32 + (1 : Int32)) hf H locs hP hD hS _ (lv_sub hl [1, 2, 3, 4, 5] rfl)
                refine lv_icmp_ge (tgt := 50) hx hb dX8_levelOf_43 (by decide) (fun c45 => ?_) (fun c45 => ?_)
                · have hf := it_t hf c45
                  refine lv_aload_n hx hb dX8_levelOf_50 rfl (lv_at hl 0 rfl) ?_
                  refine va_get (D := g.1) (ci := 8) (fs := fcM bM vM_15) (v := .ref (bM 6)) (C := RX8) (T := TX8) (N := 23) hx hb htu hinX8 hown hK hP 0 rfl rfl 5 (by decide) k_5_77 (fun _ h9 => h9) rfl dX8_levelOf_51 ?_
                  refine lv_aload_n hx hb dX8_levelOf_54 rfl (lv_at hl 0 rfl) ?_
                  refine lv_iload_n hx hb dX8_levelOf_55 rfl (lv_at hl 3 rfl) ?_
                  refine lv_iload hx hb dX8_levelOf_56 (lv_at hl 4 rfl) ?_
                  obtain ⟨r46, hg47, hf⟩ := o1_at hf
                  refine k_viW ⟨hx, hb, hml, hown, htu⟩ hK hP hD hS hA hG (c_X8_operandOf l g bM vM_15 x3_4 x4_14 r46 hg47) (cwV 2 htu (gU_V mw_6_84 hcX8_operandOf) rfl rfl rfl hdX8_operandOf ⟨Nat.le_of_ble_eq_true rfl, Nat.le_of_ble_eq_true rfl⟩) (q0 := 0) (ci := 8) (fs := fcM bM vM_15) (q := (RX8, TX8, 23)) rfl rfl rfl (As := [.int x3_4, .int x4_14]) (rest := [.ref (bM 6)]) rfl rfl hl.1 (Nat.le_of_ble_eq_true rfl) dX8_levelOf_58 (k1 := 0) (n1 := 0) rfl rfl ⟨Nat.le_refl _, Nat.le_refl _⟩ (fun H locs hP hD hS => ?_)
                  obtain ⟨h48, hf⟩ := gd_in hf
                  refine va_iald (D := g.1) (f := (vM_15.2.1 5)) hx hb hK hP 3 0 rfl rfl h48 dX8_levelOf_61 ?_
                  exact hJ34 (vM_15.2.1 5 (r46).toNatClampNeg) hf H locs hP hD hS _ (lv_sub hl [0, 1, 2, 3, 4] rfl)
                · have hf := it_f hf c45
                  refine lv_iconst (v := (0 : Int32)) hx hb dX8_levelOf_46 (by decide) ?_
                  refine lv_goto (tgt := 62) hx hb dX8_levelOf_47 (by decide) ?_
                  exact hJ34 (0 : Int32) hf H locs hP hD hS _ (lv_sub hl [0, 1, 2, 3, 4] rfl)
          exact hL17 (0 : Int32) vM_13 hf H locs hP hD hS _ (lv_sub hl [1, 2, 3, 4, 0] rfl)
    exact hL7 (0 : Int32) r1 vM hf H locs hP hD hS _ (lv_sub hl [2, 3, 1, 0] rfl)
  rw [hH, hlo] at hW
  exact hW
def f_X8_turned (x0 : Int32) : Option (Int32) :=
  jn (fun (t1 : Int32) => some (t1)) (fun k2 => if x0 = (2 : Int32) then k2 (2 : Int32) else k2 ((1 : Int32) - x0))
abbrev wsX8_turned : List Cond := .code yX8_turned cX8_turned 1 (some .int) :: UW
abbrev rmX8_turned : Room := { frames := 0, cells := 0, slots := 0, locals := 0 }
set_option maxHeartbeats 4000000 in
set_option maxRecDepth 100000 in
theorem c_X8_turned (l : Launch) (g : Gx) (x0 : Int32) (r : Int32) (hf : f_X8_turned x0 = some r) : CtI l yX8_turned wsX8_turned rmX8_turned g [.int x0] ([]) ([]) r 0 0 := by
  unfold CtI
  intro sz
  refine Met.ofW (cc := cX8_turned) (maxL := 1) (ret := (some .int)) (by decide) rfl ?_
  intro p e s m args below meth c s₁ B hml hv
  obtain ⟨rfl, hsz, hP, hK, hD0, hG⟩ := hv
  have hx := B.exec
  have hb := B.bytes
  have hr := B.returns
  have hts := atoms_spec (ws := wsX8_turned) B.pre
  have hown : s.vm.findClass RX8 = some m.cls := findClass_of_methodNamed B.named
  have hlocks := B.notSynchronized
  subst hsz
  have hD := hD0.self (sz := s.heap.size)
  generalize hAe : va_A ([]) s.heap.size = A at hD hG ⊢
  have hA : ∀ q : Nat, s.heap.size ≤ q → A q := fun q h => by rw [← hAe]; exact Or.inr h
  clear hAe hD0
  have hS : va_S A s.heap s.heap [] := va_S.rf
  have hl := lv_entry ([.int x0]) (n := 1) (Nat.le_of_ble_eq_true rfl)
  rw [lg_entry_eq]
  generalize (lg_sl ([.int x0]) ++ List.replicate (1 - (lg_sl ([.int x0])).length) Slot.unset).toArray = ls at hl ⊢
  have hl : lv_has ls 1 [(0, .int x0)] := hl
  have htu : ∀ w ∈ UW, w.before _ s = true := fun w h => hts w (List.mem_cons_of_mem _ h)
  unfold f_X8_turned at hf
  obtain ⟨H, hH⟩ : ∃ z, z = s.heap := ⟨_, rfl⟩
  obtain ⟨locs, hlo⟩ : ∃ z : List Loc, z = [] := ⟨_, rfl⟩
  have hS : va_S A s.heap H locs := by rw [hH, hlo]; exact hS
  rw [← hH] at hP
  have hW : W p l e (headSpec wsX8_turned rmX8_turned).room s m ([.int x0] : List Value).toArray below meth c H locs 0 0 (MQ below (qI g A ([]) r) ([.int x0] : List Value).toArray s 0 0 A) (F0 m 0 ls []) := by
    refine lv_iload_n hx hb dX8_turned_0 rfl (lv_at hl 0 rfl) ?_
    refine lv_iconst (v := (2 : Int32)) hx hb dX8_turned_1 (by decide) ?_
    obtain ⟨k2, hk5, hf⟩ := jn_at hf
    have hJ3 : ∀ (t1 : Int32), k2 t1 = some r → ∀ (H : Heap) (locs : List Loc), va_P g.1 vwCl ([]) H → va_D A ([]) → va_S A s.heap H locs → ∀ ls : Array Slot, lv_has ls 1 [] → W p l e (headSpec wsX8_turned rmX8_turned).room s m ([.int x0] : List Value).toArray below meth c H locs 0 0 (MQ below (qI g A ([]) r) ([.int x0] : List Value).toArray s 0 0 A) (F0 m 12 ls [.int t1]) := by
      intro t1 hf H locs hP hD hS ls hl
      rw [hk5] at hf
      dsimp only at hf
      clear hk5
      have e4 := Option.some.inj hf
      exact k_iret hx hb hr hlocks hK hP hD hS e4 dX8_turned_12
    refine lv_icmp_ne (tgt := 9) hx hb dX8_turned_2 (by decide) (fun c6 => ?_) (fun c6 => ?_)
    · have hf := it_f hf c6
      refine lv_iconst (v := (1 : Int32)) hx hb dX8_turned_9 (by decide) ?_
      refine lv_iload_n hx hb dX8_turned_10 rfl (lv_at hl 0 rfl) ?_
      refine lv_isub hx hb dX8_turned_11 ?_
      exact hJ3 ((1 : Int32) - x0) hf H locs hP hD hS _ (lv_sub hl [] rfl)
    · have hf := it_t hf c6
      refine lv_iconst (v := (2 : Int32)) hx hb dX8_turned_5 (by decide) ?_
      refine lv_goto (tgt := 12) hx hb dX8_turned_6 (by decide) ?_
      exact hJ3 (2 : Int32) hf H locs hP hD hS _ (lv_sub hl [] rfl)
  rw [hH, hlo] at hW
  exact hW
def f_X8_decided (x0 : Int32) (x1 : Int32) (x2 : Int32) : Option (Int32) :=
  jn (fun (t1 : Int32) => some (t1)) (fun k2 => jn (k2 x2) (fun k6 => if x0 = x2 then k6 else if x1 = x2 then k6 else jn (k2 (2 : Int32)) (fun k11 => if x0 = (2 : Int32) then k11 else if x1 = (2 : Int32) then k11 else k2 ((1 : Int32) - x2))))
abbrev wsX8_decided : List Cond := .code yX8_decided cX8_decided 3 (some .int) :: UW
abbrev rmX8_decided : Room := { frames := 0, cells := 0, slots := 0, locals := 0 }
set_option maxHeartbeats 4000000 in
set_option maxRecDepth 100000 in
theorem c_X8_decided (l : Launch) (g : Gx) (x0 : Int32) (x1 : Int32) (x2 : Int32) (r : Int32) (hf : f_X8_decided x0 x1 x2 = some r) : CtI l yX8_decided wsX8_decided rmX8_decided g [.int x0, .int x1, .int x2] ([]) ([]) r 0 0 := by
  unfold CtI
  intro sz
  refine Met.ofW (cc := cX8_decided) (maxL := 3) (ret := (some .int)) (by decide) rfl ?_
  intro p e s m args below meth c s₁ B hml hv
  obtain ⟨rfl, hsz, hP, hK, hD0, hG⟩ := hv
  have hx := B.exec
  have hb := B.bytes
  have hr := B.returns
  have hts := atoms_spec (ws := wsX8_decided) B.pre
  have hown : s.vm.findClass RX8 = some m.cls := findClass_of_methodNamed B.named
  have hlocks := B.notSynchronized
  subst hsz
  have hD := hD0.self (sz := s.heap.size)
  generalize hAe : va_A ([]) s.heap.size = A at hD hG ⊢
  have hA : ∀ q : Nat, s.heap.size ≤ q → A q := fun q h => by rw [← hAe]; exact Or.inr h
  clear hAe hD0
  have hS : va_S A s.heap s.heap [] := va_S.rf
  have hl := lv_entry ([.int x0, .int x1, .int x2]) (n := 3) (Nat.le_of_ble_eq_true rfl)
  rw [lg_entry_eq]
  generalize (lg_sl ([.int x0, .int x1, .int x2]) ++ List.replicate (3 - (lg_sl ([.int x0, .int x1, .int x2])).length) Slot.unset).toArray = ls at hl ⊢
  have hl : lv_has ls 3 [(0, .int x0), (1, .int x1), (2, .int x2)] := hl
  have htu : ∀ w ∈ UW, w.before _ s = true := fun w h => hts w (List.mem_cons_of_mem _ h)
  unfold f_X8_decided at hf
  obtain ⟨H, hH⟩ : ∃ z, z = s.heap := ⟨_, rfl⟩
  obtain ⟨locs, hlo⟩ : ∃ z : List Loc, z = [] := ⟨_, rfl⟩
  have hS : va_S A s.heap H locs := by rw [hH, hlo]; exact hS
  rw [← hH] at hP
  have hW : W p l e (headSpec wsX8_decided rmX8_decided).room s m ([.int x0, .int x1, .int x2] : List Value).toArray below meth c H locs 0 0 (MQ below (qI g A ([]) r) ([.int x0, .int x1, .int x2] : List Value).toArray s 0 0 A) (F0 m 0 ls []) := by
    refine lv_iload_n hx hb dX8_decided_0 rfl (lv_at hl 0 rfl) ?_
    refine lv_iload_n hx hb dX8_decided_1 rfl (lv_at hl 2 rfl) ?_
    obtain ⟨k2, hk5, hf⟩ := jn_at hf
    have hJ3 : ∀ (t1 : Int32), k2 t1 = some r → ∀ (H : Heap) (locs : List Loc), va_P g.1 vwCl ([]) H → va_D A ([]) → va_S A s.heap H locs → ∀ ls : Array Slot, lv_has ls 3 [] → W p l e (headSpec wsX8_decided rmX8_decided).room s m ([.int x0, .int x1, .int x2] : List Value).toArray below meth c H locs 0 0 (MQ below (qI g A ([]) r) ([.int x0, .int x1, .int x2] : List Value).toArray s 0 0 A) (F0 m 31 ls [.int t1]) := by
      intro t1 hf H locs hP hD hS ls hl
      rw [hk5] at hf
      dsimp only at hf
      clear hk5
      have e4 := Option.some.inj hf
      exact k_iret hx hb hr hlocks hK hP hD hS e4 dX8_decided_31
    obtain ⟨k6, hk8, hf⟩ := jn_at hf
    have hJ7 : k6 = some r → ∀ (H : Heap) (locs : List Loc), va_P g.1 vwCl ([]) H → va_D A ([]) → va_S A s.heap H locs → ∀ ls : Array Slot, lv_has ls 3 [(2, .int x2)] → W p l e (headSpec wsX8_decided rmX8_decided).room s m ([.int x0, .int x1, .int x2] : List Value).toArray below meth c H locs 0 0 (MQ below (qI g A ([]) r) ([.int x0, .int x1, .int x2] : List Value).toArray s 0 0 A) (F0 m 10 ls []) := by
      intro hf H locs hP hD hS ls hl
      rw [hk8] at hf
      clear hk8
      refine lv_iload_n hx hb dX8_decided_10 rfl (lv_at hl 0 rfl) ?_
      refine lv_goto (tgt := 31) hx hb dX8_decided_11 (by decide) ?_
      exact hJ3 x2 hf H locs hP hD hS _ (lv_sub hl [] rfl)
    refine lv_icmp_eq (tgt := 10) hx hb dX8_decided_2 (by decide) (fun c9 => ?_) (fun c9 => ?_)
    · have hf := it_t hf c9
      exact hJ7 hf H locs hP hD hS _ (lv_sub hl [2] rfl)
    · have hf := it_f hf c9
      refine lv_iload_n hx hb dX8_decided_5 rfl (lv_at hl 1 rfl) ?_
      refine lv_iload_n hx hb dX8_decided_6 rfl (lv_at hl 2 rfl) ?_
      refine lv_icmp_ne (tgt := 14) hx hb dX8_decided_7 (by decide) (fun c10 => ?_) (fun c10 => ?_)
      · have hf := it_f hf c10
        refine lv_iload_n hx hb dX8_decided_14 rfl (lv_at hl 0 rfl) ?_
        refine lv_iconst (v := (2 : Int32)) hx hb dX8_decided_15 (by decide) ?_
        obtain ⟨k11, hk13, hf⟩ := jn_at hf
        have hJ12 : k11 = some r → ∀ (H : Heap) (locs : List Loc), va_P g.1 vwCl ([]) H → va_D A ([]) → va_S A s.heap H locs → ∀ ls : Array Slot, lv_has ls 3 [] → W p l e (headSpec wsX8_decided rmX8_decided).room s m ([.int x0, .int x1, .int x2] : List Value).toArray below meth c H locs 0 0 (MQ below (qI g A ([]) r) ([.int x0, .int x1, .int x2] : List Value).toArray s 0 0 A) (F0 m 24 ls []) := by
          intro hf H locs hP hD hS ls hl
          rw [hk13] at hf
          clear hk13
          refine lv_iconst (v := (2 : Int32)) hx hb dX8_decided_24 (by decide) ?_
          refine lv_goto (tgt := 31) hx hb dX8_decided_25 (by decide) ?_
          exact hJ3 (2 : Int32) hf H locs hP hD hS _ (lv_sub hl [] rfl)
        refine lv_icmp_eq (tgt := 24) hx hb dX8_decided_16 (by decide) (fun c14 => ?_) (fun c14 => ?_)
        · have hf := it_t hf c14
          exact hJ12 hf H locs hP hD hS _ (lv_sub hl [] rfl)
        · have hf := it_f hf c14
          refine lv_iload_n hx hb dX8_decided_19 rfl (lv_at hl 1 rfl) ?_
          refine lv_iconst (v := (2 : Int32)) hx hb dX8_decided_20 (by decide) ?_
          refine lv_icmp_ne (tgt := 28) hx hb dX8_decided_21 (by decide) (fun c15 => ?_) (fun c15 => ?_)
          · have hf := it_f hf c15
            refine lv_iconst (v := (1 : Int32)) hx hb dX8_decided_28 (by decide) ?_
            refine lv_iload_n hx hb dX8_decided_29 rfl (lv_at hl 2 rfl) ?_
            refine lv_isub hx hb dX8_decided_30 ?_
            exact hJ3 ((1 : Int32) - x2) hf H locs hP hD hS _ (lv_sub hl [] rfl)
          · have hf := it_t hf c15
            exact hJ12 hf H locs hP hD hS _ (lv_sub hl [] rfl)
      · have hf := it_t hf c10
        exact hJ7 hf H locs hP hD hS _ (lv_sub hl [2] rfl)
  rw [hH, hlo] at hW
  exact hW
def f_X8_gate_clean_L126 (vM : Vs) (x1 : Int32) (r1 : Int32) (t20 : Int32) (self25 : Int32 → Int32 → Option (Int32)) (x4_23 : Int32) (x6_24 : Int32) : Option (Int32) :=
  o1 (f_X8_have vM x1) (fun (r28 : Int32) => if r28 ≤ x6_24 then jn (fun (t31 : Int32) => some (t31)) (fun k32 => jn (o1 (f_X8_turned x4_23) (fun (r38 : Int32) => k32 r38)) (fun k36 => if r1 = (2 : Int32) then k36 else if r1 = (3 : Int32) then k36 else if r1 = (5 : Int32) then k36 else k32 x4_23)) else o1 (f_X8_operandOf vM x1 x6_24) (fun (r44 : Int32) => gd (inb r44 24) (jn (fun (x4_47 : Int32) => self25 x4_47 (x6_24 + (1 : Int32))) (fun k48 => if t20 = 0 then jn (fun (t52 : Int32) => o1 (f_X8_decided x4_23 (vM.2.1 7 (r44).toNatClampNeg) t52) (fun (r55 : Int32) => k48 r55)) (fun k53 => jn (k53 (0 : Int32)) (fun k58 => if r1 = 0 then k58 else if r1 = (2 : Int32) then k58 else k53 (1 : Int32))) else jn (fun (t63 : Int32) => k48 t63) (fun k64 => jn (k64 (2 : Int32)) (fun k67 => if x4_23 = (2 : Int32) then k67 else if (vM.2.1 7 (r44).toNatClampNeg) = (2 : Int32) then k67 else if x4_23 = (vM.2.1 7 (r44).toNatClampNeg) then k64 (0 : Int32) else k64 (1 : Int32)))))))
def f_X8_gate_clean (vM : Vs) (x1 : Int32) : Option (Int32) :=
  o1 (f_X8_kindOf vM x1) (fun (r1 : Int32) => o1 (f_X8_operandOf vM x1 (0 : Int32)) (fun (r3 : Int32) => gd (inb r3 24) (jn (jn (fun (t8 : Int32) => some (t8)) (fun k9 => if r1 = (6 : Int32) then o1 (f_X8_turned (vM.2.1 7 (r3).toNatClampNeg)) (fun (r14 : Int32) => k9 r14) else k9 (vM.2.1 7 (r3).toNatClampNeg))) (fun k6 => if r1 = (6 : Int32) then k6 else if r1 = (7 : Int32) then k6 else if r1 = (8 : Int32) then o1 (f_X8_operandOf vM x1 (1 : Int32)) (fun (r79 : Int32) => gd (inb r79 24) (o1 (f_X8_operandOf vM x1 (2 : Int32)) (fun (r82 : Int32) => gd (inb r82 24) (jn (fun (t85 : Int32) => some (t85)) (fun k86 => if (vM.2.1 7 (r3).toNatClampNeg) = 0 then k86 (vM.2.1 7 (r79).toNatClampNeg) else if (vM.2.1 7 (r3).toNatClampNeg) = (1 : Int32) then k86 (vM.2.1 7 (r82).toNatClampNeg) else if (vM.2.1 7 (r79).toNatClampNeg) = (vM.2.1 7 (r82).toNatClampNeg) then k86 (vM.2.1 7 (r79).toNatClampNeg) else k86 (2 : Int32)))))) else jn (fun (t20 : Int32) => lp (f_X8_gate_clean_L126 vM x1 r1 t20) (fun _ _ => none) FU (vM.2.1 7 (r3).toNatClampNeg) (1 : Int32)) (fun k21 => jn (k21 (1 : Int32)) (fun k74 => if r1 = (4 : Int32) then k74 else if r1 = (5 : Int32) then k74 else k21 (0 : Int32)))))))
abbrev wsX8_gate : List Cond := .code yX8_gate cX8_gate 8 (some .int) :: UW
abbrev rmX8_gate_clean : Room := { frames := 2, cells := 0, slots := 0, locals := 43 }
set_option maxHeartbeats 4000000 in
set_option maxRecDepth 100000 in
theorem c_X8_gate_clean (l : Launch) (g : Gx) (bM : Nat → Nat) (vM : Vs) (x1 : Int32) (r : Int32) (hf : f_X8_gate_clean vM x1 = some r) : CtI l yX8_gate wsX8_gate rmX8_gate_clean g [.ref (bM 0), .int x1, .ref (bM 8)] (cM g bM vM) (cM g bM vM) r 0 0 := by
  unfold CtI
  intro sz
  refine Met.ofW (cc := cX8_gate) (maxL := 8) (ret := (some .int)) (by decide) rfl ?_
  intro p e s m args below meth c s₁ B hml hv
  obtain ⟨rfl, hsz, hP, hK, hD0, hG⟩ := hv
  have hx := B.exec
  have hb := B.bytes
  have hr := B.returns
  have hts := atoms_spec (ws := wsX8_gate) B.pre
  have hown : s.vm.findClass RX8 = some m.cls := findClass_of_methodNamed B.named
  have hlocks := B.notSynchronized
  subst hsz
  have hD := hD0.self (sz := s.heap.size)
  generalize hAe : va_A (cM g bM vM) s.heap.size = A at hD hG ⊢
  have hA : ∀ q : Nat, s.heap.size ≤ q → A q := fun q h => by rw [← hAe]; exact Or.inr h
  clear hAe hD0
  have hS : va_S A s.heap s.heap [] := va_S.rf
  have hl := lv_entry ([.ref (bM 0), .int x1, .ref (bM 8)]) (n := 8) (Nat.le_of_ble_eq_true rfl)
  rw [lg_entry_eq]
  generalize (lg_sl ([.ref (bM 0), .int x1, .ref (bM 8)]) ++ List.replicate (8 - (lg_sl ([.ref (bM 0), .int x1, .ref (bM 8)])).length) Slot.unset).toArray = ls at hl ⊢
  have hl : lv_has ls 8 [(0, .ref (bM 0)), (1, .int x1), (2, .ref (bM 8))] := hl
  have htu : ∀ w ∈ UW, w.before _ s = true := fun w h => hts w (List.mem_cons_of_mem _ h)
  unfold f_X8_gate_clean at hf
  obtain ⟨H, hH⟩ : ∃ z, z = s.heap := ⟨_, rfl⟩
  obtain ⟨locs, hlo⟩ : ∃ z : List Loc, z = [] := ⟨_, rfl⟩
  have hS : va_S A s.heap H locs := by rw [hH, hlo]; exact hS
  rw [← hH] at hP
  have hW : W p l e (headSpec wsX8_gate rmX8_gate_clean).room s m ([.ref (bM 0), .int x1, .ref (bM 8)] : List Value).toArray below meth c H locs 0 0 (MQ below (qI g A (cM g bM vM) r) ([.ref (bM 0), .int x1, .ref (bM 8)] : List Value).toArray s 0 0 A) (F0 m 0 ls []) := by
    refine lv_aload_n hx hb dX8_gate_0 rfl (lv_at hl 0 rfl) ?_
    refine lv_iload_n hx hb dX8_gate_1 rfl (lv_at hl 1 rfl) ?_
    obtain ⟨r1, hg2, hf⟩ := o1_at hf
    refine k_viW ⟨hx, hb, hml, hown, htu⟩ hK hP hD hS hA hG (c_X8_kindOf l g bM vM x1 r1 hg2) (cwV 1 htu (gU_V mw_6_80 hcX8_kindOf) rfl rfl rfl hdX8_kindOf ⟨Nat.le_of_ble_eq_true rfl, Nat.le_of_ble_eq_true rfl⟩) (q0 := 0) (ci := 8) (fs := fcM bM vM) (q := (RX8, TX8, 23)) rfl rfl rfl (As := [.int x1]) (rest := []) rfl rfl hl.1 (Nat.le_of_ble_eq_true rfl) dX8_gate_2 (k1 := 0) (n1 := 0) rfl rfl ⟨Nat.le_refl _, Nat.le_refl _⟩ (fun H locs hP hD hS => ?_)
    refine lv_istore_n (lv' := [(3, .int r1), (0, .ref (bM 0)), (1, .int x1), (2, .ref (bM 8))]) hx hb dX8_gate_5 rfl hl (by decide) rfl (fun ls hl => ?_)
    refine lv_aload_n hx hb dX8_gate_6 rfl (lv_at hl 3 rfl) ?_
    refine lv_aload_n hx hb dX8_gate_7 rfl (lv_at hl 1 rfl) ?_
    refine lv_iload_n hx hb dX8_gate_8 rfl (lv_at hl 2 rfl) ?_
    refine lv_iconst (v := (0 : Int32)) hx hb dX8_gate_9 (by decide) ?_
    obtain ⟨r3, hg4, hf⟩ := o1_at hf
    refine k_viW ⟨hx, hb, hml, hown, htu⟩ hK hP hD hS hA hG (c_X8_operandOf l g bM vM x1 (0 : Int32) r3 hg4) (cwV 2 htu (gU_V mw_6_84 hcX8_operandOf) rfl rfl rfl hdX8_operandOf ⟨Nat.le_of_ble_eq_true rfl, Nat.le_of_ble_eq_true rfl⟩) (q0 := 0) (ci := 8) (fs := fcM bM vM) (q := (RX8, TX8, 23)) rfl rfl rfl (As := [.int x1, .int (0 : Int32)]) (rest := [.ref (bM 8)]) rfl rfl hl.1 (Nat.le_of_ble_eq_true rfl) dX8_gate_10 (k1 := 0) (n1 := 0) rfl rfl ⟨Nat.le_refl _, Nat.le_refl _⟩ (fun H locs hP hD hS => ?_)
    obtain ⟨h5, hf⟩ := gd_in hf
    refine va_iald (D := g.1) (f := (vM.2.1 7)) hx hb hK hP 5 0 rfl rfl h5 dX8_gate_13 ?_
    refine lv_istore (lv' := [(4, .int (vM.2.1 7 (r3).toNatClampNeg)), (3, .int r1), (0, .ref (bM 0)), (1, .int x1), (2, .ref (bM 8))]) hx hb dX8_gate_14 hl (by decide) rfl (fun ls hl => ?_)
    refine lv_iload_n hx hb dX8_gate_16 rfl (lv_at hl 1 rfl) ?_
    refine lv_bipush (v := (6 : Int32)) hx hb dX8_gate_17 (by decide) ?_
    obtain ⟨k6, hk16, hf⟩ := jn_at hf
    have hJ7 : k6 = some r → ∀ (H : Heap) (locs : List Loc), va_P g.1 vwCl (cM g bM vM) H → va_D A (cM g bM vM) → va_S A s.heap H locs → ∀ ls : Array Slot, lv_has ls 8 [(3, .int r1), (4, .int (vM.2.1 7 (r3).toNatClampNeg))] → W p l e (headSpec wsX8_gate rmX8_gate_clean).room s m ([.ref (bM 0), .int x1, .ref (bM 8)] : List Value).toArray below meth c H locs 0 0 (MQ below (qI g A (cM g bM vM) r) ([.ref (bM 0), .int x1, .ref (bM 8)] : List Value).toArray s 0 0 A) (F0 m 28 ls []) := by
      intro hf H locs hP hD hS ls hl
      rw [hk16] at hf
      clear hk16
      refine lv_iload_n hx hb dX8_gate_28 rfl (lv_at hl 0 rfl) ?_
      refine lv_bipush (v := (6 : Int32)) hx hb dX8_gate_29 (by decide) ?_
      obtain ⟨k9, hk12, hf⟩ := jn_at hf
      have hJ10 : ∀ (t8 : Int32), k9 t8 = some r → ∀ (H : Heap) (locs : List Loc), va_P g.1 vwCl (cM g bM vM) H → va_D A (cM g bM vM) → va_S A s.heap H locs → ∀ ls : Array Slot, lv_has ls 8 [] → W p l e (headSpec wsX8_gate rmX8_gate_clean).room s m ([.ref (bM 0), .int x1, .ref (bM 8)] : List Value).toArray below meth c H locs 0 0 (MQ below (qI g A (cM g bM vM) r) ([.ref (bM 0), .int x1, .ref (bM 8)] : List Value).toArray s 0 0 A) (F0 m 44 ls [.int t8]) := by
        intro t8 hf H locs hP hD hS ls hl
        rw [hk12] at hf
        dsimp only at hf
        clear hk12
        have e11 := Option.some.inj hf
        exact k_iret hx hb hr hlocks hK hP hD hS e11 dX8_gate_44
      refine lv_icmp_ne (tgt := 42) hx hb dX8_gate_31 (by decide) (fun c13 => ?_) (fun c13 => ?_)
      · have hf := it_f hf c13
        refine lv_iload hx hb dX8_gate_42 (lv_at hl 1 rfl) ?_
        exact hJ10 (vM.2.1 7 (r3).toNatClampNeg) hf H locs hP hD hS _ (lv_sub hl [] rfl)
      · have hf := it_t hf c13
        refine lv_iload hx hb dX8_gate_34 (lv_at hl 1 rfl) ?_
        obtain ⟨r14, hg15, hf⟩ := o1_at hf
        refine k_si0 ⟨hx, hb, hml, hown, htu⟩ hK hP hD hS hA hG (c_X8_turned l g (vM.2.1 7 (r3).toNatClampNeg) r14 hg15) (va_cwS 1 htu (gU_S mw_6_88 hcX8_turned) rfl rfl rfl hdX8_turned ⟨Nat.le_of_ble_eq_true rfl, Nat.le_of_ble_eq_true rfl⟩) (As := [.int (vM.2.1 7 (r3).toNatClampNeg)]) (rest := []) rfl rfl hl.1 (Nat.le_of_ble_eq_true rfl) dX8_gate_36 (k1 := 0) (n1 := 0) rfl rfl ⟨Nat.le_refl _, Nat.le_refl _⟩ (fun H locs hP hD hS => ?_)
        refine lv_goto (tgt := 44) hx hb dX8_gate_39 (by decide) ?_
        exact hJ10 r14 hf H locs hP hD hS _ (lv_sub hl [] rfl)
    refine lv_icmp_eq (tgt := 28) hx hb dX8_gate_19 (by decide) (fun c17 => ?_) (fun c17 => ?_)
    · have hf := it_t hf c17
      exact hJ7 hf H locs hP hD hS _ (lv_sub hl [1, 0] rfl)
    · have hf := it_f hf c17
      refine lv_iload_n hx hb dX8_gate_22 rfl (lv_at hl 1 rfl) ?_
      refine lv_bipush (v := (7 : Int32)) hx hb dX8_gate_23 (by decide) ?_
      refine lv_icmp_ne (tgt := 45) hx hb dX8_gate_25 (by decide) (fun c18 => ?_) (fun c18 => ?_)
      · have hf := it_f hf c18
        refine lv_iload_n hx hb dX8_gate_45 rfl (lv_at hl 1 rfl) ?_
        refine lv_bipush (v := (8 : Int32)) hx hb dX8_gate_46 (by decide) ?_
        refine lv_icmp_ne (tgt := 106) hx hb dX8_gate_48 (by decide) (fun c19 => ?_) (fun c19 => ?_)
        · have hf := it_f hf c19
          refine lv_iload_n hx hb dX8_gate_106 rfl (lv_at hl 1 rfl) ?_
          refine lv_iconst (v := (4 : Int32)) hx hb dX8_gate_107 (by decide) ?_
          obtain ⟨k21, hk73, hf⟩ := jn_at hf
          have hJ22 : ∀ (t20 : Int32), k21 t20 = some r → ∀ (H : Heap) (locs : List Loc), va_P g.1 vwCl (cM g bM vM) H → va_D A (cM g bM vM) → va_S A s.heap H locs → ∀ ls : Array Slot, lv_has ls 8 [(0, .ref (bM 0)), (1, .int x1), (2, .ref (bM 8)), (3, .int r1), (4, .int (vM.2.1 7 (r3).toNatClampNeg))] → W p l e (headSpec wsX8_gate rmX8_gate_clean).room s m ([.ref (bM 0), .int x1, .ref (bM 8)] : List Value).toArray below meth c H locs 0 0 (MQ below (qI g A (cM g bM vM) r) ([.ref (bM 0), .int x1, .ref (bM 8)] : List Value).toArray s 0 0 A) (F0 m 121 ls [.int t20]) := by
            intro t20 hf H locs hP hD hS ls hl
            rw [hk73] at hf
            dsimp only at hf
            clear hk73
            refine lv_istore (lv' := [(5, .int t20), (0, .ref (bM 0)), (1, .int x1), (2, .ref (bM 8)), (3, .int r1), (4, .int (vM.2.1 7 (r3).toNatClampNeg))]) hx hb dX8_gate_121 hl (by decide) rfl (fun ls hl => ?_)
            refine lv_iconst (v := (1 : Int32)) hx hb dX8_gate_123 (by decide) ?_
            refine lv_istore (lv' := [(6, .int (1 : Int32)), (5, .int t20), (0, .ref (bM 0)), (1, .int x1), (2, .ref (bM 8)), (3, .int r1), (4, .int (vM.2.1 7 (r3).toNatClampNeg))]) hx hb dX8_gate_124 hl (by decide) rfl (fun ls hl => ?_)
            have hL26 : ∀ (x4_23 : Int32) (x6_24 : Int32), lp (f_X8_gate_clean_L126 vM x1 r1 t20) (fun _ _ => none) FU x4_23 x6_24 = some r → ∀ (H : Heap) (locs : List Loc), va_P g.1 vwCl (cM g bM vM) H → va_D A (cM g bM vM) → va_S A s.heap H locs → ∀ ls : Array Slot, lv_has ls 8 [(0, .ref (bM 0)), (1, .int x1), (2, .ref (bM 8)), (3, .int r1), (4, .int x4_23), (5, .int t20), (6, .int x6_24)] → W p l e (headSpec wsX8_gate rmX8_gate_clean).room s m ([.ref (bM 0), .int x1, .ref (bM 8)] : List Value).toArray below meth c H locs 0 0 (MQ below (qI g A (cM g bM vM) r) ([.ref (bM 0), .int x1, .ref (bM 8)] : List Value).toArray s 0 0 A) (F0 m 126 ls []) := by
              refine lp_ind (T := Int32 → Int32 → Option (Int32)) (fun self25 => ∀ (x4_23 : Int32) (x6_24 : Int32), self25 x4_23 x6_24 = some r → ∀ (H : Heap) (locs : List Loc), va_P g.1 vwCl (cM g bM vM) H → va_D A (cM g bM vM) → va_S A s.heap H locs → ∀ ls : Array Slot, lv_has ls 8 [(0, .ref (bM 0)), (1, .int x1), (2, .ref (bM 8)), (3, .int r1), (4, .int x4_23), (5, .int t20), (6, .int x6_24)] → W p l e (headSpec wsX8_gate rmX8_gate_clean).room s m ([.ref (bM 0), .int x1, .ref (bM 8)] : List Value).toArray below meth c H locs 0 0 (MQ below (qI g A (cM g bM vM) r) ([.ref (bM 0), .int x1, .ref (bM 8)] : List Value).toArray s 0 0 A) (F0 m 126 ls [])) ?_ ?_ FU
              · intro x4_23 x6_24 hf; cases hf
              · intro self25 ih27 x4_23 x6_24 hf H locs hP hD hS ls hl
                unfold f_X8_gate_clean_L126 at hf
                refine lv_iload hx hb dX8_gate_126 (lv_at hl 6 rfl) ?_
                refine lv_aload_n hx hb dX8_gate_128 rfl (lv_at hl 0 rfl) ?_
                refine lv_iload_n hx hb dX8_gate_129 rfl (lv_at hl 1 rfl) ?_
                obtain ⟨r28, hg29, hf⟩ := o1_at hf
                refine k_viW ⟨hx, hb, hml, hown, htu⟩ hK hP hD hS hA hG (c_X8_have l g bM vM x1 r28 hg29) (cwV 1 htu (gU_V mw_6_91 hcX8_have) rfl rfl rfl hdX8_have ⟨Nat.le_of_ble_eq_true rfl, Nat.le_of_ble_eq_true rfl⟩) (q0 := 0) (ci := 8) (fs := fcM bM vM) (q := (RX8, TX8, 23)) rfl rfl rfl (As := [.int x1]) (rest := [.int x6_24]) rfl rfl hl.1 (Nat.le_of_ble_eq_true rfl) dX8_gate_130 (k1 := 0) (n1 := 0) rfl rfl ⟨Nat.le_refl _, Nat.le_refl _⟩ (fun H locs hP hD hS => ?_)
                refine lv_icmp_ge (tgt := 214) hx hb dX8_gate_133 (by decide) (fun c30 => ?_) (fun c30 => ?_)
                · have hf := it_t hf c30
                  refine lv_iload_n hx hb dX8_gate_214 rfl (lv_at hl 3 rfl) ?_
                  refine lv_iconst (v := (2 : Int32)) hx hb dX8_gate_215 (by decide) ?_
                  obtain ⟨k32, hk35, hf⟩ := jn_at hf
                  have hJ33 : ∀ (t31 : Int32), k32 t31 = some r → ∀ (H : Heap) (locs : List Loc), va_P g.1 vwCl (cM g bM vM) H → va_D A (cM g bM vM) → va_S A s.heap H locs → ∀ ls : Array Slot, lv_has ls 8 [] → W p l e (headSpec wsX8_gate rmX8_gate_clean).room s m ([.ref (bM 0), .int x1, .ref (bM 8)] : List Value).toArray below meth c H locs 0 0 (MQ below (qI g A (cM g bM vM) r) ([.ref (bM 0), .int x1, .ref (bM 8)] : List Value).toArray s 0 0 A) (F0 m 239 ls [.int t31]) := by
                    intro t31 hf H locs hP hD hS ls hl
                    rw [hk35] at hf
                    dsimp only at hf
                    clear hk35
                    have e34 := Option.some.inj hf
                    exact k_iret hx hb hr hlocks hK hP hD hS e34 dX8_gate_239
                  obtain ⟨k36, hk40, hf⟩ := jn_at hf
                  have hJ37 : k36 = some r → ∀ (H : Heap) (locs : List Loc), va_P g.1 vwCl (cM g bM vM) H → va_D A (cM g bM vM) → va_S A s.heap H locs → ∀ ls : Array Slot, lv_has ls 8 [(4, .int x4_23)] → W p l e (headSpec wsX8_gate rmX8_gate_clean).room s m ([.ref (bM 0), .int x1, .ref (bM 8)] : List Value).toArray below meth c H locs 0 0 (MQ below (qI g A (cM g bM vM) r) ([.ref (bM 0), .int x1, .ref (bM 8)] : List Value).toArray s 0 0 A) (F0 m 229 ls []) := by
                    intro hf H locs hP hD hS ls hl
                    rw [hk40] at hf
                    clear hk40
                    refine lv_iload hx hb dX8_gate_229 (lv_at hl 0 rfl) ?_
                    obtain ⟨r38, hg39, hf⟩ := o1_at hf
                    refine k_si0 ⟨hx, hb, hml, hown, htu⟩ hK hP hD hS hA hG (c_X8_turned l g x4_23 r38 hg39) (va_cwS 1 htu (gU_S mw_6_88 hcX8_turned) rfl rfl rfl hdX8_turned ⟨Nat.le_of_ble_eq_true rfl, Nat.le_of_ble_eq_true rfl⟩) (As := [.int x4_23]) (rest := []) rfl rfl hl.1 (Nat.le_of_ble_eq_true rfl) dX8_gate_231 (k1 := 0) (n1 := 0) rfl rfl ⟨Nat.le_refl _, Nat.le_refl _⟩ (fun H locs hP hD hS => ?_)
                    refine lv_goto (tgt := 239) hx hb dX8_gate_234 (by decide) ?_
                    exact hJ33 r38 hf H locs hP hD hS _ (lv_sub hl [] rfl)
                  refine lv_icmp_eq (tgt := 229) hx hb dX8_gate_216 (by decide) (fun c41 => ?_) (fun c41 => ?_)
                  · have hf := it_t hf c41
                    exact hJ37 hf H locs hP hD hS _ (lv_sub hl [4] rfl)
                  · have hf := it_f hf c41
                    refine lv_iload_n hx hb dX8_gate_219 rfl (lv_at hl 3 rfl) ?_
                    refine lv_iconst (v := (3 : Int32)) hx hb dX8_gate_220 (by decide) ?_
                    refine lv_icmp_eq (tgt := 229) hx hb dX8_gate_221 (by decide) (fun c42 => ?_) (fun c42 => ?_)
                    · have hf := it_t hf c42
                      exact hJ37 hf H locs hP hD hS _ (lv_sub hl [4] rfl)
                    · have hf := it_f hf c42
                      refine lv_iload_n hx hb dX8_gate_224 rfl (lv_at hl 3 rfl) ?_
                      refine lv_iconst (v := (5 : Int32)) hx hb dX8_gate_225 (by decide) ?_
                      refine lv_icmp_ne (tgt := 237) hx hb dX8_gate_226 (by decide) (fun c43 => ?_) (fun c43 => ?_)
                      · have hf := it_f hf c43
                        refine lv_iload hx hb dX8_gate_237 (lv_at hl 4 rfl) ?_
                        exact hJ33 x4_23 hf H locs hP hD hS _ (lv_sub hl [] rfl)
                      · have hf := it_t hf c43
                        exact hJ37 hf H locs hP hD hS _ (lv_sub hl [4] rfl)
                · have hf := it_f hf c30
                  refine lv_aload_n hx hb dX8_gate_136 rfl (lv_at hl 2 rfl) ?_
                  refine lv_aload_n hx hb dX8_gate_137 rfl (lv_at hl 0 rfl) ?_
                  refine lv_iload_n hx hb dX8_gate_138 rfl (lv_at hl 1 rfl) ?_
                  refine lv_iload hx hb dX8_gate_139 (lv_at hl 6 rfl) ?_
                  obtain ⟨r44, hg45, hf⟩ := o1_at hf
                  refine k_viW ⟨hx, hb, hml, hown, htu⟩ hK hP hD hS hA hG (c_X8_operandOf l g bM vM x1 x6_24 r44 hg45) (cwV 2 htu (gU_V mw_6_84 hcX8_operandOf) rfl rfl rfl hdX8_operandOf ⟨Nat.le_of_ble_eq_true rfl, Nat.le_of_ble_eq_true rfl⟩) (q0 := 0) (ci := 8) (fs := fcM bM vM) (q := (RX8, TX8, 23)) rfl rfl rfl (As := [.int x1, .int x6_24]) (rest := [.ref (bM 8)]) rfl rfl hl.1 (Nat.le_of_ble_eq_true rfl) dX8_gate_141 (k1 := 0) (n1 := 0) rfl rfl ⟨Nat.le_refl _, Nat.le_refl _⟩ (fun H locs hP hD hS => ?_)
                  obtain ⟨h46, hf⟩ := gd_in hf
                  refine va_iald (D := g.1) (f := (vM.2.1 7)) hx hb hK hP 5 0 rfl rfl h46 dX8_gate_144 ?_
                  refine lv_istore (lv' := [(7, .int (vM.2.1 7 (r44).toNatClampNeg)), (0, .ref (bM 0)), (1, .int x1), (2, .ref (bM 8)), (3, .int r1), (4, .int x4_23), (5, .int t20), (6, .int x6_24)]) hx hb dX8_gate_145 hl (by decide) rfl (fun ls hl => ?_)
                  refine lv_iload hx hb dX8_gate_147 (lv_at hl 6 rfl) ?_
                  obtain ⟨k48, hk50, hf⟩ := jn_at hf
                  have hJ49 : ∀ (x4_47 : Int32), k48 x4_47 = some r → ∀ (H : Heap) (locs : List Loc), va_P g.1 vwCl (cM g bM vM) H → va_D A (cM g bM vM) → va_S A s.heap H locs → ∀ ls : Array Slot, lv_has ls 8 [(0, .ref (bM 0)), (1, .int x1), (2, .ref (bM 8)), (3, .int r1), (4, .int x4_47), (5, .int t20), (6, .int x6_24)] → W p l e (headSpec wsX8_gate rmX8_gate_clean).room s m ([.ref (bM 0), .int x1, .ref (bM 8)] : List Value).toArray below meth c H locs 0 0 (MQ below (qI g A (cM g bM vM) r) ([.ref (bM 0), .int x1, .ref (bM 8)] : List Value).toArray s 0 0 A) (F0 m 208 ls []) := by
                    intro x4_47 hf H locs hP hD hS ls hl
                    rw [hk50] at hf
                    dsimp only at hf
                    clear hk50
                    refine lv_iinc (v := (x6_24 + (1 : Int32))) (lv' := [(6, .int (x6_24 + (1 : Int32))), (0, .ref (bM 0)), (1, .int x1), (2, .ref (bM 8)), (3, .int r1), (4, .int x4_47), (5, .int t20)]) hx hb dX8_gate_208 hl (k := 6) rfl rfl (by decide) rfl (fun ls hl => ?_)
                    refine lv_goto (tgt := 126) hx hb dX8_gate_211 (by decide) ?_
                    exact ih27 x4_47 (x6_24 + (1 : Int32)) hf H locs hP hD hS _ (lv_sub hl [1, 2, 3, 4, 5, 6, 0] rfl)
                  refine lv_if_eq (tgt := 185) hx hb dX8_gate_149 (by decide) (fun c51 => ?_) (fun c51 => ?_)
                  · have hf := it_t hf c51
                    refine lv_iload hx hb dX8_gate_185 (lv_at hl 5 rfl) ?_
                    refine lv_iload hx hb dX8_gate_187 (lv_at hl 0 rfl) ?_
                    refine lv_iload_n hx hb dX8_gate_189 rfl (lv_at hl 4 rfl) ?_
                    obtain ⟨k53, hk57, hf⟩ := jn_at hf
                    have hJ54 : ∀ (t52 : Int32), k53 t52 = some r → ∀ (H : Heap) (locs : List Loc), va_P g.1 vwCl (cM g bM vM) H → va_D A (cM g bM vM) → va_S A s.heap H locs → ∀ ls : Array Slot, lv_has ls 8 [(0, .ref (bM 0)), (1, .int x1), (2, .ref (bM 8)), (3, .int r1), (5, .int t20), (6, .int x6_24)] → W p l e (headSpec wsX8_gate rmX8_gate_clean).room s m ([.ref (bM 0), .int x1, .ref (bM 8)] : List Value).toArray below meth c H locs 0 0 (MQ below (qI g A (cM g bM vM) r) ([.ref (bM 0), .int x1, .ref (bM 8)] : List Value).toArray s 0 0 A) (F0 m 203 ls [.int t52, .int (vM.2.1 7 (r44).toNatClampNeg), .int x4_23]) := by
                      intro t52 hf H locs hP hD hS ls hl
                      rw [hk57] at hf
                      dsimp only at hf
                      clear hk57
                      obtain ⟨r55, hg56, hf⟩ := o1_at hf
                      refine k_si0 ⟨hx, hb, hml, hown, htu⟩ hK hP hD hS hA hG (c_X8_decided l g x4_23 (vM.2.1 7 (r44).toNatClampNeg) t52 r55 hg56) (va_cwS 3 htu (gU_S mw_6_95 hcX8_decided) rfl rfl rfl hdX8_decided ⟨Nat.le_of_ble_eq_true rfl, Nat.le_of_ble_eq_true rfl⟩) (As := [.int x4_23, .int (vM.2.1 7 (r44).toNatClampNeg), .int t52]) (rest := []) rfl rfl hl.1 (Nat.le_of_ble_eq_true rfl) dX8_gate_203 (k1 := 0) (n1 := 0) rfl rfl ⟨Nat.le_refl _, Nat.le_refl _⟩ (fun H locs hP hD hS => ?_)
                      refine lv_istore (lv' := [(4, .int r55), (0, .ref (bM 0)), (1, .int x1), (2, .ref (bM 8)), (3, .int r1), (5, .int t20), (6, .int x6_24)]) hx hb dX8_gate_206 hl (by decide) rfl (fun ls hl => ?_)
                      exact hJ49 r55 hf H locs hP hD hS _ (lv_sub hl [1, 2, 3, 4, 0, 5, 6] rfl)
                    obtain ⟨k58, hk60, hf⟩ := jn_at hf
                    have hJ59 : k58 = some r → ∀ (H : Heap) (locs : List Loc), va_P g.1 vwCl (cM g bM vM) H → va_D A (cM g bM vM) → va_S A s.heap H locs → ∀ ls : Array Slot, lv_has ls 8 [(0, .ref (bM 0)), (1, .int x1), (2, .ref (bM 8)), (3, .int r1), (5, .int t20), (6, .int x6_24)] → W p l e (headSpec wsX8_gate rmX8_gate_clean).room s m ([.ref (bM 0), .int x1, .ref (bM 8)] : List Value).toArray below meth c H locs 0 0 (MQ below (qI g A (cM g bM vM) r) ([.ref (bM 0), .int x1, .ref (bM 8)] : List Value).toArray s 0 0 A) (F0 m 198 ls [.int (vM.2.1 7 (r44).toNatClampNeg), .int x4_23]) := by
                      intro hf H locs hP hD hS ls hl
                      rw [hk60] at hf
                      clear hk60
                      refine lv_iconst (v := (0 : Int32)) hx hb dX8_gate_198 (by decide) ?_
                      refine lv_goto (tgt := 203) hx hb dX8_gate_199 (by decide) ?_
                      exact hJ54 (0 : Int32) hf H locs hP hD hS _ (lv_sub hl [0, 1, 2, 3, 4, 5] rfl)
                    refine lv_if_eq (tgt := 198) hx hb dX8_gate_190 (by decide) (fun c61 => ?_) (fun c61 => ?_)
                    · have hf := it_t hf c61
                      exact hJ59 hf H locs hP hD hS _ (lv_sub hl [1, 2, 3, 4, 6, 7] rfl)
                    · have hf := it_f hf c61
                      refine lv_iload_n hx hb dX8_gate_193 rfl (lv_at hl 4 rfl) ?_
                      refine lv_iconst (v := (2 : Int32)) hx hb dX8_gate_194 (by decide) ?_
                      refine lv_icmp_ne (tgt := 202) hx hb dX8_gate_195 (by decide) (fun c62 => ?_) (fun c62 => ?_)
                      · have hf := it_f hf c62
                        refine lv_iconst (v := (1 : Int32)) hx hb dX8_gate_202 (by decide) ?_
                        exact hJ54 (1 : Int32) hf H locs hP hD hS _ (lv_sub hl [1, 2, 3, 4, 6, 7] rfl)
                      · have hf := it_t hf c62
                        exact hJ59 hf H locs hP hD hS _ (lv_sub hl [1, 2, 3, 4, 6, 7] rfl)
                  · have hf := it_f hf c51
                    refine lv_iload hx hb dX8_gate_152 (lv_at hl 5 rfl) ?_
                    refine lv_iconst (v := (2 : Int32)) hx hb dX8_gate_154 (by decide) ?_
                    obtain ⟨k64, hk66, hf⟩ := jn_at hf
                    have hJ65 : ∀ (t63 : Int32), k64 t63 = some r → ∀ (H : Heap) (locs : List Loc), va_P g.1 vwCl (cM g bM vM) H → va_D A (cM g bM vM) → va_S A s.heap H locs → ∀ ls : Array Slot, lv_has ls 8 [(0, .ref (bM 0)), (1, .int x1), (2, .ref (bM 8)), (3, .int r1), (5, .int t20), (6, .int x6_24)] → W p l e (headSpec wsX8_gate rmX8_gate_clean).room s m ([.ref (bM 0), .int x1, .ref (bM 8)] : List Value).toArray below meth c H locs 0 0 (MQ below (qI g A (cM g bM vM) r) ([.ref (bM 0), .int x1, .ref (bM 8)] : List Value).toArray s 0 0 A) (F0 m 180 ls [.int t63]) := by
                      intro t63 hf H locs hP hD hS ls hl
                      rw [hk66] at hf
                      dsimp only at hf
                      clear hk66
                      refine lv_istore (lv' := [(4, .int t63), (0, .ref (bM 0)), (1, .int x1), (2, .ref (bM 8)), (3, .int r1), (5, .int t20), (6, .int x6_24)]) hx hb dX8_gate_180 hl (by decide) rfl (fun ls hl => ?_)
                      refine lv_goto (tgt := 208) hx hb dX8_gate_182 (by decide) ?_
                      exact hJ49 t63 hf H locs hP hD hS _ (lv_sub hl [1, 2, 3, 4, 0, 5, 6] rfl)
                    obtain ⟨k67, hk69, hf⟩ := jn_at hf
                    have hJ68 : k67 = some r → ∀ (H : Heap) (locs : List Loc), va_P g.1 vwCl (cM g bM vM) H → va_D A (cM g bM vM) → va_S A s.heap H locs → ∀ ls : Array Slot, lv_has ls 8 [(0, .ref (bM 0)), (1, .int x1), (2, .ref (bM 8)), (3, .int r1), (5, .int t20), (6, .int x6_24)] → W p l e (headSpec wsX8_gate rmX8_gate_clean).room s m ([.ref (bM 0), .int x1, .ref (bM 8)] : List Value).toArray below meth c H locs 0 0 (MQ below (qI g A (cM g bM vM) r) ([.ref (bM 0), .int x1, .ref (bM 8)] : List Value).toArray s 0 0 A) (F0 m 164 ls []) := by
                      intro hf H locs hP hD hS ls hl
                      rw [hk69] at hf
                      clear hk69
                      refine lv_iconst (v := (2 : Int32)) hx hb dX8_gate_164 (by decide) ?_
                      refine lv_goto (tgt := 180) hx hb dX8_gate_165 (by decide) ?_
                      exact hJ65 (2 : Int32) hf H locs hP hD hS _ (lv_sub hl [0, 1, 2, 3, 4, 5] rfl)
                    refine lv_icmp_eq (tgt := 164) hx hb dX8_gate_155 (by decide) (fun c70 => ?_) (fun c70 => ?_)
                    · have hf := it_t hf c70
                      exact hJ68 hf H locs hP hD hS _ (lv_sub hl [1, 2, 3, 4, 6, 7] rfl)
                    · have hf := it_f hf c70
                      refine lv_iload hx hb dX8_gate_158 (lv_at hl 0 rfl) ?_
                      refine lv_iconst (v := (2 : Int32)) hx hb dX8_gate_160 (by decide) ?_
                      refine lv_icmp_ne (tgt := 168) hx hb dX8_gate_161 (by decide) (fun c71 => ?_) (fun c71 => ?_)
                      · have hf := it_f hf c71
                        refine lv_iload hx hb dX8_gate_168 (lv_at hl 5 rfl) ?_
                        refine lv_iload hx hb dX8_gate_170 (lv_at hl 0 rfl) ?_
                        refine lv_icmp_ne (tgt := 179) hx hb dX8_gate_172 (by decide) (fun c72 => ?_) (fun c72 => ?_)
                        · have hf := it_f hf c72
                          refine lv_iconst (v := (1 : Int32)) hx hb dX8_gate_179 (by decide) ?_
                          exact hJ65 (1 : Int32) hf H locs hP hD hS _ (lv_sub hl [1, 2, 3, 4, 6, 7] rfl)
                        · have hf := it_t hf c72
                          refine lv_iconst (v := (0 : Int32)) hx hb dX8_gate_175 (by decide) ?_
                          refine lv_goto (tgt := 180) hx hb dX8_gate_176 (by decide) ?_
                          exact hJ65 (0 : Int32) hf H locs hP hD hS _ (lv_sub hl [1, 2, 3, 4, 6, 7] rfl)
                      · have hf := it_t hf c71
                        exact hJ68 hf H locs hP hD hS _ (lv_sub hl [1, 2, 3, 4, 6, 7] rfl)
            exact hL26 (vM.2.1 7 (r3).toNatClampNeg) (1 : Int32) hf H locs hP hD hS _ (lv_sub hl [2, 3, 4, 5, 6, 1, 0] rfl)
          obtain ⟨k74, hk76, hf⟩ := jn_at hf
          have hJ75 : k74 = some r → ∀ (H : Heap) (locs : List Loc), va_P g.1 vwCl (cM g bM vM) H → va_D A (cM g bM vM) → va_S A s.heap H locs → ∀ ls : Array Slot, lv_has ls 8 [(0, .ref (bM 0)), (1, .int x1), (2, .ref (bM 8)), (3, .int r1), (4, .int (vM.2.1 7 (r3).toNatClampNeg))] → W p l e (headSpec wsX8_gate rmX8_gate_clean).room s m ([.ref (bM 0), .int x1, .ref (bM 8)] : List Value).toArray below meth c H locs 0 0 (MQ below (qI g A (cM g bM vM) r) ([.ref (bM 0), .int x1, .ref (bM 8)] : List Value).toArray s 0 0 A) (F0 m 116 ls []) := by
            intro hf H locs hP hD hS ls hl
            rw [hk76] at hf
            clear hk76
            refine lv_iconst (v := (1 : Int32)) hx hb dX8_gate_116 (by decide) ?_
            refine lv_goto (tgt := 121) hx hb dX8_gate_117 (by decide) ?_
            exact hJ22 (1 : Int32) hf H locs hP hD hS _ (lv_sub hl [0, 1, 2, 3, 4] rfl)
          refine lv_icmp_eq (tgt := 116) hx hb dX8_gate_108 (by decide) (fun c77 => ?_) (fun c77 => ?_)
          · have hf := it_t hf c77
            exact hJ75 hf H locs hP hD hS _ (lv_sub hl [2, 3, 4, 1, 0] rfl)
          · have hf := it_f hf c77
            refine lv_iload_n hx hb dX8_gate_111 rfl (lv_at hl 1 rfl) ?_
            refine lv_iconst (v := (5 : Int32)) hx hb dX8_gate_112 (by decide) ?_
            refine lv_icmp_ne (tgt := 120) hx hb dX8_gate_113 (by decide) (fun c78 => ?_) (fun c78 => ?_)
            · have hf := it_f hf c78
              refine lv_iconst (v := (0 : Int32)) hx hb dX8_gate_120 (by decide) ?_
              exact hJ22 (0 : Int32) hf H locs hP hD hS _ (lv_sub hl [2, 3, 4, 1, 0] rfl)
            · have hf := it_t hf c78
              exact hJ75 hf H locs hP hD hS _ (lv_sub hl [2, 3, 4, 1, 0] rfl)
        · have hf := it_t hf c19
          refine lv_aload_n hx hb dX8_gate_51 rfl (lv_at hl 4 rfl) ?_
          refine lv_aload_n hx hb dX8_gate_52 rfl (lv_at hl 2 rfl) ?_
          refine lv_iload_n hx hb dX8_gate_53 rfl (lv_at hl 3 rfl) ?_
          refine lv_iconst (v := (1 : Int32)) hx hb dX8_gate_54 (by decide) ?_
          obtain ⟨r79, hg80, hf⟩ := o1_at hf
          refine k_viW ⟨hx, hb, hml, hown, htu⟩ hK hP hD hS hA hG (c_X8_operandOf l g bM vM x1 (1 : Int32) r79 hg80) (cwV 2 htu (gU_V mw_6_84 hcX8_operandOf) rfl rfl rfl hdX8_operandOf ⟨Nat.le_of_ble_eq_true rfl, Nat.le_of_ble_eq_true rfl⟩) (q0 := 0) (ci := 8) (fs := fcM bM vM) (q := (RX8, TX8, 23)) rfl rfl rfl (As := [.int x1, .int (1 : Int32)]) (rest := [.ref (bM 8)]) rfl rfl hl.1 (Nat.le_of_ble_eq_true rfl) dX8_gate_55 (k1 := 0) (n1 := 0) rfl rfl ⟨Nat.le_refl _, Nat.le_refl _⟩ (fun H locs hP hD hS => ?_)
          obtain ⟨h81, hf⟩ := gd_in hf
          refine va_iald (D := g.1) (f := (vM.2.1 7)) hx hb hK hP 5 0 rfl rfl h81 dX8_gate_58 ?_
          refine lv_istore (lv' := [(5, .int (vM.2.1 7 (r79).toNatClampNeg)), (4, .int (vM.2.1 7 (r3).toNatClampNeg)), (3, .int r1), (0, .ref (bM 0)), (1, .int x1), (2, .ref (bM 8))]) hx hb dX8_gate_59 hl (by decide) rfl (fun ls hl => ?_)
          refine lv_aload_n hx hb dX8_gate_61 rfl (lv_at hl 5 rfl) ?_
          refine lv_aload_n hx hb dX8_gate_62 rfl (lv_at hl 3 rfl) ?_
          refine lv_iload_n hx hb dX8_gate_63 rfl (lv_at hl 4 rfl) ?_
          refine lv_iconst (v := (2 : Int32)) hx hb dX8_gate_64 (by decide) ?_
          obtain ⟨r82, hg83, hf⟩ := o1_at hf
          refine k_viW ⟨hx, hb, hml, hown, htu⟩ hK hP hD hS hA hG (c_X8_operandOf l g bM vM x1 (2 : Int32) r82 hg83) (cwV 2 htu (gU_V mw_6_84 hcX8_operandOf) rfl rfl rfl hdX8_operandOf ⟨Nat.le_of_ble_eq_true rfl, Nat.le_of_ble_eq_true rfl⟩) (q0 := 0) (ci := 8) (fs := fcM bM vM) (q := (RX8, TX8, 23)) rfl rfl rfl (As := [.int x1, .int (2 : Int32)]) (rest := [.ref (bM 8)]) rfl rfl hl.1 (Nat.le_of_ble_eq_true rfl) dX8_gate_65 (k1 := 0) (n1 := 0) rfl rfl ⟨Nat.le_refl _, Nat.le_refl _⟩ (fun H locs hP hD hS => ?_)
          obtain ⟨h84, hf⟩ := gd_in hf
          refine va_iald (D := g.1) (f := (vM.2.1 7)) hx hb hK hP 5 0 rfl rfl h84 dX8_gate_68 ?_
          refine lv_istore (lv' := [(6, .int (vM.2.1 7 (r82).toNatClampNeg)), (5, .int (vM.2.1 7 (r79).toNatClampNeg)), (4, .int (vM.2.1 7 (r3).toNatClampNeg)), (3, .int r1), (0, .ref (bM 0)), (1, .int x1), (2, .ref (bM 8))]) hx hb dX8_gate_69 hl (by decide) rfl (fun ls hl => ?_)
          refine lv_iload hx hb dX8_gate_71 (lv_at hl 2 rfl) ?_
          obtain ⟨k86, hk89, hf⟩ := jn_at hf
          have hJ87 : ∀ (t85 : Int32), k86 t85 = some r → ∀ (H : Heap) (locs : List Loc), va_P g.1 vwCl (cM g bM vM) H → va_D A (cM g bM vM) → va_S A s.heap H locs → ∀ ls : Array Slot, lv_has ls 8 [] → W p l e (headSpec wsX8_gate rmX8_gate_clean).room s m ([.ref (bM 0), .int x1, .ref (bM 8)] : List Value).toArray below meth c H locs 0 0 (MQ below (qI g A (cM g bM vM) r) ([.ref (bM 0), .int x1, .ref (bM 8)] : List Value).toArray s 0 0 A) (F0 m 105 ls [.int t85]) := by
            intro t85 hf H locs hP hD hS ls hl
            rw [hk89] at hf
            dsimp only at hf
            clear hk89
            have e88 := Option.some.inj hf
            exact k_iret hx hb hr hlocks hK hP hD hS e88 dX8_gate_105
          refine lv_if_ne (tgt := 81) hx hb dX8_gate_73 (by decide) (fun c90 => ?_) (fun c90 => ?_)
          · have hf := it_f hf c90
            refine lv_iload hx hb dX8_gate_81 (lv_at hl 2 rfl) ?_
            refine lv_iconst (v := (1 : Int32)) hx hb dX8_gate_83 (by decide) ?_
            refine lv_icmp_ne (tgt := 92) hx hb dX8_gate_84 (by decide) (fun c91 => ?_) (fun c91 => ?_)
            · have hf := it_f hf c91
              refine lv_iload hx hb dX8_gate_92 (lv_at hl 1 rfl) ?_
              refine lv_iload hx hb dX8_gate_94 (lv_at hl 0 rfl) ?_
              refine lv_icmp_ne (tgt := 104) hx hb dX8_gate_96 (by decide) (fun c92 => ?_) (fun c92 => ?_)
              · have hf := it_f hf c92
                refine lv_iconst (v := (2 : Int32)) hx hb dX8_gate_104 (by decide) ?_
                exact hJ87 (2 : Int32) hf H locs hP hD hS _ (lv_sub hl [] rfl)
              · have hf := it_t hf c92
                refine lv_iload hx hb dX8_gate_99 (lv_at hl 1 rfl) ?_
                refine lv_goto (tgt := 105) hx hb dX8_gate_101 (by decide) ?_
                exact hJ87 (vM.2.1 7 (r79).toNatClampNeg) hf H locs hP hD hS _ (lv_sub hl [] rfl)
            · have hf := it_t hf c91
              refine lv_iload hx hb dX8_gate_87 (lv_at hl 0 rfl) ?_
              refine lv_goto (tgt := 105) hx hb dX8_gate_89 (by decide) ?_
              exact hJ87 (vM.2.1 7 (r82).toNatClampNeg) hf H locs hP hD hS _ (lv_sub hl [] rfl)
          · have hf := it_t hf c90
            refine lv_iload hx hb dX8_gate_76 (lv_at hl 1 rfl) ?_
            refine lv_goto (tgt := 105) hx hb dX8_gate_78 (by decide) ?_
            exact hJ87 (vM.2.1 7 (r79).toNatClampNeg) hf H locs hP hD hS _ (lv_sub hl [] rfl)
      · have hf := it_t hf c18
        exact hJ7 hf H locs hP hD hS _ (lv_sub hl [1, 0] rfl)
  rw [hH, hlo] at hW
  exact hW
def f_X8_atOutput_clean (vM : Vs) (x1 : Int32) : Option (Int32) :=
  o1 (f_X8_get vM ((152 : Int32) + x1)) (fun (r1 : Int32) => gd (inb r1 24) (some ((vM.2.1 7 (r1).toNatClampNeg))))
abbrev wsX8_atOutput : List Cond := .code yX8_atOutput cX8_atOutput 3 (some .int) :: UW
abbrev rmX8_atOutput_clean : Room := { frames := 1, cells := 0, slots := 0, locals := 21 }
set_option maxHeartbeats 4000000 in
set_option maxRecDepth 100000 in
theorem c_X8_atOutput_clean (l : Launch) (g : Gx) (bM : Nat → Nat) (vM : Vs) (x1 : Int32) (r : Int32) (hf : f_X8_atOutput_clean vM x1 = some r) : CtI l yX8_atOutput wsX8_atOutput rmX8_atOutput_clean g [.ref (bM 0), .int x1, .ref (bM 8)] (cM g bM vM) (cM g bM vM) r 0 0 := by
  unfold CtI
  intro sz
  refine Met.ofW (cc := cX8_atOutput) (maxL := 3) (ret := (some .int)) (by decide) rfl ?_
  intro p e s m args below meth c s₁ B hml hv
  obtain ⟨rfl, hsz, hP, hK, hD0, hG⟩ := hv
  have hx := B.exec
  have hb := B.bytes
  have hr := B.returns
  have hts := atoms_spec (ws := wsX8_atOutput) B.pre
  have hown : s.vm.findClass RX8 = some m.cls := findClass_of_methodNamed B.named
  have hlocks := B.notSynchronized
  subst hsz
  have hD := hD0.self (sz := s.heap.size)
  generalize hAe : va_A (cM g bM vM) s.heap.size = A at hD hG ⊢
  have hA : ∀ q : Nat, s.heap.size ≤ q → A q := fun q h => by rw [← hAe]; exact Or.inr h
  clear hAe hD0
  have hS : va_S A s.heap s.heap [] := va_S.rf
  have hl := lv_entry ([.ref (bM 0), .int x1, .ref (bM 8)]) (n := 3) (Nat.le_of_ble_eq_true rfl)
  rw [lg_entry_eq]
  generalize (lg_sl ([.ref (bM 0), .int x1, .ref (bM 8)]) ++ List.replicate (3 - (lg_sl ([.ref (bM 0), .int x1, .ref (bM 8)])).length) Slot.unset).toArray = ls at hl ⊢
  have hl : lv_has ls 3 [(0, .ref (bM 0)), (1, .int x1), (2, .ref (bM 8))] := hl
  have htu : ∀ w ∈ UW, w.before _ s = true := fun w h => hts w (List.mem_cons_of_mem _ h)
  unfold f_X8_atOutput_clean at hf
  obtain ⟨H, hH⟩ : ∃ z, z = s.heap := ⟨_, rfl⟩
  obtain ⟨locs, hlo⟩ : ∃ z : List Loc, z = [] := ⟨_, rfl⟩
  have hS : va_S A s.heap H locs := by rw [hH, hlo]; exact hS
  rw [← hH] at hP
  have hW : W p l e (headSpec wsX8_atOutput rmX8_atOutput_clean).room s m ([.ref (bM 0), .int x1, .ref (bM 8)] : List Value).toArray below meth c H locs 0 0 (MQ below (qI g A (cM g bM vM) r) ([.ref (bM 0), .int x1, .ref (bM 8)] : List Value).toArray s 0 0 A) (F0 m 0 ls []) := by
    refine lv_aload_n hx hb dX8_atOutput_0 rfl (lv_at hl 2 rfl) ?_
    refine lv_aload_n hx hb dX8_atOutput_1 rfl (lv_at hl 0 rfl) ?_
    refine lv_sipush (v := (152 : Int32)) hx hb dX8_atOutput_2 (by decide) ?_
    refine lv_iload_n hx hb dX8_atOutput_5 rfl (lv_at hl 1 rfl) ?_
    refine lv_iadd hx hb dX8_atOutput_6 ?_
    obtain ⟨r1, hg2, hf⟩ := o1_at hf
    refine k_viW ⟨hx, hb, hml, hown, htu⟩ hK hP hD hS hA hG (c_X8_get l g bM vM ((152 : Int32) + x1) r1 hg2) (cwV 1 htu (gU_V mw_6_20 hcX8_get) rfl rfl rfl hdX8_get ⟨Nat.le_of_ble_eq_true rfl, Nat.le_of_ble_eq_true rfl⟩) (q0 := 0) (ci := 8) (fs := fcM bM vM) (q := (RX8, TX8, 23)) rfl rfl rfl (As := [.int ((152 : Int32) + x1)]) (rest := [.ref (bM 8)]) rfl rfl hl.1 (Nat.le_of_ble_eq_true rfl) dX8_atOutput_7 (k1 := 0) (n1 := 0) rfl rfl ⟨Nat.le_refl _, Nat.le_refl _⟩ (fun H locs hP hD hS => ?_)
    obtain ⟨h3, hf⟩ := gd_in hf
    refine va_iald (D := g.1) (f := (vM.2.1 7)) hx hb hK hP 5 0 rfl rfl h3 dX8_atOutput_10 ?_
    have e4 := Option.some.inj hf
    exact k_iret hx hb hr hlocks hK hP hD hS e4 dX8_atOutput_11
  rw [hH, hlo] at hW
  exact hW
def f_X8_bitsAt_clean_L4 (vM : Vs) (self3 : Int32 → Int32 → Option (Int32)) (x2_1 : Int32) (x3_2 : Int32) : Option (Int32) :=
  o1 (f_X8_outputs vM) (fun (r6 : Int32) => if r6 ≤ x3_2 then some (x2_1) else o1 (f_X8_atOutput_clean vM x3_2) (fun (r10 : Int32) => self3 (x2_1 ||| (r10 <<< (x3_2 &&& 31))) (x3_2 + (1 : Int32))))
def f_X8_bitsAt_clean (vM : Vs) : Option (Int32) :=
  lp (f_X8_bitsAt_clean_L4 vM) (fun _ _ => none) FU (0 : Int32) (0 : Int32)
abbrev wsX8_bitsAt : List Cond := .code yX8_bitsAt cX8_bitsAt 4 (some .int) :: UW
abbrev rmX8_bitsAt_clean : Room := { frames := 2, cells := 0, slots := 0, locals := 43 }
set_option maxHeartbeats 4000000 in
set_option maxRecDepth 100000 in
theorem c_X8_bitsAt_clean (l : Launch) (g : Gx) (bM : Nat → Nat) (vM : Vs) (r : Int32) (hf : f_X8_bitsAt_clean vM = some r) : CtI l yX8_bitsAt wsX8_bitsAt rmX8_bitsAt_clean g [.ref (bM 0), .ref (bM 8)] (cM g bM vM) (cM g bM vM) r 0 0 := by
  unfold CtI
  intro sz
  refine Met.ofW (cc := cX8_bitsAt) (maxL := 4) (ret := (some .int)) (by decide) rfl ?_
  intro p e s m args below meth c s₁ B hml hv
  obtain ⟨rfl, hsz, hP, hK, hD0, hG⟩ := hv
  have hx := B.exec
  have hb := B.bytes
  have hr := B.returns
  have hts := atoms_spec (ws := wsX8_bitsAt) B.pre
  have hown : s.vm.findClass RX8 = some m.cls := findClass_of_methodNamed B.named
  have hlocks := B.notSynchronized
  subst hsz
  have hD := hD0.self (sz := s.heap.size)
  generalize hAe : va_A (cM g bM vM) s.heap.size = A at hD hG ⊢
  have hA : ∀ q : Nat, s.heap.size ≤ q → A q := fun q h => by rw [← hAe]; exact Or.inr h
  clear hAe hD0
  have hS : va_S A s.heap s.heap [] := va_S.rf
  have hl := lv_entry ([.ref (bM 0), .ref (bM 8)]) (n := 4) (Nat.le_of_ble_eq_true rfl)
  rw [lg_entry_eq]
  generalize (lg_sl ([.ref (bM 0), .ref (bM 8)]) ++ List.replicate (4 - (lg_sl ([.ref (bM 0), .ref (bM 8)])).length) Slot.unset).toArray = ls at hl ⊢
  have hl : lv_has ls 4 [(0, .ref (bM 0)), (1, .ref (bM 8))] := hl
  have htu : ∀ w ∈ UW, w.before _ s = true := fun w h => hts w (List.mem_cons_of_mem _ h)
  unfold f_X8_bitsAt_clean at hf
  obtain ⟨H, hH⟩ : ∃ z, z = s.heap := ⟨_, rfl⟩
  obtain ⟨locs, hlo⟩ : ∃ z : List Loc, z = [] := ⟨_, rfl⟩
  have hS : va_S A s.heap H locs := by rw [hH, hlo]; exact hS
  rw [← hH] at hP
  have hW : W p l e (headSpec wsX8_bitsAt rmX8_bitsAt_clean).room s m ([.ref (bM 0), .ref (bM 8)] : List Value).toArray below meth c H locs 0 0 (MQ below (qI g A (cM g bM vM) r) ([.ref (bM 0), .ref (bM 8)] : List Value).toArray s 0 0 A) (F0 m 0 ls []) := by
    refine lv_iconst (v := (0 : Int32)) hx hb dX8_bitsAt_0 (by decide) ?_
    refine lv_istore_n (lv' := [(2, .int (0 : Int32)), (0, .ref (bM 0)), (1, .ref (bM 8))]) hx hb dX8_bitsAt_1 rfl hl (by decide) rfl (fun ls hl => ?_)
    refine lv_iconst (v := (0 : Int32)) hx hb dX8_bitsAt_2 (by decide) ?_
    refine lv_istore_n (lv' := [(3, .int (0 : Int32)), (2, .int (0 : Int32)), (0, .ref (bM 0)), (1, .ref (bM 8))]) hx hb dX8_bitsAt_3 rfl hl (by decide) rfl (fun ls hl => ?_)
    have hL4 : ∀ (x2_1 : Int32) (x3_2 : Int32), lp (f_X8_bitsAt_clean_L4 vM) (fun _ _ => none) FU x2_1 x3_2 = some r → ∀ (H : Heap) (locs : List Loc), va_P g.1 vwCl (cM g bM vM) H → va_D A (cM g bM vM) → va_S A s.heap H locs → ∀ ls : Array Slot, lv_has ls 4 [(0, .ref (bM 0)), (1, .ref (bM 8)), (2, .int x2_1), (3, .int x3_2)] → W p l e (headSpec wsX8_bitsAt rmX8_bitsAt_clean).room s m ([.ref (bM 0), .ref (bM 8)] : List Value).toArray below meth c H locs 0 0 (MQ below (qI g A (cM g bM vM) r) ([.ref (bM 0), .ref (bM 8)] : List Value).toArray s 0 0 A) (F0 m 4 ls []) := by
      refine lp_ind (T := Int32 → Int32 → Option (Int32)) (fun self3 => ∀ (x2_1 : Int32) (x3_2 : Int32), self3 x2_1 x3_2 = some r → ∀ (H : Heap) (locs : List Loc), va_P g.1 vwCl (cM g bM vM) H → va_D A (cM g bM vM) → va_S A s.heap H locs → ∀ ls : Array Slot, lv_has ls 4 [(0, .ref (bM 0)), (1, .ref (bM 8)), (2, .int x2_1), (3, .int x3_2)] → W p l e (headSpec wsX8_bitsAt rmX8_bitsAt_clean).room s m ([.ref (bM 0), .ref (bM 8)] : List Value).toArray below meth c H locs 0 0 (MQ below (qI g A (cM g bM vM) r) ([.ref (bM 0), .ref (bM 8)] : List Value).toArray s 0 0 A) (F0 m 4 ls [])) ?_ ?_ FU
      · intro x2_1 x3_2 hf; cases hf
      · intro self3 ih5 x2_1 x3_2 hf H locs hP hD hS ls hl
        unfold f_X8_bitsAt_clean_L4 at hf
        refine lv_iload_n hx hb dX8_bitsAt_4 rfl (lv_at hl 3 rfl) ?_
        refine lv_aload_n hx hb dX8_bitsAt_5 rfl (lv_at hl 0 rfl) ?_
        obtain ⟨r6, hg7, hf⟩ := o1_at hf
        refine k_viW ⟨hx, hb, hml, hown, htu⟩ hK hP hD hS hA hG (c_X8_outputs l g bM vM r6 hg7) (cwV 0 htu (gU_V mw_6_40 hcX8_outputs) rfl rfl rfl hdX8_outputs ⟨Nat.le_of_ble_eq_true rfl, Nat.le_of_ble_eq_true rfl⟩) (q0 := 0) (ci := 8) (fs := fcM bM vM) (q := (RX8, TX8, 23)) rfl rfl rfl (As := []) (rest := [.int x3_2]) rfl rfl hl.1 (Nat.le_of_ble_eq_true rfl) dX8_bitsAt_6 (k1 := 0) (n1 := 0) rfl rfl ⟨Nat.le_refl _, Nat.le_refl _⟩ (fun H locs hP hD hS => ?_)
        refine lv_icmp_ge (tgt := 29) hx hb dX8_bitsAt_9 (by decide) (fun c8 => ?_) (fun c8 => ?_)
        · have hf := it_t hf c8
          refine lv_iload_n hx hb dX8_bitsAt_29 rfl (lv_at hl 2 rfl) ?_
          have e9 := Option.some.inj hf
          exact k_iret hx hb hr hlocks hK hP hD hS e9 dX8_bitsAt_30
        · have hf := it_f hf c8
          refine lv_iload_n hx hb dX8_bitsAt_12 rfl (lv_at hl 2 rfl) ?_
          refine lv_aload_n hx hb dX8_bitsAt_13 rfl (lv_at hl 0 rfl) ?_
          refine lv_iload_n hx hb dX8_bitsAt_14 rfl (lv_at hl 3 rfl) ?_
          refine lv_aload_n hx hb dX8_bitsAt_15 rfl (lv_at hl 1 rfl) ?_
          obtain ⟨r10, hg11, hf⟩ := o1_at hf
          refine k_viW ⟨hx, hb, hml, hown, htu⟩ hK hP hD hS hA hG (c_X8_atOutput_clean l g bM vM x3_2 r10 hg11) (cwV 2 htu (gU_V mw_6_106 hcX8_atOutput) rfl rfl rfl hdX8_atOutput ⟨Nat.le_of_ble_eq_true rfl, Nat.le_of_ble_eq_true rfl⟩) (q0 := 0) (ci := 8) (fs := fcM bM vM) (q := (RX8, TX8, 23)) rfl rfl rfl (As := [.int x3_2, .ref (bM 8)]) (rest := [.int x2_1]) rfl rfl hl.1 (Nat.le_of_ble_eq_true rfl) dX8_bitsAt_16 (k1 := 0) (n1 := 0) rfl rfl ⟨Nat.le_refl _, Nat.le_refl _⟩ (fun H locs hP hD hS => ?_)
          refine lv_iload_n hx hb dX8_bitsAt_19 rfl (lv_at hl 3 rfl) ?_
          refine lv_ishl hx hb dX8_bitsAt_20 ?_
          refine lv_ior hx hb dX8_bitsAt_21 ?_
          refine lv_istore_n (lv' := [(2, .int (x2_1 ||| (r10 <<< (x3_2 &&& 31)))), (0, .ref (bM 0)), (1, .ref (bM 8)), (3, .int x3_2)]) hx hb dX8_bitsAt_22 rfl hl (by decide) rfl (fun ls hl => ?_)
          refine lv_iinc (v := (x3_2 + (1 : Int32))) (lv' := [(3, .int (x3_2 + (1 : Int32))), (2, .int (x2_1 ||| (r10 <<< (x3_2 &&& 31)))), (0, .ref (bM 0)), (1, .ref (bM 8))]) hx hb dX8_bitsAt_23 hl (k := 3) rfl rfl (by decide) rfl (fun ls hl => ?_)
          refine lv_goto (tgt := 4) hx hb dX8_bitsAt_26 (by decide) ?_
          exact ih5 (x2_1 ||| (r10 <<< (x3_2 &&& 31))) (x3_2 + (1 : Int32)) hf H locs hP hD hS _ (lv_sub hl [2, 3, 1, 0] rfl)
    exact hL4 (0 : Int32) (0 : Int32) hf H locs hP hD hS _ (lv_sub hl [2, 3, 1, 0] rfl)
  rw [hH, hlo] at hW
  exact hW
def f_X8_gate_bent_L126 (vM : Vs) (x1 : Int32) (r1 : Int32) (t20 : Int32) (self25 : Int32 → Int32 → Option (Int32)) (x4_23 : Int32) (x6_24 : Int32) : Option (Int32) :=
  o1 (f_X8_have vM x1) (fun (r28 : Int32) => if r28 ≤ x6_24 then jn (fun (t31 : Int32) => some (t31)) (fun k32 => jn (o1 (f_X8_turned x4_23) (fun (r38 : Int32) => k32 r38)) (fun k36 => if r1 = (2 : Int32) then k36 else if r1 = (3 : Int32) then k36 else if r1 = (5 : Int32) then k36 else k32 x4_23)) else o1 (f_X8_operandOf vM x1 x6_24) (fun (r44 : Int32) => gd (inb r44 24) (jn (fun (x4_47 : Int32) => self25 x4_47 (x6_24 + (1 : Int32))) (fun k48 => if t20 = 0 then jn (fun (t52 : Int32) => o1 (f_X8_decided x4_23 (vM.2.1 8 (r44).toNatClampNeg) t52) (fun (r55 : Int32) => k48 r55)) (fun k53 => jn (k53 (0 : Int32)) (fun k58 => if r1 = 0 then k58 else if r1 = (2 : Int32) then k58 else k53 (1 : Int32))) else jn (fun (t63 : Int32) => k48 t63) (fun k64 => jn (k64 (2 : Int32)) (fun k67 => if x4_23 = (2 : Int32) then k67 else if (vM.2.1 8 (r44).toNatClampNeg) = (2 : Int32) then k67 else if x4_23 = (vM.2.1 8 (r44).toNatClampNeg) then k64 (0 : Int32) else k64 (1 : Int32)))))))
def f_X8_gate_bent (vM : Vs) (x1 : Int32) : Option (Int32) :=
  o1 (f_X8_kindOf vM x1) (fun (r1 : Int32) => o1 (f_X8_operandOf vM x1 (0 : Int32)) (fun (r3 : Int32) => gd (inb r3 24) (jn (jn (fun (t8 : Int32) => some (t8)) (fun k9 => if r1 = (6 : Int32) then o1 (f_X8_turned (vM.2.1 8 (r3).toNatClampNeg)) (fun (r14 : Int32) => k9 r14) else k9 (vM.2.1 8 (r3).toNatClampNeg))) (fun k6 => if r1 = (6 : Int32) then k6 else if r1 = (7 : Int32) then k6 else if r1 = (8 : Int32) then o1 (f_X8_operandOf vM x1 (1 : Int32)) (fun (r79 : Int32) => gd (inb r79 24) (o1 (f_X8_operandOf vM x1 (2 : Int32)) (fun (r82 : Int32) => gd (inb r82 24) (jn (fun (t85 : Int32) => some (t85)) (fun k86 => if (vM.2.1 8 (r3).toNatClampNeg) = 0 then k86 (vM.2.1 8 (r79).toNatClampNeg) else if (vM.2.1 8 (r3).toNatClampNeg) = (1 : Int32) then k86 (vM.2.1 8 (r82).toNatClampNeg) else if (vM.2.1 8 (r79).toNatClampNeg) = (vM.2.1 8 (r82).toNatClampNeg) then k86 (vM.2.1 8 (r79).toNatClampNeg) else k86 (2 : Int32)))))) else jn (fun (t20 : Int32) => lp (f_X8_gate_bent_L126 vM x1 r1 t20) (fun _ _ => none) FU (vM.2.1 8 (r3).toNatClampNeg) (1 : Int32)) (fun k21 => jn (k21 (1 : Int32)) (fun k74 => if r1 = (4 : Int32) then k74 else if r1 = (5 : Int32) then k74 else k21 (0 : Int32)))))))
abbrev rmX8_gate_bent : Room := { frames := 2, cells := 0, slots := 0, locals := 43 }
set_option maxHeartbeats 4000000 in
set_option maxRecDepth 100000 in
theorem c_X8_gate_bent (l : Launch) (g : Gx) (bM : Nat → Nat) (vM : Vs) (x1 : Int32) (r : Int32) (hf : f_X8_gate_bent vM x1 = some r) : CtI l yX8_gate wsX8_gate rmX8_gate_bent g [.ref (bM 0), .int x1, .ref (bM 9)] (cM g bM vM) (cM g bM vM) r 0 0 := by
  unfold CtI
  intro sz
  refine Met.ofW (cc := cX8_gate) (maxL := 8) (ret := (some .int)) (by decide) rfl ?_
  intro p e s m args below meth c s₁ B hml hv
  obtain ⟨rfl, hsz, hP, hK, hD0, hG⟩ := hv
  have hx := B.exec
  have hb := B.bytes
  have hr := B.returns
  have hts := atoms_spec (ws := wsX8_gate) B.pre
  have hown : s.vm.findClass RX8 = some m.cls := findClass_of_methodNamed B.named
  have hlocks := B.notSynchronized
  subst hsz
  have hD := hD0.self (sz := s.heap.size)
  generalize hAe : va_A (cM g bM vM) s.heap.size = A at hD hG ⊢
  have hA : ∀ q : Nat, s.heap.size ≤ q → A q := fun q h => by rw [← hAe]; exact Or.inr h
  clear hAe hD0
  have hS : va_S A s.heap s.heap [] := va_S.rf
  have hl := lv_entry ([.ref (bM 0), .int x1, .ref (bM 9)]) (n := 8) (Nat.le_of_ble_eq_true rfl)
  rw [lg_entry_eq]
  generalize (lg_sl ([.ref (bM 0), .int x1, .ref (bM 9)]) ++ List.replicate (8 - (lg_sl ([.ref (bM 0), .int x1, .ref (bM 9)])).length) Slot.unset).toArray = ls at hl ⊢
  have hl : lv_has ls 8 [(0, .ref (bM 0)), (1, .int x1), (2, .ref (bM 9))] := hl
  have htu : ∀ w ∈ UW, w.before _ s = true := fun w h => hts w (List.mem_cons_of_mem _ h)
  unfold f_X8_gate_bent at hf
  obtain ⟨H, hH⟩ : ∃ z, z = s.heap := ⟨_, rfl⟩
  obtain ⟨locs, hlo⟩ : ∃ z : List Loc, z = [] := ⟨_, rfl⟩
  have hS : va_S A s.heap H locs := by rw [hH, hlo]; exact hS
  rw [← hH] at hP
  have hW : W p l e (headSpec wsX8_gate rmX8_gate_bent).room s m ([.ref (bM 0), .int x1, .ref (bM 9)] : List Value).toArray below meth c H locs 0 0 (MQ below (qI g A (cM g bM vM) r) ([.ref (bM 0), .int x1, .ref (bM 9)] : List Value).toArray s 0 0 A) (F0 m 0 ls []) := by
    refine lv_aload_n hx hb dX8_gate_0 rfl (lv_at hl 0 rfl) ?_
    refine lv_iload_n hx hb dX8_gate_1 rfl (lv_at hl 1 rfl) ?_
    obtain ⟨r1, hg2, hf⟩ := o1_at hf
    refine k_viW ⟨hx, hb, hml, hown, htu⟩ hK hP hD hS hA hG (c_X8_kindOf l g bM vM x1 r1 hg2) (cwV 1 htu (gU_V mw_6_80 hcX8_kindOf) rfl rfl rfl hdX8_kindOf ⟨Nat.le_of_ble_eq_true rfl, Nat.le_of_ble_eq_true rfl⟩) (q0 := 0) (ci := 8) (fs := fcM bM vM) (q := (RX8, TX8, 23)) rfl rfl rfl (As := [.int x1]) (rest := []) rfl rfl hl.1 (Nat.le_of_ble_eq_true rfl) dX8_gate_2 (k1 := 0) (n1 := 0) rfl rfl ⟨Nat.le_refl _, Nat.le_refl _⟩ (fun H locs hP hD hS => ?_)
    refine lv_istore_n (lv' := [(3, .int r1), (0, .ref (bM 0)), (1, .int x1), (2, .ref (bM 9))]) hx hb dX8_gate_5 rfl hl (by decide) rfl (fun ls hl => ?_)
    refine lv_aload_n hx hb dX8_gate_6 rfl (lv_at hl 3 rfl) ?_
    refine lv_aload_n hx hb dX8_gate_7 rfl (lv_at hl 1 rfl) ?_
    refine lv_iload_n hx hb dX8_gate_8 rfl (lv_at hl 2 rfl) ?_
    refine lv_iconst (v := (0 : Int32)) hx hb dX8_gate_9 (by decide) ?_
    obtain ⟨r3, hg4, hf⟩ := o1_at hf
    refine k_viW ⟨hx, hb, hml, hown, htu⟩ hK hP hD hS hA hG (c_X8_operandOf l g bM vM x1 (0 : Int32) r3 hg4) (cwV 2 htu (gU_V mw_6_84 hcX8_operandOf) rfl rfl rfl hdX8_operandOf ⟨Nat.le_of_ble_eq_true rfl, Nat.le_of_ble_eq_true rfl⟩) (q0 := 0) (ci := 8) (fs := fcM bM vM) (q := (RX8, TX8, 23)) rfl rfl rfl (As := [.int x1, .int (0 : Int32)]) (rest := [.ref (bM 9)]) rfl rfl hl.1 (Nat.le_of_ble_eq_true rfl) dX8_gate_10 (k1 := 0) (n1 := 0) rfl rfl ⟨Nat.le_refl _, Nat.le_refl _⟩ (fun H locs hP hD hS => ?_)
    obtain ⟨h5, hf⟩ := gd_in hf
    refine va_iald (D := g.1) (f := (vM.2.1 8)) hx hb hK hP 6 0 rfl rfl h5 dX8_gate_13 ?_
    refine lv_istore (lv' := [(4, .int (vM.2.1 8 (r3).toNatClampNeg)), (3, .int r1), (0, .ref (bM 0)), (1, .int x1), (2, .ref (bM 9))]) hx hb dX8_gate_14 hl (by decide) rfl (fun ls hl => ?_)
    refine lv_iload_n hx hb dX8_gate_16 rfl (lv_at hl 1 rfl) ?_
    refine lv_bipush (v := (6 : Int32)) hx hb dX8_gate_17 (by decide) ?_
    obtain ⟨k6, hk16, hf⟩ := jn_at hf
    have hJ7 : k6 = some r → ∀ (H : Heap) (locs : List Loc), va_P g.1 vwCl (cM g bM vM) H → va_D A (cM g bM vM) → va_S A s.heap H locs → ∀ ls : Array Slot, lv_has ls 8 [(3, .int r1), (4, .int (vM.2.1 8 (r3).toNatClampNeg))] → W p l e (headSpec wsX8_gate rmX8_gate_bent).room s m ([.ref (bM 0), .int x1, .ref (bM 9)] : List Value).toArray below meth c H locs 0 0 (MQ below (qI g A (cM g bM vM) r) ([.ref (bM 0), .int x1, .ref (bM 9)] : List Value).toArray s 0 0 A) (F0 m 28 ls []) := by
      intro hf H locs hP hD hS ls hl
      rw [hk16] at hf
      clear hk16
      refine lv_iload_n hx hb dX8_gate_28 rfl (lv_at hl 0 rfl) ?_
      refine lv_bipush (v := (6 : Int32)) hx hb dX8_gate_29 (by decide) ?_
      obtain ⟨k9, hk12, hf⟩ := jn_at hf
      have hJ10 : ∀ (t8 : Int32), k9 t8 = some r → ∀ (H : Heap) (locs : List Loc), va_P g.1 vwCl (cM g bM vM) H → va_D A (cM g bM vM) → va_S A s.heap H locs → ∀ ls : Array Slot, lv_has ls 8 [] → W p l e (headSpec wsX8_gate rmX8_gate_bent).room s m ([.ref (bM 0), .int x1, .ref (bM 9)] : List Value).toArray below meth c H locs 0 0 (MQ below (qI g A (cM g bM vM) r) ([.ref (bM 0), .int x1, .ref (bM 9)] : List Value).toArray s 0 0 A) (F0 m 44 ls [.int t8]) := by
        intro t8 hf H locs hP hD hS ls hl
        rw [hk12] at hf
        dsimp only at hf
        clear hk12
        have e11 := Option.some.inj hf
        exact k_iret hx hb hr hlocks hK hP hD hS e11 dX8_gate_44
      refine lv_icmp_ne (tgt := 42) hx hb dX8_gate_31 (by decide) (fun c13 => ?_) (fun c13 => ?_)
      · have hf := it_f hf c13
        refine lv_iload hx hb dX8_gate_42 (lv_at hl 1 rfl) ?_
        exact hJ10 (vM.2.1 8 (r3).toNatClampNeg) hf H locs hP hD hS _ (lv_sub hl [] rfl)
      · have hf := it_t hf c13
        refine lv_iload hx hb dX8_gate_34 (lv_at hl 1 rfl) ?_
        obtain ⟨r14, hg15, hf⟩ := o1_at hf
        refine k_si0 ⟨hx, hb, hml, hown, htu⟩ hK hP hD hS hA hG (c_X8_turned l g (vM.2.1 8 (r3).toNatClampNeg) r14 hg15) (va_cwS 1 htu (gU_S mw_6_88 hcX8_turned) rfl rfl rfl hdX8_turned ⟨Nat.le_of_ble_eq_true rfl, Nat.le_of_ble_eq_true rfl⟩) (As := [.int (vM.2.1 8 (r3).toNatClampNeg)]) (rest := []) rfl rfl hl.1 (Nat.le_of_ble_eq_true rfl) dX8_gate_36 (k1 := 0) (n1 := 0) rfl rfl ⟨Nat.le_refl _, Nat.le_refl _⟩ (fun H locs hP hD hS => ?_)
        refine lv_goto (tgt := 44) hx hb dX8_gate_39 (by decide) ?_
        exact hJ10 r14 hf H locs hP hD hS _ (lv_sub hl [] rfl)
    refine lv_icmp_eq (tgt := 28) hx hb dX8_gate_19 (by decide) (fun c17 => ?_) (fun c17 => ?_)
    · have hf := it_t hf c17
      exact hJ7 hf H locs hP hD hS _ (lv_sub hl [1, 0] rfl)
    · have hf := it_f hf c17
      refine lv_iload_n hx hb dX8_gate_22 rfl (lv_at hl 1 rfl) ?_
      refine lv_bipush (v := (7 : Int32)) hx hb dX8_gate_23 (by decide) ?_
      refine lv_icmp_ne (tgt := 45) hx hb dX8_gate_25 (by decide) (fun c18 => ?_) (fun c18 => ?_)
      · have hf := it_f hf c18
        refine lv_iload_n hx hb dX8_gate_45 rfl (lv_at hl 1 rfl) ?_
        refine lv_bipush (v := (8 : Int32)) hx hb dX8_gate_46 (by decide) ?_
        refine lv_icmp_ne (tgt := 106) hx hb dX8_gate_48 (by decide) (fun c19 => ?_) (fun c19 => ?_)
        · have hf := it_f hf c19
          refine lv_iload_n hx hb dX8_gate_106 rfl (lv_at hl 1 rfl) ?_
          refine lv_iconst (v := (4 : Int32)) hx hb dX8_gate_107 (by decide) ?_
          obtain ⟨k21, hk73, hf⟩ := jn_at hf
          have hJ22 : ∀ (t20 : Int32), k21 t20 = some r → ∀ (H : Heap) (locs : List Loc), va_P g.1 vwCl (cM g bM vM) H → va_D A (cM g bM vM) → va_S A s.heap H locs → ∀ ls : Array Slot, lv_has ls 8 [(0, .ref (bM 0)), (1, .int x1), (2, .ref (bM 9)), (3, .int r1), (4, .int (vM.2.1 8 (r3).toNatClampNeg))] → W p l e (headSpec wsX8_gate rmX8_gate_bent).room s m ([.ref (bM 0), .int x1, .ref (bM 9)] : List Value).toArray below meth c H locs 0 0 (MQ below (qI g A (cM g bM vM) r) ([.ref (bM 0), .int x1, .ref (bM 9)] : List Value).toArray s 0 0 A) (F0 m 121 ls [.int t20]) := by
            intro t20 hf H locs hP hD hS ls hl
            rw [hk73] at hf
            dsimp only at hf
            clear hk73
            refine lv_istore (lv' := [(5, .int t20), (0, .ref (bM 0)), (1, .int x1), (2, .ref (bM 9)), (3, .int r1), (4, .int (vM.2.1 8 (r3).toNatClampNeg))]) hx hb dX8_gate_121 hl (by decide) rfl (fun ls hl => ?_)
            refine lv_iconst (v := (1 : Int32)) hx hb dX8_gate_123 (by decide) ?_
            refine lv_istore (lv' := [(6, .int (1 : Int32)), (5, .int t20), (0, .ref (bM 0)), (1, .int x1), (2, .ref (bM 9)), (3, .int r1), (4, .int (vM.2.1 8 (r3).toNatClampNeg))]) hx hb dX8_gate_124 hl (by decide) rfl (fun ls hl => ?_)
            have hL26 : ∀ (x4_23 : Int32) (x6_24 : Int32), lp (f_X8_gate_bent_L126 vM x1 r1 t20) (fun _ _ => none) FU x4_23 x6_24 = some r → ∀ (H : Heap) (locs : List Loc), va_P g.1 vwCl (cM g bM vM) H → va_D A (cM g bM vM) → va_S A s.heap H locs → ∀ ls : Array Slot, lv_has ls 8 [(0, .ref (bM 0)), (1, .int x1), (2, .ref (bM 9)), (3, .int r1), (4, .int x4_23), (5, .int t20), (6, .int x6_24)] → W p l e (headSpec wsX8_gate rmX8_gate_bent).room s m ([.ref (bM 0), .int x1, .ref (bM 9)] : List Value).toArray below meth c H locs 0 0 (MQ below (qI g A (cM g bM vM) r) ([.ref (bM 0), .int x1, .ref (bM 9)] : List Value).toArray s 0 0 A) (F0 m 126 ls []) := by
              refine lp_ind (T := Int32 → Int32 → Option (Int32)) (fun self25 => ∀ (x4_23 : Int32) (x6_24 : Int32), self25 x4_23 x6_24 = some r → ∀ (H : Heap) (locs : List Loc), va_P g.1 vwCl (cM g bM vM) H → va_D A (cM g bM vM) → va_S A s.heap H locs → ∀ ls : Array Slot, lv_has ls 8 [(0, .ref (bM 0)), (1, .int x1), (2, .ref (bM 9)), (3, .int r1), (4, .int x4_23), (5, .int t20), (6, .int x6_24)] → W p l e (headSpec wsX8_gate rmX8_gate_bent).room s m ([.ref (bM 0), .int x1, .ref (bM 9)] : List Value).toArray below meth c H locs 0 0 (MQ below (qI g A (cM g bM vM) r) ([.ref (bM 0), .int x1, .ref (bM 9)] : List Value).toArray s 0 0 A) (F0 m 126 ls [])) ?_ ?_ FU
              · intro x4_23 x6_24 hf; cases hf
              · intro self25 ih27 x4_23 x6_24 hf H locs hP hD hS ls hl
                unfold f_X8_gate_bent_L126 at hf
                refine lv_iload hx hb dX8_gate_126 (lv_at hl 6 rfl) ?_
                refine lv_aload_n hx hb dX8_gate_128 rfl (lv_at hl 0 rfl) ?_
                refine lv_iload_n hx hb dX8_gate_129 rfl (lv_at hl 1 rfl) ?_
                obtain ⟨r28, hg29, hf⟩ := o1_at hf
                refine k_viW ⟨hx, hb, hml, hown, htu⟩ hK hP hD hS hA hG (c_X8_have l g bM vM x1 r28 hg29) (cwV 1 htu (gU_V mw_6_91 hcX8_have) rfl rfl rfl hdX8_have ⟨Nat.le_of_ble_eq_true rfl, Nat.le_of_ble_eq_true rfl⟩) (q0 := 0) (ci := 8) (fs := fcM bM vM) (q := (RX8, TX8, 23)) rfl rfl rfl (As := [.int x1]) (rest := [.int x6_24]) rfl rfl hl.1 (Nat.le_of_ble_eq_true rfl) dX8_gate_130 (k1 := 0) (n1 := 0) rfl rfl ⟨Nat.le_refl _, Nat.le_refl _⟩ (fun H locs hP hD hS => ?_)
                refine lv_icmp_ge (tgt := 214) hx hb dX8_gate_133 (by decide) (fun c30 => ?_) (fun c30 => ?_)
                · have hf := it_t hf c30
                  refine lv_iload_n hx hb dX8_gate_214 rfl (lv_at hl 3 rfl) ?_
                  refine lv_iconst (v := (2 : Int32)) hx hb dX8_gate_215 (by decide) ?_
                  obtain ⟨k32, hk35, hf⟩ := jn_at hf
                  have hJ33 : ∀ (t31 : Int32), k32 t31 = some r → ∀ (H : Heap) (locs : List Loc), va_P g.1 vwCl (cM g bM vM) H → va_D A (cM g bM vM) → va_S A s.heap H locs → ∀ ls : Array Slot, lv_has ls 8 [] → W p l e (headSpec wsX8_gate rmX8_gate_bent).room s m ([.ref (bM 0), .int x1, .ref (bM 9)] : List Value).toArray below meth c H locs 0 0 (MQ below (qI g A (cM g bM vM) r) ([.ref (bM 0), .int x1, .ref (bM 9)] : List Value).toArray s 0 0 A) (F0 m 239 ls [.int t31]) := by
                    intro t31 hf H locs hP hD hS ls hl
                    rw [hk35] at hf
                    dsimp only at hf
                    clear hk35
                    have e34 := Option.some.inj hf
                    exact k_iret hx hb hr hlocks hK hP hD hS e34 dX8_gate_239
                  obtain ⟨k36, hk40, hf⟩ := jn_at hf
                  have hJ37 : k36 = some r → ∀ (H : Heap) (locs : List Loc), va_P g.1 vwCl (cM g bM vM) H → va_D A (cM g bM vM) → va_S A s.heap H locs → ∀ ls : Array Slot, lv_has ls 8 [(4, .int x4_23)] → W p l e (headSpec wsX8_gate rmX8_gate_bent).room s m ([.ref (bM 0), .int x1, .ref (bM 9)] : List Value).toArray below meth c H locs 0 0 (MQ below (qI g A (cM g bM vM) r) ([.ref (bM 0), .int x1, .ref (bM 9)] : List Value).toArray s 0 0 A) (F0 m 229 ls []) := by
                    intro hf H locs hP hD hS ls hl
                    rw [hk40] at hf
                    clear hk40
                    refine lv_iload hx hb dX8_gate_229 (lv_at hl 0 rfl) ?_
                    obtain ⟨r38, hg39, hf⟩ := o1_at hf
                    refine k_si0 ⟨hx, hb, hml, hown, htu⟩ hK hP hD hS hA hG (c_X8_turned l g x4_23 r38 hg39) (va_cwS 1 htu (gU_S mw_6_88 hcX8_turned) rfl rfl rfl hdX8_turned ⟨Nat.le_of_ble_eq_true rfl, Nat.le_of_ble_eq_true rfl⟩) (As := [.int x4_23]) (rest := []) rfl rfl hl.1 (Nat.le_of_ble_eq_true rfl) dX8_gate_231 (k1 := 0) (n1 := 0) rfl rfl ⟨Nat.le_refl _, Nat.le_refl _⟩ (fun H locs hP hD hS => ?_)
                    refine lv_goto (tgt := 239) hx hb dX8_gate_234 (by decide) ?_
                    exact hJ33 r38 hf H locs hP hD hS _ (lv_sub hl [] rfl)
                  refine lv_icmp_eq (tgt := 229) hx hb dX8_gate_216 (by decide) (fun c41 => ?_) (fun c41 => ?_)
                  · have hf := it_t hf c41
                    exact hJ37 hf H locs hP hD hS _ (lv_sub hl [4] rfl)
                  · have hf := it_f hf c41
                    refine lv_iload_n hx hb dX8_gate_219 rfl (lv_at hl 3 rfl) ?_
                    refine lv_iconst (v := (3 : Int32)) hx hb dX8_gate_220 (by decide) ?_
                    refine lv_icmp_eq (tgt := 229) hx hb dX8_gate_221 (by decide) (fun c42 => ?_) (fun c42 => ?_)
                    · have hf := it_t hf c42
                      exact hJ37 hf H locs hP hD hS _ (lv_sub hl [4] rfl)
                    · have hf := it_f hf c42
                      refine lv_iload_n hx hb dX8_gate_224 rfl (lv_at hl 3 rfl) ?_
                      refine lv_iconst (v := (5 : Int32)) hx hb dX8_gate_225 (by decide) ?_
                      refine lv_icmp_ne (tgt := 237) hx hb dX8_gate_226 (by decide) (fun c43 => ?_) (fun c43 => ?_)
                      · have hf := it_f hf c43
                        refine lv_iload hx hb dX8_gate_237 (lv_at hl 4 rfl) ?_
                        exact hJ33 x4_23 hf H locs hP hD hS _ (lv_sub hl [] rfl)
                      · have hf := it_t hf c43
                        exact hJ37 hf H locs hP hD hS _ (lv_sub hl [4] rfl)
                · have hf := it_f hf c30
                  refine lv_aload_n hx hb dX8_gate_136 rfl (lv_at hl 2 rfl) ?_
                  refine lv_aload_n hx hb dX8_gate_137 rfl (lv_at hl 0 rfl) ?_
                  refine lv_iload_n hx hb dX8_gate_138 rfl (lv_at hl 1 rfl) ?_
                  refine lv_iload hx hb dX8_gate_139 (lv_at hl 6 rfl) ?_
                  obtain ⟨r44, hg45, hf⟩ := o1_at hf
                  refine k_viW ⟨hx, hb, hml, hown, htu⟩ hK hP hD hS hA hG (c_X8_operandOf l g bM vM x1 x6_24 r44 hg45) (cwV 2 htu (gU_V mw_6_84 hcX8_operandOf) rfl rfl rfl hdX8_operandOf ⟨Nat.le_of_ble_eq_true rfl, Nat.le_of_ble_eq_true rfl⟩) (q0 := 0) (ci := 8) (fs := fcM bM vM) (q := (RX8, TX8, 23)) rfl rfl rfl (As := [.int x1, .int x6_24]) (rest := [.ref (bM 9)]) rfl rfl hl.1 (Nat.le_of_ble_eq_true rfl) dX8_gate_141 (k1 := 0) (n1 := 0) rfl rfl ⟨Nat.le_refl _, Nat.le_refl _⟩ (fun H locs hP hD hS => ?_)
                  obtain ⟨h46, hf⟩ := gd_in hf
                  refine va_iald (D := g.1) (f := (vM.2.1 8)) hx hb hK hP 6 0 rfl rfl h46 dX8_gate_144 ?_
                  refine lv_istore (lv' := [(7, .int (vM.2.1 8 (r44).toNatClampNeg)), (0, .ref (bM 0)), (1, .int x1), (2, .ref (bM 9)), (3, .int r1), (4, .int x4_23), (5, .int t20), (6, .int x6_24)]) hx hb dX8_gate_145 hl (by decide) rfl (fun ls hl => ?_)
                  refine lv_iload hx hb dX8_gate_147 (lv_at hl 6 rfl) ?_
                  obtain ⟨k48, hk50, hf⟩ := jn_at hf
                  have hJ49 : ∀ (x4_47 : Int32), k48 x4_47 = some r → ∀ (H : Heap) (locs : List Loc), va_P g.1 vwCl (cM g bM vM) H → va_D A (cM g bM vM) → va_S A s.heap H locs → ∀ ls : Array Slot, lv_has ls 8 [(0, .ref (bM 0)), (1, .int x1), (2, .ref (bM 9)), (3, .int r1), (4, .int x4_47), (5, .int t20), (6, .int x6_24)] → W p l e (headSpec wsX8_gate rmX8_gate_bent).room s m ([.ref (bM 0), .int x1, .ref (bM 9)] : List Value).toArray below meth c H locs 0 0 (MQ below (qI g A (cM g bM vM) r) ([.ref (bM 0), .int x1, .ref (bM 9)] : List Value).toArray s 0 0 A) (F0 m 208 ls []) := by
                    intro x4_47 hf H locs hP hD hS ls hl
                    rw [hk50] at hf
                    dsimp only at hf
                    clear hk50
                    refine lv_iinc (v := (x6_24 + (1 : Int32))) (lv' := [(6, .int (x6_24 + (1 : Int32))), (0, .ref (bM 0)), (1, .int x1), (2, .ref (bM 9)), (3, .int r1), (4, .int x4_47), (5, .int t20)]) hx hb dX8_gate_208 hl (k := 6) rfl rfl (by decide) rfl (fun ls hl => ?_)
                    refine lv_goto (tgt := 126) hx hb dX8_gate_211 (by decide) ?_
                    exact ih27 x4_47 (x6_24 + (1 : Int32)) hf H locs hP hD hS _ (lv_sub hl [1, 2, 3, 4, 5, 6, 0] rfl)
                  refine lv_if_eq (tgt := 185) hx hb dX8_gate_149 (by decide) (fun c51 => ?_) (fun c51 => ?_)
                  · have hf := it_t hf c51
                    refine lv_iload hx hb dX8_gate_185 (lv_at hl 5 rfl) ?_
                    refine lv_iload hx hb dX8_gate_187 (lv_at hl 0 rfl) ?_
                    refine lv_iload_n hx hb dX8_gate_189 rfl (lv_at hl 4 rfl) ?_
                    obtain ⟨k53, hk57, hf⟩ := jn_at hf
                    have hJ54 : ∀ (t52 : Int32), k53 t52 = some r → ∀ (H : Heap) (locs : List Loc), va_P g.1 vwCl (cM g bM vM) H → va_D A (cM g bM vM) → va_S A s.heap H locs → ∀ ls : Array Slot, lv_has ls 8 [(0, .ref (bM 0)), (1, .int x1), (2, .ref (bM 9)), (3, .int r1), (5, .int t20), (6, .int x6_24)] → W p l e (headSpec wsX8_gate rmX8_gate_bent).room s m ([.ref (bM 0), .int x1, .ref (bM 9)] : List Value).toArray below meth c H locs 0 0 (MQ below (qI g A (cM g bM vM) r) ([.ref (bM 0), .int x1, .ref (bM 9)] : List Value).toArray s 0 0 A) (F0 m 203 ls [.int t52, .int (vM.2.1 8 (r44).toNatClampNeg), .int x4_23]) := by
                      intro t52 hf H locs hP hD hS ls hl
                      rw [hk57] at hf
                      dsimp only at hf
                      clear hk57
                      obtain ⟨r55, hg56, hf⟩ := o1_at hf
                      refine k_si0 ⟨hx, hb, hml, hown, htu⟩ hK hP hD hS hA hG (c_X8_decided l g x4_23 (vM.2.1 8 (r44).toNatClampNeg) t52 r55 hg56) (va_cwS 3 htu (gU_S mw_6_95 hcX8_decided) rfl rfl rfl hdX8_decided ⟨Nat.le_of_ble_eq_true rfl, Nat.le_of_ble_eq_true rfl⟩) (As := [.int x4_23, .int (vM.2.1 8 (r44).toNatClampNeg), .int t52]) (rest := []) rfl rfl hl.1 (Nat.le_of_ble_eq_true rfl) dX8_gate_203 (k1 := 0) (n1 := 0) rfl rfl ⟨Nat.le_refl _, Nat.le_refl _⟩ (fun H locs hP hD hS => ?_)
                      refine lv_istore (lv' := [(4, .int r55), (0, .ref (bM 0)), (1, .int x1), (2, .ref (bM 9)), (3, .int r1), (5, .int t20), (6, .int x6_24)]) hx hb dX8_gate_206 hl (by decide) rfl (fun ls hl => ?_)
                      exact hJ49 r55 hf H locs hP hD hS _ (lv_sub hl [1, 2, 3, 4, 0, 5, 6] rfl)
                    obtain ⟨k58, hk60, hf⟩ := jn_at hf
                    have hJ59 : k58 = some r → ∀ (H : Heap) (locs : List Loc), va_P g.1 vwCl (cM g bM vM) H → va_D A (cM g bM vM) → va_S A s.heap H locs → ∀ ls : Array Slot, lv_has ls 8 [(0, .ref (bM 0)), (1, .int x1), (2, .ref (bM 9)), (3, .int r1), (5, .int t20), (6, .int x6_24)] → W p l e (headSpec wsX8_gate rmX8_gate_bent).room s m ([.ref (bM 0), .int x1, .ref (bM 9)] : List Value).toArray below meth c H locs 0 0 (MQ below (qI g A (cM g bM vM) r) ([.ref (bM 0), .int x1, .ref (bM 9)] : List Value).toArray s 0 0 A) (F0 m 198 ls [.int (vM.2.1 8 (r44).toNatClampNeg), .int x4_23]) := by
                      intro hf H locs hP hD hS ls hl
                      rw [hk60] at hf
                      clear hk60
                      refine lv_iconst (v := (0 : Int32)) hx hb dX8_gate_198 (by decide) ?_
                      refine lv_goto (tgt := 203) hx hb dX8_gate_199 (by decide) ?_
                      exact hJ54 (0 : Int32) hf H locs hP hD hS _ (lv_sub hl [0, 1, 2, 3, 4, 5] rfl)
                    refine lv_if_eq (tgt := 198) hx hb dX8_gate_190 (by decide) (fun c61 => ?_) (fun c61 => ?_)
                    · have hf := it_t hf c61
                      exact hJ59 hf H locs hP hD hS _ (lv_sub hl [1, 2, 3, 4, 6, 7] rfl)
                    · have hf := it_f hf c61
                      refine lv_iload_n hx hb dX8_gate_193 rfl (lv_at hl 4 rfl) ?_
                      refine lv_iconst (v := (2 : Int32)) hx hb dX8_gate_194 (by decide) ?_
                      refine lv_icmp_ne (tgt := 202) hx hb dX8_gate_195 (by decide) (fun c62 => ?_) (fun c62 => ?_)
                      · have hf := it_f hf c62
                        refine lv_iconst (v := (1 : Int32)) hx hb dX8_gate_202 (by decide) ?_
                        exact hJ54 (1 : Int32) hf H locs hP hD hS _ (lv_sub hl [1, 2, 3, 4, 6, 7] rfl)
                      · have hf := it_t hf c62
                        exact hJ59 hf H locs hP hD hS _ (lv_sub hl [1, 2, 3, 4, 6, 7] rfl)
                  · have hf := it_f hf c51
                    refine lv_iload hx hb dX8_gate_152 (lv_at hl 5 rfl) ?_
                    refine lv_iconst (v := (2 : Int32)) hx hb dX8_gate_154 (by decide) ?_
                    obtain ⟨k64, hk66, hf⟩ := jn_at hf
                    have hJ65 : ∀ (t63 : Int32), k64 t63 = some r → ∀ (H : Heap) (locs : List Loc), va_P g.1 vwCl (cM g bM vM) H → va_D A (cM g bM vM) → va_S A s.heap H locs → ∀ ls : Array Slot, lv_has ls 8 [(0, .ref (bM 0)), (1, .int x1), (2, .ref (bM 9)), (3, .int r1), (5, .int t20), (6, .int x6_24)] → W p l e (headSpec wsX8_gate rmX8_gate_bent).room s m ([.ref (bM 0), .int x1, .ref (bM 9)] : List Value).toArray below meth c H locs 0 0 (MQ below (qI g A (cM g bM vM) r) ([.ref (bM 0), .int x1, .ref (bM 9)] : List Value).toArray s 0 0 A) (F0 m 180 ls [.int t63]) := by
                      intro t63 hf H locs hP hD hS ls hl
                      rw [hk66] at hf
                      dsimp only at hf
                      clear hk66
                      refine lv_istore (lv' := [(4, .int t63), (0, .ref (bM 0)), (1, .int x1), (2, .ref (bM 9)), (3, .int r1), (5, .int t20), (6, .int x6_24)]) hx hb dX8_gate_180 hl (by decide) rfl (fun ls hl => ?_)
                      refine lv_goto (tgt := 208) hx hb dX8_gate_182 (by decide) ?_
                      exact hJ49 t63 hf H locs hP hD hS _ (lv_sub hl [1, 2, 3, 4, 0, 5, 6] rfl)
                    obtain ⟨k67, hk69, hf⟩ := jn_at hf
                    have hJ68 : k67 = some r → ∀ (H : Heap) (locs : List Loc), va_P g.1 vwCl (cM g bM vM) H → va_D A (cM g bM vM) → va_S A s.heap H locs → ∀ ls : Array Slot, lv_has ls 8 [(0, .ref (bM 0)), (1, .int x1), (2, .ref (bM 9)), (3, .int r1), (5, .int t20), (6, .int x6_24)] → W p l e (headSpec wsX8_gate rmX8_gate_bent).room s m ([.ref (bM 0), .int x1, .ref (bM 9)] : List Value).toArray below meth c H locs 0 0 (MQ below (qI g A (cM g bM vM) r) ([.ref (bM 0), .int x1, .ref (bM 9)] : List Value).toArray s 0 0 A) (F0 m 164 ls []) := by
                      intro hf H locs hP hD hS ls hl
                      rw [hk69] at hf
                      clear hk69
                      refine lv_iconst (v := (2 : Int32)) hx hb dX8_gate_164 (by decide) ?_
                      refine lv_goto (tgt := 180) hx hb dX8_gate_165 (by decide) ?_
                      exact hJ65 (2 : Int32) hf H locs hP hD hS _ (lv_sub hl [0, 1, 2, 3, 4, 5] rfl)
                    refine lv_icmp_eq (tgt := 164) hx hb dX8_gate_155 (by decide) (fun c70 => ?_) (fun c70 => ?_)
                    · have hf := it_t hf c70
                      exact hJ68 hf H locs hP hD hS _ (lv_sub hl [1, 2, 3, 4, 6, 7] rfl)
                    · have hf := it_f hf c70
                      refine lv_iload hx hb dX8_gate_158 (lv_at hl 0 rfl) ?_
                      refine lv_iconst (v := (2 : Int32)) hx hb dX8_gate_160 (by decide) ?_
                      refine lv_icmp_ne (tgt := 168) hx hb dX8_gate_161 (by decide) (fun c71 => ?_) (fun c71 => ?_)
                      · have hf := it_f hf c71
                        refine lv_iload hx hb dX8_gate_168 (lv_at hl 5 rfl) ?_
                        refine lv_iload hx hb dX8_gate_170 (lv_at hl 0 rfl) ?_
                        refine lv_icmp_ne (tgt := 179) hx hb dX8_gate_172 (by decide) (fun c72 => ?_) (fun c72 => ?_)
                        · have hf := it_f hf c72
                          refine lv_iconst (v := (1 : Int32)) hx hb dX8_gate_179 (by decide) ?_
                          exact hJ65 (1 : Int32) hf H locs hP hD hS _ (lv_sub hl [1, 2, 3, 4, 6, 7] rfl)
                        · have hf := it_t hf c72
                          refine lv_iconst (v := (0 : Int32)) hx hb dX8_gate_175 (by decide) ?_
                          refine lv_goto (tgt := 180) hx hb dX8_gate_176 (by decide) ?_
                          exact hJ65 (0 : Int32) hf H locs hP hD hS _ (lv_sub hl [1, 2, 3, 4, 6, 7] rfl)
                      · have hf := it_t hf c71
                        exact hJ68 hf H locs hP hD hS _ (lv_sub hl [1, 2, 3, 4, 6, 7] rfl)
            exact hL26 (vM.2.1 8 (r3).toNatClampNeg) (1 : Int32) hf H locs hP hD hS _ (lv_sub hl [2, 3, 4, 5, 6, 1, 0] rfl)
          obtain ⟨k74, hk76, hf⟩ := jn_at hf
          have hJ75 : k74 = some r → ∀ (H : Heap) (locs : List Loc), va_P g.1 vwCl (cM g bM vM) H → va_D A (cM g bM vM) → va_S A s.heap H locs → ∀ ls : Array Slot, lv_has ls 8 [(0, .ref (bM 0)), (1, .int x1), (2, .ref (bM 9)), (3, .int r1), (4, .int (vM.2.1 8 (r3).toNatClampNeg))] → W p l e (headSpec wsX8_gate rmX8_gate_bent).room s m ([.ref (bM 0), .int x1, .ref (bM 9)] : List Value).toArray below meth c H locs 0 0 (MQ below (qI g A (cM g bM vM) r) ([.ref (bM 0), .int x1, .ref (bM 9)] : List Value).toArray s 0 0 A) (F0 m 116 ls []) := by
            intro hf H locs hP hD hS ls hl
            rw [hk76] at hf
            clear hk76
            refine lv_iconst (v := (1 : Int32)) hx hb dX8_gate_116 (by decide) ?_
            refine lv_goto (tgt := 121) hx hb dX8_gate_117 (by decide) ?_
            exact hJ22 (1 : Int32) hf H locs hP hD hS _ (lv_sub hl [0, 1, 2, 3, 4] rfl)
          refine lv_icmp_eq (tgt := 116) hx hb dX8_gate_108 (by decide) (fun c77 => ?_) (fun c77 => ?_)
          · have hf := it_t hf c77
            exact hJ75 hf H locs hP hD hS _ (lv_sub hl [2, 3, 4, 1, 0] rfl)
          · have hf := it_f hf c77
            refine lv_iload_n hx hb dX8_gate_111 rfl (lv_at hl 1 rfl) ?_
            refine lv_iconst (v := (5 : Int32)) hx hb dX8_gate_112 (by decide) ?_
            refine lv_icmp_ne (tgt := 120) hx hb dX8_gate_113 (by decide) (fun c78 => ?_) (fun c78 => ?_)
            · have hf := it_f hf c78
              refine lv_iconst (v := (0 : Int32)) hx hb dX8_gate_120 (by decide) ?_
              exact hJ22 (0 : Int32) hf H locs hP hD hS _ (lv_sub hl [2, 3, 4, 1, 0] rfl)
            · have hf := it_t hf c78
              exact hJ75 hf H locs hP hD hS _ (lv_sub hl [2, 3, 4, 1, 0] rfl)
        · have hf := it_t hf c19
          refine lv_aload_n hx hb dX8_gate_51 rfl (lv_at hl 4 rfl) ?_
          refine lv_aload_n hx hb dX8_gate_52 rfl (lv_at hl 2 rfl) ?_
          refine lv_iload_n hx hb dX8_gate_53 rfl (lv_at hl 3 rfl) ?_
          refine lv_iconst (v := (1 : Int32)) hx hb dX8_gate_54 (by decide) ?_
          obtain ⟨r79, hg80, hf⟩ := o1_at hf
          refine k_viW ⟨hx, hb, hml, hown, htu⟩ hK hP hD hS hA hG (c_X8_operandOf l g bM vM x1 (1 : Int32) r79 hg80) (cwV 2 htu (gU_V mw_6_84 hcX8_operandOf) rfl rfl rfl hdX8_operandOf ⟨Nat.le_of_ble_eq_true rfl, Nat.le_of_ble_eq_true rfl⟩) (q0 := 0) (ci := 8) (fs := fcM bM vM) (q := (RX8, TX8, 23)) rfl rfl rfl (As := [.int x1, .int (1 : Int32)]) (rest := [.ref (bM 9)]) rfl rfl hl.1 (Nat.le_of_ble_eq_true rfl) dX8_gate_55 (k1 := 0) (n1 := 0) rfl rfl ⟨Nat.le_refl _, Nat.le_refl _⟩ (fun H locs hP hD hS => ?_)
          obtain ⟨h81, hf⟩ := gd_in hf
          refine va_iald (D := g.1) (f := (vM.2.1 8)) hx hb hK hP 6 0 rfl rfl h81 dX8_gate_58 ?_
          refine lv_istore (lv' := [(5, .int (vM.2.1 8 (r79).toNatClampNeg)), (4, .int (vM.2.1 8 (r3).toNatClampNeg)), (3, .int r1), (0, .ref (bM 0)), (1, .int x1), (2, .ref (bM 9))]) hx hb dX8_gate_59 hl (by decide) rfl (fun ls hl => ?_)
          refine lv_aload_n hx hb dX8_gate_61 rfl (lv_at hl 5 rfl) ?_
          refine lv_aload_n hx hb dX8_gate_62 rfl (lv_at hl 3 rfl) ?_
          refine lv_iload_n hx hb dX8_gate_63 rfl (lv_at hl 4 rfl) ?_
          refine lv_iconst (v := (2 : Int32)) hx hb dX8_gate_64 (by decide) ?_
          obtain ⟨r82, hg83, hf⟩ := o1_at hf
          refine k_viW ⟨hx, hb, hml, hown, htu⟩ hK hP hD hS hA hG (c_X8_operandOf l g bM vM x1 (2 : Int32) r82 hg83) (cwV 2 htu (gU_V mw_6_84 hcX8_operandOf) rfl rfl rfl hdX8_operandOf ⟨Nat.le_of_ble_eq_true rfl, Nat.le_of_ble_eq_true rfl⟩) (q0 := 0) (ci := 8) (fs := fcM bM vM) (q := (RX8, TX8, 23)) rfl rfl rfl (As := [.int x1, .int (2 : Int32)]) (rest := [.ref (bM 9)]) rfl rfl hl.1 (Nat.le_of_ble_eq_true rfl) dX8_gate_65 (k1 := 0) (n1 := 0) rfl rfl ⟨Nat.le_refl _, Nat.le_refl _⟩ (fun H locs hP hD hS => ?_)
          obtain ⟨h84, hf⟩ := gd_in hf
          refine va_iald (D := g.1) (f := (vM.2.1 8)) hx hb hK hP 6 0 rfl rfl h84 dX8_gate_68 ?_
          refine lv_istore (lv' := [(6, .int (vM.2.1 8 (r82).toNatClampNeg)), (5, .int (vM.2.1 8 (r79).toNatClampNeg)), (4, .int (vM.2.1 8 (r3).toNatClampNeg)), (3, .int r1), (0, .ref (bM 0)), (1, .int x1), (2, .ref (bM 9))]) hx hb dX8_gate_69 hl (by decide) rfl (fun ls hl => ?_)
          refine lv_iload hx hb dX8_gate_71 (lv_at hl 2 rfl) ?_
          obtain ⟨k86, hk89, hf⟩ := jn_at hf
          have hJ87 : ∀ (t85 : Int32), k86 t85 = some r → ∀ (H : Heap) (locs : List Loc), va_P g.1 vwCl (cM g bM vM) H → va_D A (cM g bM vM) → va_S A s.heap H locs → ∀ ls : Array Slot, lv_has ls 8 [] → W p l e (headSpec wsX8_gate rmX8_gate_bent).room s m ([.ref (bM 0), .int x1, .ref (bM 9)] : List Value).toArray below meth c H locs 0 0 (MQ below (qI g A (cM g bM vM) r) ([.ref (bM 0), .int x1, .ref (bM 9)] : List Value).toArray s 0 0 A) (F0 m 105 ls [.int t85]) := by
            intro t85 hf H locs hP hD hS ls hl
            rw [hk89] at hf
            dsimp only at hf
            clear hk89
            have e88 := Option.some.inj hf
            exact k_iret hx hb hr hlocks hK hP hD hS e88 dX8_gate_105
          refine lv_if_ne (tgt := 81) hx hb dX8_gate_73 (by decide) (fun c90 => ?_) (fun c90 => ?_)
          · have hf := it_f hf c90
            refine lv_iload hx hb dX8_gate_81 (lv_at hl 2 rfl) ?_
            refine lv_iconst (v := (1 : Int32)) hx hb dX8_gate_83 (by decide) ?_
            refine lv_icmp_ne (tgt := 92) hx hb dX8_gate_84 (by decide) (fun c91 => ?_) (fun c91 => ?_)
            · have hf := it_f hf c91
              refine lv_iload hx hb dX8_gate_92 (lv_at hl 1 rfl) ?_
              refine lv_iload hx hb dX8_gate_94 (lv_at hl 0 rfl) ?_
              refine lv_icmp_ne (tgt := 104) hx hb dX8_gate_96 (by decide) (fun c92 => ?_) (fun c92 => ?_)
              · have hf := it_f hf c92
                refine lv_iconst (v := (2 : Int32)) hx hb dX8_gate_104 (by decide) ?_
                exact hJ87 (2 : Int32) hf H locs hP hD hS _ (lv_sub hl [] rfl)
              · have hf := it_t hf c92
                refine lv_iload hx hb dX8_gate_99 (lv_at hl 1 rfl) ?_
                refine lv_goto (tgt := 105) hx hb dX8_gate_101 (by decide) ?_
                exact hJ87 (vM.2.1 8 (r79).toNatClampNeg) hf H locs hP hD hS _ (lv_sub hl [] rfl)
            · have hf := it_t hf c91
              refine lv_iload hx hb dX8_gate_87 (lv_at hl 0 rfl) ?_
              refine lv_goto (tgt := 105) hx hb dX8_gate_89 (by decide) ?_
              exact hJ87 (vM.2.1 8 (r82).toNatClampNeg) hf H locs hP hD hS _ (lv_sub hl [] rfl)
          · have hf := it_t hf c90
            refine lv_iload hx hb dX8_gate_76 (lv_at hl 1 rfl) ?_
            refine lv_goto (tgt := 105) hx hb dX8_gate_78 (by decide) ?_
            exact hJ87 (vM.2.1 8 (r79).toNatClampNeg) hf H locs hP hD hS _ (lv_sub hl [] rfl)
      · have hf := it_t hf c18
        exact hJ7 hf H locs hP hD hS _ (lv_sub hl [1, 0] rfl)
  rw [hH, hlo] at hW
  exact hW
def f_X8_atOutput_bent (vM : Vs) (x1 : Int32) : Option (Int32) :=
  o1 (f_X8_get vM ((152 : Int32) + x1)) (fun (r1 : Int32) => gd (inb r1 24) (some ((vM.2.1 8 (r1).toNatClampNeg))))
abbrev rmX8_atOutput_bent : Room := { frames := 1, cells := 0, slots := 0, locals := 21 }
set_option maxHeartbeats 4000000 in
set_option maxRecDepth 100000 in
theorem c_X8_atOutput_bent (l : Launch) (g : Gx) (bM : Nat → Nat) (vM : Vs) (x1 : Int32) (r : Int32) (hf : f_X8_atOutput_bent vM x1 = some r) : CtI l yX8_atOutput wsX8_atOutput rmX8_atOutput_bent g [.ref (bM 0), .int x1, .ref (bM 9)] (cM g bM vM) (cM g bM vM) r 0 0 := by
  unfold CtI
  intro sz
  refine Met.ofW (cc := cX8_atOutput) (maxL := 3) (ret := (some .int)) (by decide) rfl ?_
  intro p e s m args below meth c s₁ B hml hv
  obtain ⟨rfl, hsz, hP, hK, hD0, hG⟩ := hv
  have hx := B.exec
  have hb := B.bytes
  have hr := B.returns
  have hts := atoms_spec (ws := wsX8_atOutput) B.pre
  have hown : s.vm.findClass RX8 = some m.cls := findClass_of_methodNamed B.named
  have hlocks := B.notSynchronized
  subst hsz
  have hD := hD0.self (sz := s.heap.size)
  generalize hAe : va_A (cM g bM vM) s.heap.size = A at hD hG ⊢
  have hA : ∀ q : Nat, s.heap.size ≤ q → A q := fun q h => by rw [← hAe]; exact Or.inr h
  clear hAe hD0
  have hS : va_S A s.heap s.heap [] := va_S.rf
  have hl := lv_entry ([.ref (bM 0), .int x1, .ref (bM 9)]) (n := 3) (Nat.le_of_ble_eq_true rfl)
  rw [lg_entry_eq]
  generalize (lg_sl ([.ref (bM 0), .int x1, .ref (bM 9)]) ++ List.replicate (3 - (lg_sl ([.ref (bM 0), .int x1, .ref (bM 9)])).length) Slot.unset).toArray = ls at hl ⊢
  have hl : lv_has ls 3 [(0, .ref (bM 0)), (1, .int x1), (2, .ref (bM 9))] := hl
  have htu : ∀ w ∈ UW, w.before _ s = true := fun w h => hts w (List.mem_cons_of_mem _ h)
  unfold f_X8_atOutput_bent at hf
  obtain ⟨H, hH⟩ : ∃ z, z = s.heap := ⟨_, rfl⟩
  obtain ⟨locs, hlo⟩ : ∃ z : List Loc, z = [] := ⟨_, rfl⟩
  have hS : va_S A s.heap H locs := by rw [hH, hlo]; exact hS
  rw [← hH] at hP
  have hW : W p l e (headSpec wsX8_atOutput rmX8_atOutput_bent).room s m ([.ref (bM 0), .int x1, .ref (bM 9)] : List Value).toArray below meth c H locs 0 0 (MQ below (qI g A (cM g bM vM) r) ([.ref (bM 0), .int x1, .ref (bM 9)] : List Value).toArray s 0 0 A) (F0 m 0 ls []) := by
    refine lv_aload_n hx hb dX8_atOutput_0 rfl (lv_at hl 2 rfl) ?_
    refine lv_aload_n hx hb dX8_atOutput_1 rfl (lv_at hl 0 rfl) ?_
    refine lv_sipush (v := (152 : Int32)) hx hb dX8_atOutput_2 (by decide) ?_
    refine lv_iload_n hx hb dX8_atOutput_5 rfl (lv_at hl 1 rfl) ?_
    refine lv_iadd hx hb dX8_atOutput_6 ?_
    obtain ⟨r1, hg2, hf⟩ := o1_at hf
    refine k_viW ⟨hx, hb, hml, hown, htu⟩ hK hP hD hS hA hG (c_X8_get l g bM vM ((152 : Int32) + x1) r1 hg2) (cwV 1 htu (gU_V mw_6_20 hcX8_get) rfl rfl rfl hdX8_get ⟨Nat.le_of_ble_eq_true rfl, Nat.le_of_ble_eq_true rfl⟩) (q0 := 0) (ci := 8) (fs := fcM bM vM) (q := (RX8, TX8, 23)) rfl rfl rfl (As := [.int ((152 : Int32) + x1)]) (rest := [.ref (bM 9)]) rfl rfl hl.1 (Nat.le_of_ble_eq_true rfl) dX8_atOutput_7 (k1 := 0) (n1 := 0) rfl rfl ⟨Nat.le_refl _, Nat.le_refl _⟩ (fun H locs hP hD hS => ?_)
    obtain ⟨h3, hf⟩ := gd_in hf
    refine va_iald (D := g.1) (f := (vM.2.1 8)) hx hb hK hP 6 0 rfl rfl h3 dX8_atOutput_10 ?_
    have e4 := Option.some.inj hf
    exact k_iret hx hb hr hlocks hK hP hD hS e4 dX8_atOutput_11
  rw [hH, hlo] at hW
  exact hW
def f_X8_bitsAt_bent_L4 (vM : Vs) (self3 : Int32 → Int32 → Option (Int32)) (x2_1 : Int32) (x3_2 : Int32) : Option (Int32) :=
  o1 (f_X8_outputs vM) (fun (r6 : Int32) => if r6 ≤ x3_2 then some (x2_1) else o1 (f_X8_atOutput_bent vM x3_2) (fun (r10 : Int32) => self3 (x2_1 ||| (r10 <<< (x3_2 &&& 31))) (x3_2 + (1 : Int32))))
def f_X8_bitsAt_bent (vM : Vs) : Option (Int32) :=
  lp (f_X8_bitsAt_bent_L4 vM) (fun _ _ => none) FU (0 : Int32) (0 : Int32)
abbrev rmX8_bitsAt_bent : Room := { frames := 2, cells := 0, slots := 0, locals := 43 }
set_option maxHeartbeats 4000000 in
set_option maxRecDepth 100000 in
theorem c_X8_bitsAt_bent (l : Launch) (g : Gx) (bM : Nat → Nat) (vM : Vs) (r : Int32) (hf : f_X8_bitsAt_bent vM = some r) : CtI l yX8_bitsAt wsX8_bitsAt rmX8_bitsAt_bent g [.ref (bM 0), .ref (bM 9)] (cM g bM vM) (cM g bM vM) r 0 0 := by
  unfold CtI
  intro sz
  refine Met.ofW (cc := cX8_bitsAt) (maxL := 4) (ret := (some .int)) (by decide) rfl ?_
  intro p e s m args below meth c s₁ B hml hv
  obtain ⟨rfl, hsz, hP, hK, hD0, hG⟩ := hv
  have hx := B.exec
  have hb := B.bytes
  have hr := B.returns
  have hts := atoms_spec (ws := wsX8_bitsAt) B.pre
  have hown : s.vm.findClass RX8 = some m.cls := findClass_of_methodNamed B.named
  have hlocks := B.notSynchronized
  subst hsz
  have hD := hD0.self (sz := s.heap.size)
  generalize hAe : va_A (cM g bM vM) s.heap.size = A at hD hG ⊢
  have hA : ∀ q : Nat, s.heap.size ≤ q → A q := fun q h => by rw [← hAe]; exact Or.inr h
  clear hAe hD0
  have hS : va_S A s.heap s.heap [] := va_S.rf
  have hl := lv_entry ([.ref (bM 0), .ref (bM 9)]) (n := 4) (Nat.le_of_ble_eq_true rfl)
  rw [lg_entry_eq]
  generalize (lg_sl ([.ref (bM 0), .ref (bM 9)]) ++ List.replicate (4 - (lg_sl ([.ref (bM 0), .ref (bM 9)])).length) Slot.unset).toArray = ls at hl ⊢
  have hl : lv_has ls 4 [(0, .ref (bM 0)), (1, .ref (bM 9))] := hl
  have htu : ∀ w ∈ UW, w.before _ s = true := fun w h => hts w (List.mem_cons_of_mem _ h)
  unfold f_X8_bitsAt_bent at hf
  obtain ⟨H, hH⟩ : ∃ z, z = s.heap := ⟨_, rfl⟩
  obtain ⟨locs, hlo⟩ : ∃ z : List Loc, z = [] := ⟨_, rfl⟩
  have hS : va_S A s.heap H locs := by rw [hH, hlo]; exact hS
  rw [← hH] at hP
  have hW : W p l e (headSpec wsX8_bitsAt rmX8_bitsAt_bent).room s m ([.ref (bM 0), .ref (bM 9)] : List Value).toArray below meth c H locs 0 0 (MQ below (qI g A (cM g bM vM) r) ([.ref (bM 0), .ref (bM 9)] : List Value).toArray s 0 0 A) (F0 m 0 ls []) := by
    refine lv_iconst (v := (0 : Int32)) hx hb dX8_bitsAt_0 (by decide) ?_
    refine lv_istore_n (lv' := [(2, .int (0 : Int32)), (0, .ref (bM 0)), (1, .ref (bM 9))]) hx hb dX8_bitsAt_1 rfl hl (by decide) rfl (fun ls hl => ?_)
    refine lv_iconst (v := (0 : Int32)) hx hb dX8_bitsAt_2 (by decide) ?_
    refine lv_istore_n (lv' := [(3, .int (0 : Int32)), (2, .int (0 : Int32)), (0, .ref (bM 0)), (1, .ref (bM 9))]) hx hb dX8_bitsAt_3 rfl hl (by decide) rfl (fun ls hl => ?_)
    have hL4 : ∀ (x2_1 : Int32) (x3_2 : Int32), lp (f_X8_bitsAt_bent_L4 vM) (fun _ _ => none) FU x2_1 x3_2 = some r → ∀ (H : Heap) (locs : List Loc), va_P g.1 vwCl (cM g bM vM) H → va_D A (cM g bM vM) → va_S A s.heap H locs → ∀ ls : Array Slot, lv_has ls 4 [(0, .ref (bM 0)), (1, .ref (bM 9)), (2, .int x2_1), (3, .int x3_2)] → W p l e (headSpec wsX8_bitsAt rmX8_bitsAt_bent).room s m ([.ref (bM 0), .ref (bM 9)] : List Value).toArray below meth c H locs 0 0 (MQ below (qI g A (cM g bM vM) r) ([.ref (bM 0), .ref (bM 9)] : List Value).toArray s 0 0 A) (F0 m 4 ls []) := by
      refine lp_ind (T := Int32 → Int32 → Option (Int32)) (fun self3 => ∀ (x2_1 : Int32) (x3_2 : Int32), self3 x2_1 x3_2 = some r → ∀ (H : Heap) (locs : List Loc), va_P g.1 vwCl (cM g bM vM) H → va_D A (cM g bM vM) → va_S A s.heap H locs → ∀ ls : Array Slot, lv_has ls 4 [(0, .ref (bM 0)), (1, .ref (bM 9)), (2, .int x2_1), (3, .int x3_2)] → W p l e (headSpec wsX8_bitsAt rmX8_bitsAt_bent).room s m ([.ref (bM 0), .ref (bM 9)] : List Value).toArray below meth c H locs 0 0 (MQ below (qI g A (cM g bM vM) r) ([.ref (bM 0), .ref (bM 9)] : List Value).toArray s 0 0 A) (F0 m 4 ls [])) ?_ ?_ FU
      · intro x2_1 x3_2 hf; cases hf
      · intro self3 ih5 x2_1 x3_2 hf H locs hP hD hS ls hl
        unfold f_X8_bitsAt_bent_L4 at hf
        refine lv_iload_n hx hb dX8_bitsAt_4 rfl (lv_at hl 3 rfl) ?_
        refine lv_aload_n hx hb dX8_bitsAt_5 rfl (lv_at hl 0 rfl) ?_
        obtain ⟨r6, hg7, hf⟩ := o1_at hf
        refine k_viW ⟨hx, hb, hml, hown, htu⟩ hK hP hD hS hA hG (c_X8_outputs l g bM vM r6 hg7) (cwV 0 htu (gU_V mw_6_40 hcX8_outputs) rfl rfl rfl hdX8_outputs ⟨Nat.le_of_ble_eq_true rfl, Nat.le_of_ble_eq_true rfl⟩) (q0 := 0) (ci := 8) (fs := fcM bM vM) (q := (RX8, TX8, 23)) rfl rfl rfl (As := []) (rest := [.int x3_2]) rfl rfl hl.1 (Nat.le_of_ble_eq_true rfl) dX8_bitsAt_6 (k1 := 0) (n1 := 0) rfl rfl ⟨Nat.le_refl _, Nat.le_refl _⟩ (fun H locs hP hD hS => ?_)
        refine lv_icmp_ge (tgt := 29) hx hb dX8_bitsAt_9 (by decide) (fun c8 => ?_) (fun c8 => ?_)
        · have hf := it_t hf c8
          refine lv_iload_n hx hb dX8_bitsAt_29 rfl (lv_at hl 2 rfl) ?_
          have e9 := Option.some.inj hf
          exact k_iret hx hb hr hlocks hK hP hD hS e9 dX8_bitsAt_30
        · have hf := it_f hf c8
          refine lv_iload_n hx hb dX8_bitsAt_12 rfl (lv_at hl 2 rfl) ?_
          refine lv_aload_n hx hb dX8_bitsAt_13 rfl (lv_at hl 0 rfl) ?_
          refine lv_iload_n hx hb dX8_bitsAt_14 rfl (lv_at hl 3 rfl) ?_
          refine lv_aload_n hx hb dX8_bitsAt_15 rfl (lv_at hl 1 rfl) ?_
          obtain ⟨r10, hg11, hf⟩ := o1_at hf
          refine k_viW ⟨hx, hb, hml, hown, htu⟩ hK hP hD hS hA hG (c_X8_atOutput_bent l g bM vM x3_2 r10 hg11) (cwV 2 htu (gU_V mw_6_106 hcX8_atOutput) rfl rfl rfl hdX8_atOutput ⟨Nat.le_of_ble_eq_true rfl, Nat.le_of_ble_eq_true rfl⟩) (q0 := 0) (ci := 8) (fs := fcM bM vM) (q := (RX8, TX8, 23)) rfl rfl rfl (As := [.int x3_2, .ref (bM 9)]) (rest := [.int x2_1]) rfl rfl hl.1 (Nat.le_of_ble_eq_true rfl) dX8_bitsAt_16 (k1 := 0) (n1 := 0) rfl rfl ⟨Nat.le_refl _, Nat.le_refl _⟩ (fun H locs hP hD hS => ?_)
          refine lv_iload_n hx hb dX8_bitsAt_19 rfl (lv_at hl 3 rfl) ?_
          refine lv_ishl hx hb dX8_bitsAt_20 ?_
          refine lv_ior hx hb dX8_bitsAt_21 ?_
          refine lv_istore_n (lv' := [(2, .int (x2_1 ||| (r10 <<< (x3_2 &&& 31)))), (0, .ref (bM 0)), (1, .ref (bM 9)), (3, .int x3_2)]) hx hb dX8_bitsAt_22 rfl hl (by decide) rfl (fun ls hl => ?_)
          refine lv_iinc (v := (x3_2 + (1 : Int32))) (lv' := [(3, .int (x3_2 + (1 : Int32))), (2, .int (x2_1 ||| (r10 <<< (x3_2 &&& 31)))), (0, .ref (bM 0)), (1, .ref (bM 9))]) hx hb dX8_bitsAt_23 hl (k := 3) rfl rfl (by decide) rfl (fun ls hl => ?_)
          refine lv_goto (tgt := 4) hx hb dX8_bitsAt_26 (by decide) ?_
          exact ih5 (x2_1 ||| (r10 <<< (x3_2 &&& 31))) (x3_2 + (1 : Int32)) hf H locs hP hD hS _ (lv_sub hl [2, 3, 1, 0] rfl)
    exact hL4 (0 : Int32) (0 : Int32) hf H locs hP hD hS _ (lv_sub hl [2, 3, 1, 0] rfl)
  rw [hH, hlo] at hW
  exact hW
def f_X8_cleans_L2 (self3 : Int32 → Vs → Option (Vs)) (x1_1 : Int32) (vM_2 : Vs) : Option (Vs) :=
  o1 (f_X8_wires vM_2) (fun (r6 : Int32) => if r6 ≤ x1_1 then some (vM_2) else o1 (f_X8_inputs vM_2) (fun (r10 : Int32) => jn (fun (t12 : Int32) => gd (inb x1_1 24) (bn (sI vM_2 7 (x1_1).toNatClampNeg t12) (fun (vM_16 : Vs) => self3 (x1_1 + (1 : Int32)) vM_16))) (fun k13 => if r10 ≤ x1_1 then o1 (f_X8_gate_clean vM_2 x1_1) (fun (r19 : Int32) => k13 r19) else gd (inb x1_1 8) (k13 (vM_2.2.1 6 (x1_1).toNatClampNeg)))))
def f_X8_cleans (vM : Vs) : Option (Vs) :=
  lp f_X8_cleans_L2 (fun _ _ => none) FU (0 : Int32) vM
abbrev wsX8_cleans : List Cond := .code yX8_cleans cX8_cleans 2 none :: UW
abbrev rmX8_cleans : Room := { frames := 3, cells := 0, slots := 0, locals := 70 }
set_option maxHeartbeats 4000000 in
set_option maxRecDepth 100000 in
theorem c_X8_cleans (l : Launch) (g : Gx) (bM : Nat → Nat) (vM : Vs) (vM1 : Vs) (hf : f_X8_cleans vM = some vM1) : CtV l yX8_cleans wsX8_cleans rmX8_cleans g [.ref (bM 0)] (cM g bM vM) (cM g bM vM1) 0 0 := by
  unfold CtV
  intro sz
  refine Met.ofW (cc := cX8_cleans) (maxL := 2) (ret := none) (by decide) rfl ?_
  intro p e s m args below meth c s₁ B hml hv
  obtain ⟨rfl, hsz, hP, hK, hD0, hG⟩ := hv
  have hx := B.exec
  have hb := B.bytes
  have hr := B.returns
  have hts := atoms_spec (ws := wsX8_cleans) B.pre
  have hown : s.vm.findClass RX8 = some m.cls := findClass_of_methodNamed B.named
  have hlocks := B.notSynchronized
  subst hsz
  have hD := hD0.self (sz := s.heap.size)
  generalize hAe : va_A (cM g bM vM) s.heap.size = A at hD hG ⊢
  have hA : ∀ q : Nat, s.heap.size ≤ q → A q := fun q h => by rw [← hAe]; exact Or.inr h
  clear hAe hD0
  have hS : va_S A s.heap s.heap [] := va_S.rf
  have hl := lv_entry ([.ref (bM 0)]) (n := 2) (Nat.le_of_ble_eq_true rfl)
  rw [lg_entry_eq]
  generalize (lg_sl ([.ref (bM 0)]) ++ List.replicate (2 - (lg_sl ([.ref (bM 0)])).length) Slot.unset).toArray = ls at hl ⊢
  have hl : lv_has ls 2 [(0, .ref (bM 0))] := hl
  have htu : ∀ w ∈ UW, w.before _ s = true := fun w h => hts w (List.mem_cons_of_mem _ h)
  have k_5_79 := htu _ mw_5_79
  have k_5_78 := htu _ mw_5_78
  unfold f_X8_cleans at hf
  obtain ⟨H, hH⟩ : ∃ z, z = s.heap := ⟨_, rfl⟩
  obtain ⟨locs, hlo⟩ : ∃ z : List Loc, z = [] := ⟨_, rfl⟩
  have hS : va_S A s.heap H locs := by rw [hH, hlo]; exact hS
  rw [← hH] at hP
  have hW : W p l e (headSpec wsX8_cleans rmX8_cleans).room s m ([.ref (bM 0)] : List Value).toArray below meth c H locs 0 0 (MQ below (qV g A (cM g bM vM1)) ([.ref (bM 0)] : List Value).toArray s 0 0 A) (F0 m 0 ls []) := by
    refine lv_iconst (v := (0 : Int32)) hx hb dX8_cleans_0 (by decide) ?_
    refine lv_istore_n (lv' := [(1, .int (0 : Int32)), (0, .ref (bM 0))]) hx hb dX8_cleans_1 rfl hl (by decide) rfl (fun ls hl => ?_)
    have hL4 : ∀ (x1_1 : Int32) (vM_2 : Vs), lp f_X8_cleans_L2 (fun _ _ => none) FU x1_1 vM_2 = some vM1 → ∀ (H : Heap) (locs : List Loc), va_P g.1 vwCl (cM g bM vM_2) H → va_D A (cM g bM vM_2) → va_S A s.heap H locs → ∀ ls : Array Slot, lv_has ls 2 [(0, .ref (bM 0)), (1, .int x1_1)] → W p l e (headSpec wsX8_cleans rmX8_cleans).room s m ([.ref (bM 0)] : List Value).toArray below meth c H locs 0 0 (MQ below (qV g A (cM g bM vM1)) ([.ref (bM 0)] : List Value).toArray s 0 0 A) (F0 m 2 ls []) := by
      refine lp_ind (T := Int32 → Vs → Option (Vs)) (fun self3 => ∀ (x1_1 : Int32) (vM_2 : Vs), self3 x1_1 vM_2 = some vM1 → ∀ (H : Heap) (locs : List Loc), va_P g.1 vwCl (cM g bM vM_2) H → va_D A (cM g bM vM_2) → va_S A s.heap H locs → ∀ ls : Array Slot, lv_has ls 2 [(0, .ref (bM 0)), (1, .int x1_1)] → W p l e (headSpec wsX8_cleans rmX8_cleans).room s m ([.ref (bM 0)] : List Value).toArray below meth c H locs 0 0 (MQ below (qV g A (cM g bM vM1)) ([.ref (bM 0)] : List Value).toArray s 0 0 A) (F0 m 2 ls [])) ?_ ?_ FU
      · intro x1_1 vM_2 hf; cases hf
      · intro self3 ih5 x1_1 vM_2 hf H locs hP hD hS ls hl
        unfold f_X8_cleans_L2 at hf
        refine lv_iload_n hx hb dX8_cleans_2 rfl (lv_at hl 1 rfl) ?_
        refine lv_aload_n hx hb dX8_cleans_3 rfl (lv_at hl 0 rfl) ?_
        obtain ⟨r6, hg7, hf⟩ := o1_at hf
        refine k_viW ⟨hx, hb, hml, hown, htu⟩ hK hP hD hS hA hG (c_X8_wires l g bM vM_2 r6 hg7) (cwV 0 htu (gU_V mw_6_24 hcX8_wires) rfl rfl rfl hdX8_wires ⟨Nat.le_of_ble_eq_true rfl, Nat.le_of_ble_eq_true rfl⟩) (q0 := 0) (ci := 8) (fs := fcM bM vM_2) (q := (RX8, TX8, 23)) rfl rfl rfl (As := []) (rest := [.int x1_1]) rfl rfl hl.1 (Nat.le_of_ble_eq_true rfl) dX8_cleans_4 (k1 := 0) (n1 := 0) rfl rfl ⟨Nat.le_refl _, Nat.le_refl _⟩ (fun H locs hP hD hS => ?_)
        refine lv_icmp_ge (tgt := 48) hx hb dX8_cleans_7 (by decide) (fun c8 => ?_) (fun c8 => ?_)
        · have hf := it_t hf c8
          have e9 := Option.some.inj hf
          rw [e9] at hP hD
          exact k_vret hx hb hr hlocks hK hP hD hS dX8_cleans_48
        · have hf := it_f hf c8
          refine lv_aload_n hx hb dX8_cleans_10 rfl (lv_at hl 0 rfl) ?_
          refine va_get (D := g.1) (ci := 8) (fs := fcM bM vM_2) (v := .ref (bM 8)) (C := RX8) (T := TX8) (N := 23) hx hb htu hinX8 hown hK hP 0 rfl rfl 7 (by decide) k_5_79 (fun _ h9 => h9) rfl dX8_cleans_11 ?_
          refine lv_iload_n hx hb dX8_cleans_14 rfl (lv_at hl 1 rfl) ?_
          refine lv_iload_n hx hb dX8_cleans_15 rfl (lv_at hl 1 rfl) ?_
          refine lv_aload_n hx hb dX8_cleans_16 rfl (lv_at hl 0 rfl) ?_
          obtain ⟨r10, hg11, hf⟩ := o1_at hf
          refine k_viW ⟨hx, hb, hml, hown, htu⟩ hK hP hD hS hA hG (c_X8_inputs l g bM vM_2 r10 hg11) (cwV 0 htu (gU_V mw_6_36 hcX8_inputs) rfl rfl rfl hdX8_inputs ⟨Nat.le_of_ble_eq_true rfl, Nat.le_of_ble_eq_true rfl⟩) (q0 := 0) (ci := 8) (fs := fcM bM vM_2) (q := (RX8, TX8, 23)) rfl rfl rfl (As := []) (rest := [.int x1_1, .int x1_1, .ref (bM 8)]) rfl rfl hl.1 (Nat.le_of_ble_eq_true rfl) dX8_cleans_17 (k1 := 0) (n1 := 0) rfl rfl ⟨Nat.le_refl _, Nat.le_refl _⟩ (fun H locs hP hD hS => ?_)
          obtain ⟨k13, hk17, hf⟩ := jn_at hf
          have hJ14 : ∀ (t12 : Int32), k13 t12 = some vM1 → ∀ (H : Heap) (locs : List Loc), va_P g.1 vwCl (cM g bM vM_2) H → va_D A (cM g bM vM_2) → va_S A s.heap H locs → ∀ ls : Array Slot, lv_has ls 2 [(0, .ref (bM 0)), (1, .int x1_1)] → W p l e (headSpec wsX8_cleans rmX8_cleans).room s m ([.ref (bM 0)] : List Value).toArray below meth c H locs 0 0 (MQ below (qV g A (cM g bM vM1)) ([.ref (bM 0)] : List Value).toArray s 0 0 A) (F0 m 41 ls [.int t12, .int x1_1, .ref (bM 8)]) := by
            intro t12 hf H locs hP hD hS ls hl
            rw [hk17] at hf
            dsimp only at hf
            clear hk17
            obtain ⟨h15, hf⟩ := gd_in hf
            refine va_iast (D := g.1) (f := (vM_2.2.1 7)) hx hb hK hP hD hS 5 0 rfl rfl h15 dX8_cleans_41 (fun H locs hP hD hS => ?_)
            obtain ⟨vM_16, evM_16⟩ : ∃ z, z = sI vM_2 7 (x1_1).toNatClampNeg t12 := ⟨_, rfl⟩
            have hf := bn_at hf evM_16
            have hP : va_P g.1 vwCl (cM g bM vM_16) H := by rw [evM_16]; exact hP
            have hD : va_D A (cM g bM vM_16) := by rw [evM_16]; exact hD
            refine lv_iinc (v := (x1_1 + (1 : Int32))) (lv' := [(1, .int (x1_1 + (1 : Int32))), (0, .ref (bM 0))]) hx hb dX8_cleans_42 hl (k := 1) rfl rfl (by decide) rfl (fun ls hl => ?_)
            refine lv_goto (tgt := 2) hx hb dX8_cleans_45 (by decide) ?_
            exact ih5 (x1_1 + (1 : Int32)) vM_16 hf H locs hP hD hS _ (lv_sub hl [1, 0] rfl)
          refine lv_icmp_ge (tgt := 32) hx hb dX8_cleans_20 (by decide) (fun c18 => ?_) (fun c18 => ?_)
          · have hf := it_t hf c18
            refine lv_aload_n hx hb dX8_cleans_32 rfl (lv_at hl 0 rfl) ?_
            refine lv_iload_n hx hb dX8_cleans_33 rfl (lv_at hl 1 rfl) ?_
            refine lv_aload_n hx hb dX8_cleans_34 rfl (lv_at hl 0 rfl) ?_
            refine va_get (D := g.1) (ci := 8) (fs := fcM bM vM_2) (v := .ref (bM 8)) (C := RX8) (T := TX8) (N := 23) hx hb htu hinX8 hown hK hP 0 rfl rfl 7 (by decide) k_5_79 (fun _ h9 => h9) rfl dX8_cleans_35 ?_
            obtain ⟨r19, hg20, hf⟩ := o1_at hf
            refine k_viW ⟨hx, hb, hml, hown, htu⟩ hK hP hD hS hA hG (c_X8_gate_clean l g bM vM_2 x1_1 r19 hg20) (cwV 2 htu (gU_V mw_6_76 hcX8_gate) rfl rfl rfl hdX8_gate ⟨Nat.le_of_ble_eq_true rfl, Nat.le_of_ble_eq_true rfl⟩) (q0 := 0) (ci := 8) (fs := fcM bM vM_2) (q := (RX8, TX8, 23)) rfl rfl rfl (As := [.int x1_1, .ref (bM 8)]) (rest := [.int x1_1, .ref (bM 8)]) rfl rfl hl.1 (Nat.le_of_ble_eq_true rfl) dX8_cleans_38 (k1 := 0) (n1 := 0) rfl rfl ⟨Nat.le_refl _, Nat.le_refl _⟩ (fun H locs hP hD hS => ?_)
            exact hJ14 r19 hf H locs hP hD hS _ (lv_sub hl [0, 1] rfl)
          · have hf := it_f hf c18
            refine lv_aload_n hx hb dX8_cleans_23 rfl (lv_at hl 0 rfl) ?_
            refine va_get (D := g.1) (ci := 8) (fs := fcM bM vM_2) (v := .ref (bM 7)) (C := RX8) (T := TX8) (N := 23) hx hb htu hinX8 hown hK hP 0 rfl rfl 6 (by decide) k_5_78 (fun _ h9 => h9) rfl dX8_cleans_24 ?_
            refine lv_iload_n hx hb dX8_cleans_27 rfl (lv_at hl 1 rfl) ?_
            obtain ⟨h21, hf⟩ := gd_in hf
            refine va_iald (D := g.1) (f := (vM_2.2.1 6)) hx hb hK hP 4 0 rfl rfl h21 dX8_cleans_28 ?_
            refine lv_goto (tgt := 41) hx hb dX8_cleans_29 (by decide) ?_
            exact hJ14 (vM_2.2.1 6 (x1_1).toNatClampNeg) hf H locs hP hD hS _ (lv_sub hl [0, 1] rfl)
    exact hL4 (0 : Int32) vM hf H locs hP hD hS _ (lv_sub hl [1, 0] rfl)
  rw [hH, hlo] at hW
  exact hW
def f_X8_bends_L84 (x1 : Int32) (r1 : Int32) (t5 : Int32) (t8 : Int32) (self13 : Int32 → Vs → Option (Vs)) (x5_11 : Int32) (vM_12 : Vs) : Option (Vs) :=
  o1 (f_X8_wires vM_12) (fun (r16 : Int32) => if r16 ≤ x5_11 then some (vM_12) else o1 (f_X8_inputs vM_12) (fun (r20 : Int32) => jn (fun (t22 : Int32) => gd (inb x5_11 24) (bn (sI vM_12 8 (x5_11).toNatClampNeg t22) (fun (vM_26 : Vs) => jn (fun (vM_27 : Vs) => jn (fun (vM_30 : Vs) => self13 (x5_11 + (1 : Int32)) vM_30) (fun k31 => if t5 = 0 then if x1 < 0 then k31 vM_27 else gd (nz (2 : Int32)) (if (x1 / (2 : Int32)) = x5_11 then gd (nz (2 : Int32)) (gd (inb x5_11 24) (bn (sI vM_27 8 (x5_11).toNatClampNeg (x1 - x1 / (2 : Int32) * (2 : Int32))) (fun (vM_40 : Vs) => k31 vM_40))) else k31 vM_27) else k31 vM_27)) (fun k28 => if t5 = 0 then k28 vM_26 else o1 (f_X8_get vM_26 (((158 : Int32) + ((3 : Int32) * (x1 - ((2 : Int32) * r1)))) + (1 : Int32))) (fun (r43 : Int32) => jn (gd (inb x5_11 24) (bn (sI vM_26 8 (x5_11).toNatClampNeg t8) (fun (vM_48 : Vs) => k28 vM_48))) (fun k45 => if x5_11 = r43 then k45 else o1 (f_X8_get vM_26 (((158 : Int32) + ((3 : Int32) * (x1 - ((2 : Int32) * r1)))) + (2 : Int32))) (fun (r51 : Int32) => if x5_11 = r51 then k45 else k28 vM_26))))))) (fun k23 => if r20 ≤ x5_11 then o1 (f_X8_gate_bent vM_12 x5_11) (fun (r56 : Int32) => k23 r56) else gd (inb x5_11 8) (k23 (vM_12.2.1 6 (x5_11).toNatClampNeg)))))
def f_X8_bends (vM : Vs) (x1 : Int32) : Option (Vs) :=
  o1 (f_X8_wires vM) (fun (r1 : Int32) => o1 (f_X8_wires vM) (fun (r3 : Int32) => jn (fun (t5 : Int32) => jn (fun (t8 : Int32) => lp (f_X8_bends_L84 x1 r1 t5 t8) (fun _ _ => none) FU (0 : Int32) vM) (fun k9 => if t5 = 0 then k9 (-1 : Int32) else o1 (f_X8_get vM (((158 : Int32) + ((3 : Int32) * (x1 - ((2 : Int32) * r1)))) + (1 : Int32))) (fun (r61 : Int32) => gd (inb r61 24) (o1 (f_X8_get vM (((158 : Int32) + ((3 : Int32) * (x1 - ((2 : Int32) * r1)))) + (2 : Int32))) (fun (r64 : Int32) => gd (inb r64 24) (o1 (f_X8_get vM ((158 : Int32) + ((3 : Int32) * (x1 - ((2 : Int32) * r1))))) (fun (r67 : Int32) => jn (fun (t69 : Int32) => o1 (f_X8_decided (vM.2.1 7 (r61).toNatClampNeg) (vM.2.1 7 (r64).toNatClampNeg) t69) (fun (r72 : Int32) => k9 r72)) (fun k70 => if r67 = 0 then k70 (0 : Int32) else k70 (1 : Int32))))))))) (fun k6 => if x1 < ((2 : Int32) * r3) then k6 (0 : Int32) else k6 (1 : Int32))))
abbrev wsX8_bends : List Cond := .code yX8_bends cX8_bends 6 none :: UW
abbrev rmX8_bends : Room := { frames := 3, cells := 0, slots := 0, locals := 70 }
set_option maxHeartbeats 4000000 in
set_option maxRecDepth 100000 in
theorem c_X8_bends (l : Launch) (g : Gx) (bM : Nat → Nat) (vM : Vs) (x1 : Int32) (vM1 : Vs) (hf : f_X8_bends vM x1 = some vM1) : CtV l yX8_bends wsX8_bends rmX8_bends g [.ref (bM 0), .int x1] (cM g bM vM) (cM g bM vM1) 0 0 := by
  unfold CtV
  intro sz
  refine Met.ofW (cc := cX8_bends) (maxL := 6) (ret := none) (by decide) rfl ?_
  intro p e s m args below meth c s₁ B hml hv
  obtain ⟨rfl, hsz, hP, hK, hD0, hG⟩ := hv
  have hx := B.exec
  have hb := B.bytes
  have hr := B.returns
  have hts := atoms_spec (ws := wsX8_bends) B.pre
  have hown : s.vm.findClass RX8 = some m.cls := findClass_of_methodNamed B.named
  have hlocks := B.notSynchronized
  subst hsz
  have hD := hD0.self (sz := s.heap.size)
  generalize hAe : va_A (cM g bM vM) s.heap.size = A at hD hG ⊢
  have hA : ∀ q : Nat, s.heap.size ≤ q → A q := fun q h => by rw [← hAe]; exact Or.inr h
  clear hAe hD0
  have hS : va_S A s.heap s.heap [] := va_S.rf
  have hl := lv_entry ([.ref (bM 0), .int x1]) (n := 6) (Nat.le_of_ble_eq_true rfl)
  rw [lg_entry_eq]
  generalize (lg_sl ([.ref (bM 0), .int x1]) ++ List.replicate (6 - (lg_sl ([.ref (bM 0), .int x1])).length) Slot.unset).toArray = ls at hl ⊢
  have hl : lv_has ls 6 [(0, .ref (bM 0)), (1, .int x1)] := hl
  have htu : ∀ w ∈ UW, w.before _ s = true := fun w h => hts w (List.mem_cons_of_mem _ h)
  have k_5_80 := htu _ mw_5_80
  have k_5_78 := htu _ mw_5_78
  have k_5_79 := htu _ mw_5_79
  unfold f_X8_bends at hf
  obtain ⟨H, hH⟩ : ∃ z, z = s.heap := ⟨_, rfl⟩
  obtain ⟨locs, hlo⟩ : ∃ z : List Loc, z = [] := ⟨_, rfl⟩
  have hS : va_S A s.heap H locs := by rw [hH, hlo]; exact hS
  rw [← hH] at hP
  have hW : W p l e (headSpec wsX8_bends rmX8_bends).room s m ([.ref (bM 0), .int x1] : List Value).toArray below meth c H locs 0 0 (MQ below (qV g A (cM g bM vM1)) ([.ref (bM 0), .int x1] : List Value).toArray s 0 0 A) (F0 m 0 ls []) := by
    refine lv_sipush (v := (158 : Int32)) hx hb dX8_bends_0 (by decide) ?_
    refine lv_iconst (v := (3 : Int32)) hx hb dX8_bends_3 (by decide) ?_
    refine lv_iload_n hx hb dX8_bends_4 rfl (lv_at hl 1 rfl) ?_
    refine lv_iconst (v := (2 : Int32)) hx hb dX8_bends_5 (by decide) ?_
    refine lv_aload_n hx hb dX8_bends_6 rfl (lv_at hl 0 rfl) ?_
    obtain ⟨r1, hg2, hf⟩ := o1_at hf
    refine k_viW ⟨hx, hb, hml, hown, htu⟩ hK hP hD hS hA hG (c_X8_wires l g bM vM r1 hg2) (cwV 0 htu (gU_V mw_6_24 hcX8_wires) rfl rfl rfl hdX8_wires ⟨Nat.le_of_ble_eq_true rfl, Nat.le_of_ble_eq_true rfl⟩) (q0 := 0) (ci := 8) (fs := fcM bM vM) (q := (RX8, TX8, 23)) rfl rfl rfl (As := []) (rest := [.int (2 : Int32), .int x1, .int (3 : Int32), .int (158 : Int32)]) rfl rfl hl.1 (Nat.le_of_ble_eq_true rfl) dX8_bends_7 (k1 := 0) (n1 := 0) rfl rfl ⟨Nat.le_refl _, Nat.le_refl _⟩ (fun H locs hP hD hS => ?_)
    refine lv_imul hx hb dX8_bends_10 ?_
    refine lv_isub hx hb dX8_bends_11 ?_
    refine lv_imul hx hb dX8_bends_12 ?_
    refine lv_iadd hx hb dX8_bends_13 ?_
    refine lv_istore_n (lv' := [(2, .int ((158 : Int32) + ((3 : Int32) * (x1 - ((2 : Int32) * r1))))), (0, .ref (bM 0)), (1, .int x1)]) hx hb dX8_bends_14 rfl hl (by decide) rfl (fun ls hl => ?_)
    refine lv_iload_n hx hb dX8_bends_15 rfl (lv_at hl 2 rfl) ?_
    refine lv_iconst (v := (2 : Int32)) hx hb dX8_bends_16 (by decide) ?_
    refine lv_aload_n hx hb dX8_bends_17 rfl (lv_at hl 1 rfl) ?_
    obtain ⟨r3, hg4, hf⟩ := o1_at hf
    refine k_viW ⟨hx, hb, hml, hown, htu⟩ hK hP hD hS hA hG (c_X8_wires l g bM vM r3 hg4) (cwV 0 htu (gU_V mw_6_24 hcX8_wires) rfl rfl rfl hdX8_wires ⟨Nat.le_of_ble_eq_true rfl, Nat.le_of_ble_eq_true rfl⟩) (q0 := 0) (ci := 8) (fs := fcM bM vM) (q := (RX8, TX8, 23)) rfl rfl rfl (As := []) (rest := [.int (2 : Int32), .int x1]) rfl rfl hl.1 (Nat.le_of_ble_eq_true rfl) dX8_bends_18 (k1 := 0) (n1 := 0) rfl rfl ⟨Nat.le_refl _, Nat.le_refl _⟩ (fun H locs hP hD hS => ?_)
    refine lv_imul hx hb dX8_bends_21 ?_
    obtain ⟨k6, hk76, hf⟩ := jn_at hf
    have hJ7 : ∀ (t5 : Int32), k6 t5 = some vM1 → ∀ (H : Heap) (locs : List Loc), va_P g.1 vwCl (cM g bM vM) H → va_D A (cM g bM vM) → va_S A s.heap H locs → ∀ ls : Array Slot, lv_has ls 6 [(0, .ref (bM 0)), (1, .int x1), (2, .int ((158 : Int32) + ((3 : Int32) * (x1 - ((2 : Int32) * r1)))))] → W p l e (headSpec wsX8_bends rmX8_bends).room s m ([.ref (bM 0), .int x1] : List Value).toArray below meth c H locs 0 0 (MQ below (qV g A (cM g bM vM1)) ([.ref (bM 0), .int x1] : List Value).toArray s 0 0 A) (F0 m 30 ls [.int t5]) := by
      intro t5 hf H locs hP hD hS ls hl
      rw [hk76] at hf
      dsimp only at hf
      clear hk76
      refine lv_istore_n (lv' := [(3, .int t5), (0, .ref (bM 0)), (1, .int x1), (2, .int ((158 : Int32) + ((3 : Int32) * (x1 - ((2 : Int32) * r1)))))]) hx hb dX8_bends_30 rfl hl (by decide) rfl (fun ls hl => ?_)
      refine lv_iload_n hx hb dX8_bends_31 rfl (lv_at hl 0 rfl) ?_
      obtain ⟨k9, hk59, hf⟩ := jn_at hf
      have hJ10 : ∀ (t8 : Int32), k9 t8 = some vM1 → ∀ (H : Heap) (locs : List Loc), va_P g.1 vwCl (cM g bM vM) H → va_D A (cM g bM vM) → va_S A s.heap H locs → ∀ ls : Array Slot, lv_has ls 6 [(0, .ref (bM 0)), (1, .int x1), (2, .int ((158 : Int32) + ((3 : Int32) * (x1 - ((2 : Int32) * r1))))), (3, .int t5)] → W p l e (headSpec wsX8_bends rmX8_bends).room s m ([.ref (bM 0), .int x1] : List Value).toArray below meth c H locs 0 0 (MQ below (qV g A (cM g bM vM1)) ([.ref (bM 0), .int x1] : List Value).toArray s 0 0 A) (F0 m 79 ls [.int t8]) := by
        intro t8 hf H locs hP hD hS ls hl
        rw [hk59] at hf
        dsimp only at hf
        clear hk59
        refine lv_istore (lv' := [(4, .int t8), (0, .ref (bM 0)), (1, .int x1), (2, .int ((158 : Int32) + ((3 : Int32) * (x1 - ((2 : Int32) * r1))))), (3, .int t5)]) hx hb dX8_bends_79 hl (by decide) rfl (fun ls hl => ?_)
        refine lv_iconst (v := (0 : Int32)) hx hb dX8_bends_81 (by decide) ?_
        refine lv_istore (lv' := [(5, .int (0 : Int32)), (4, .int t8), (0, .ref (bM 0)), (1, .int x1), (2, .int ((158 : Int32) + ((3 : Int32) * (x1 - ((2 : Int32) * r1))))), (3, .int t5)]) hx hb dX8_bends_82 hl (by decide) rfl (fun ls hl => ?_)
        have hL14 : ∀ (x5_11 : Int32) (vM_12 : Vs), lp (f_X8_bends_L84 x1 r1 t5 t8) (fun _ _ => none) FU x5_11 vM_12 = some vM1 → ∀ (H : Heap) (locs : List Loc), va_P g.1 vwCl (cM g bM vM_12) H → va_D A (cM g bM vM_12) → va_S A s.heap H locs → ∀ ls : Array Slot, lv_has ls 6 [(0, .ref (bM 0)), (1, .int x1), (2, .int ((158 : Int32) + ((3 : Int32) * (x1 - ((2 : Int32) * r1))))), (3, .int t5), (4, .int t8), (5, .int x5_11)] → W p l e (headSpec wsX8_bends rmX8_bends).room s m ([.ref (bM 0), .int x1] : List Value).toArray below meth c H locs 0 0 (MQ below (qV g A (cM g bM vM1)) ([.ref (bM 0), .int x1] : List Value).toArray s 0 0 A) (F0 m 84 ls []) := by
          refine lp_ind (T := Int32 → Vs → Option (Vs)) (fun self13 => ∀ (x5_11 : Int32) (vM_12 : Vs), self13 x5_11 vM_12 = some vM1 → ∀ (H : Heap) (locs : List Loc), va_P g.1 vwCl (cM g bM vM_12) H → va_D A (cM g bM vM_12) → va_S A s.heap H locs → ∀ ls : Array Slot, lv_has ls 6 [(0, .ref (bM 0)), (1, .int x1), (2, .int ((158 : Int32) + ((3 : Int32) * (x1 - ((2 : Int32) * r1))))), (3, .int t5), (4, .int t8), (5, .int x5_11)] → W p l e (headSpec wsX8_bends rmX8_bends).room s m ([.ref (bM 0), .int x1] : List Value).toArray below meth c H locs 0 0 (MQ below (qV g A (cM g bM vM1)) ([.ref (bM 0), .int x1] : List Value).toArray s 0 0 A) (F0 m 84 ls [])) ?_ ?_ FU
          · intro x5_11 vM_12 hf; cases hf
          · intro self13 ih15 x5_11 vM_12 hf H locs hP hD hS ls hl
            unfold f_X8_bends_L84 at hf
            refine lv_iload hx hb dX8_bends_84 (lv_at hl 5 rfl) ?_
            refine lv_aload_n hx hb dX8_bends_86 rfl (lv_at hl 0 rfl) ?_
            obtain ⟨r16, hg17, hf⟩ := o1_at hf
            refine k_viW ⟨hx, hb, hml, hown, htu⟩ hK hP hD hS hA hG (c_X8_wires l g bM vM_12 r16 hg17) (cwV 0 htu (gU_V mw_6_24 hcX8_wires) rfl rfl rfl hdX8_wires ⟨Nat.le_of_ble_eq_true rfl, Nat.le_of_ble_eq_true rfl⟩) (q0 := 0) (ci := 8) (fs := fcM bM vM_12) (q := (RX8, TX8, 23)) rfl rfl rfl (As := []) (rest := [.int x5_11]) rfl rfl hl.1 (Nat.le_of_ble_eq_true rfl) dX8_bends_87 (k1 := 0) (n1 := 0) rfl rfl ⟨Nat.le_refl _, Nat.le_refl _⟩ (fun H locs hP hD hS => ?_)
            refine lv_icmp_ge (tgt := 198) hx hb dX8_bends_90 (by decide) (fun c18 => ?_) (fun c18 => ?_)
            · have hf := it_t hf c18
              have e19 := Option.some.inj hf
              rw [e19] at hP hD
              exact k_vret hx hb hr hlocks hK hP hD hS dX8_bends_198
            · have hf := it_f hf c18
              refine lv_aload_n hx hb dX8_bends_93 rfl (lv_at hl 0 rfl) ?_
              refine va_get (D := g.1) (ci := 8) (fs := fcM bM vM_12) (v := .ref (bM 9)) (C := RX8) (T := TX8) (N := 23) hx hb htu hinX8 hown hK hP 0 rfl rfl 8 (by decide) k_5_80 (fun _ h9 => h9) rfl dX8_bends_94 ?_
              refine lv_iload hx hb dX8_bends_97 (lv_at hl 5 rfl) ?_
              refine lv_iload hx hb dX8_bends_99 (lv_at hl 5 rfl) ?_
              refine lv_aload_n hx hb dX8_bends_101 rfl (lv_at hl 0 rfl) ?_
              obtain ⟨r20, hg21, hf⟩ := o1_at hf
              refine k_viW ⟨hx, hb, hml, hown, htu⟩ hK hP hD hS hA hG (c_X8_inputs l g bM vM_12 r20 hg21) (cwV 0 htu (gU_V mw_6_36 hcX8_inputs) rfl rfl rfl hdX8_inputs ⟨Nat.le_of_ble_eq_true rfl, Nat.le_of_ble_eq_true rfl⟩) (q0 := 0) (ci := 8) (fs := fcM bM vM_12) (q := (RX8, TX8, 23)) rfl rfl rfl (As := []) (rest := [.int x5_11, .int x5_11, .ref (bM 9)]) rfl rfl hl.1 (Nat.le_of_ble_eq_true rfl) dX8_bends_102 (k1 := 0) (n1 := 0) rfl rfl ⟨Nat.le_refl _, Nat.le_refl _⟩ (fun H locs hP hD hS => ?_)
              obtain ⟨k23, hk54, hf⟩ := jn_at hf
              have hJ24 : ∀ (t22 : Int32), k23 t22 = some vM1 → ∀ (H : Heap) (locs : List Loc), va_P g.1 vwCl (cM g bM vM_12) H → va_D A (cM g bM vM_12) → va_S A s.heap H locs → ∀ ls : Array Slot, lv_has ls 6 [(0, .ref (bM 0)), (1, .int x1), (2, .int ((158 : Int32) + ((3 : Int32) * (x1 - ((2 : Int32) * r1))))), (3, .int t5), (4, .int t8), (5, .int x5_11)] → W p l e (headSpec wsX8_bends rmX8_bends).room s m ([.ref (bM 0), .int x1] : List Value).toArray below meth c H locs 0 0 (MQ below (qV g A (cM g bM vM1)) ([.ref (bM 0), .int x1] : List Value).toArray s 0 0 A) (F0 m 128 ls [.int t22, .int x5_11, .ref (bM 9)]) := by
                intro t22 hf H locs hP hD hS ls hl
                rw [hk54] at hf
                dsimp only at hf
                clear hk54
                obtain ⟨h25, hf⟩ := gd_in hf
                refine va_iast (D := g.1) (f := (vM_12.2.1 8)) hx hb hK hP hD hS 6 0 rfl rfl h25 dX8_bends_128 (fun H locs hP hD hS => ?_)
                obtain ⟨vM_26, evM_26⟩ : ∃ z, z = sI vM_12 8 (x5_11).toNatClampNeg t22 := ⟨_, rfl⟩
                have hf := bn_at hf evM_26
                have hP : va_P g.1 vwCl (cM g bM vM_26) H := by rw [evM_26]; exact hP
                have hD : va_D A (cM g bM vM_26) := by rw [evM_26]; exact hD
                refine lv_iload_n hx hb dX8_bends_129 rfl (lv_at hl 3 rfl) ?_
                obtain ⟨k28, hk41, hf⟩ := jn_at hf
                have hJ29 : ∀ (vM_27 : Vs), k28 vM_27 = some vM1 → ∀ (H : Heap) (locs : List Loc), va_P g.1 vwCl (cM g bM vM_27) H → va_D A (cM g bM vM_27) → va_S A s.heap H locs → ∀ ls : Array Slot, lv_has ls 6 [(0, .ref (bM 0)), (1, .int x1), (2, .int ((158 : Int32) + ((3 : Int32) * (x1 - ((2 : Int32) * r1))))), (3, .int t5), (4, .int t8), (5, .int x5_11)] → W p l e (headSpec wsX8_bends rmX8_bends).room s m ([.ref (bM 0), .int x1] : List Value).toArray below meth c H locs 0 0 (MQ below (qV g A (cM g bM vM1)) ([.ref (bM 0), .int x1] : List Value).toArray s 0 0 A) (F0 m 166 ls []) := by
                  intro vM_27 hf H locs hP hD hS ls hl
                  rw [hk41] at hf
                  dsimp only at hf
                  clear hk41
                  refine lv_iload_n hx hb dX8_bends_166 rfl (lv_at hl 3 rfl) ?_
                  obtain ⟨k31, hk33, hf⟩ := jn_at hf
                  have hJ32 : ∀ (vM_30 : Vs), k31 vM_30 = some vM1 → ∀ (H : Heap) (locs : List Loc), va_P g.1 vwCl (cM g bM vM_30) H → va_D A (cM g bM vM_30) → va_S A s.heap H locs → ∀ ls : Array Slot, lv_has ls 6 [(0, .ref (bM 0)), (1, .int x1), (2, .int ((158 : Int32) + ((3 : Int32) * (x1 - ((2 : Int32) * r1))))), (3, .int t5), (4, .int t8), (5, .int x5_11)] → W p l e (headSpec wsX8_bends rmX8_bends).room s m ([.ref (bM 0), .int x1] : List Value).toArray below meth c H locs 0 0 (MQ below (qV g A (cM g bM vM1)) ([.ref (bM 0), .int x1] : List Value).toArray s 0 0 A) (F0 m 192 ls []) := by
                    intro vM_30 hf H locs hP hD hS ls hl
                    rw [hk33] at hf
                    dsimp only at hf
                    clear hk33
                    refine lv_iinc (v := (x5_11 + (1 : Int32))) (lv' := [(5, .int (x5_11 + (1 : Int32))), (0, .ref (bM 0)), (1, .int x1), (2, .int ((158 : Int32) + ((3 : Int32) * (x1 - ((2 : Int32) * r1))))), (3, .int t5), (4, .int t8)]) hx hb dX8_bends_192 hl (k := 5) rfl rfl (by decide) rfl (fun ls hl => ?_)
                    refine lv_goto (tgt := 84) hx hb dX8_bends_195 (by decide) ?_
                    exact ih15 (x5_11 + (1 : Int32)) vM_30 hf H locs hP hD hS _ (lv_sub hl [1, 2, 3, 4, 5, 0] rfl)
                  refine lv_if_ne (tgt := 192) hx hb dX8_bends_167 (by decide) (fun c34 => ?_) (fun c34 => ?_)
                  · have hf := it_f hf c34
                    exact hJ32 vM_27 hf H locs hP hD hS _ (lv_sub hl [0, 1, 2, 3, 4, 5] rfl)
                  · have hf := it_t hf c34
                    refine lv_iload_n hx hb dX8_bends_170 rfl (lv_at hl 1 rfl) ?_
                    refine lv_if_lt (tgt := 192) hx hb dX8_bends_171 (by decide) (fun c35 => ?_) (fun c35 => ?_)
                    · have hf := it_t hf c35
                      exact hJ32 vM_27 hf H locs hP hD hS _ (lv_sub hl [0, 1, 2, 3, 4, 5] rfl)
                    · have hf := it_f hf c35
                      refine lv_iload_n hx hb dX8_bends_174 rfl (lv_at hl 1 rfl) ?_
                      refine lv_iconst (v := (2 : Int32)) hx hb dX8_bends_175 (by decide) ?_
                      obtain ⟨h36, hf⟩ := gd_nz hf
                      refine lv_idiv hx hb dX8_bends_176 h36 ?_
                      refine lv_iload hx hb dX8_bends_177 (lv_at hl 5 rfl) ?_
                      refine lv_icmp_ne (tgt := 192) hx hb dX8_bends_179 (by decide) (fun c37 => ?_) (fun c37 => ?_)
                      · have hf := it_f hf c37
                        exact hJ32 vM_27 hf H locs hP hD hS _ (lv_sub hl [0, 1, 2, 3, 4, 5] rfl)
                      · have hf := it_t hf c37
                        refine lv_aload_n hx hb dX8_bends_182 rfl (lv_at hl 0 rfl) ?_
                        refine va_get (D := g.1) (ci := 8) (fs := fcM bM vM_27) (v := .ref (bM 9)) (C := RX8) (T := TX8) (N := 23) hx hb htu hinX8 hown hK hP 0 rfl rfl 8 (by decide) k_5_80 (fun _ h9 => h9) rfl dX8_bends_183 ?_
                        refine lv_iload hx hb dX8_bends_186 (lv_at hl 5 rfl) ?_
                        refine lv_iload_n hx hb dX8_bends_188 rfl (lv_at hl 1 rfl) ?_
                        refine lv_iconst (v := (2 : Int32)) hx hb dX8_bends_189 (by decide) ?_
                        obtain ⟨h38, hf⟩ := gd_nz hf
                        refine lv_irem hx hb dX8_bends_190 h38 ?_
                        obtain ⟨h39, hf⟩ := gd_in hf
                        refine va_iast (D := g.1) (f := (vM_27.2.1 8)) hx hb hK hP hD hS 6 0 rfl rfl h39 dX8_bends_191 (fun H locs hP hD hS => ?_)
                        obtain ⟨vM_40, evM_40⟩ : ∃ z, z = sI vM_27 8 (x5_11).toNatClampNeg (x1 - x1 / (2 : Int32) * (2 : Int32)) := ⟨_, rfl⟩
                        have hf := bn_at hf evM_40
                        have hP : va_P g.1 vwCl (cM g bM vM_40) H := by rw [evM_40]; exact hP
                        have hD : va_D A (cM g bM vM_40) := by rw [evM_40]; exact hD
                        exact hJ32 vM_40 hf H locs hP hD hS _ (lv_sub hl [0, 1, 2, 3, 4, 5] rfl)
                refine lv_if_eq (tgt := 166) hx hb dX8_bends_130 (by decide) (fun c42 => ?_) (fun c42 => ?_)
                · have hf := it_t hf c42
                  exact hJ29 vM_26 hf H locs hP hD hS _ (lv_sub hl [0, 1, 2, 3, 4, 5] rfl)
                · have hf := it_f hf c42
                  refine lv_iload hx hb dX8_bends_133 (lv_at hl 5 rfl) ?_
                  refine lv_aload_n hx hb dX8_bends_135 rfl (lv_at hl 0 rfl) ?_
                  refine lv_iload_n hx hb dX8_bends_136 rfl (lv_at hl 2 rfl) ?_
                  refine lv_iconst (v := (1 : Int32)) hx hb dX8_bends_137 (by decide) ?_
                  refine lv_iadd hx hb dX8_bends_138 ?_
                  obtain ⟨r43, hg44, hf⟩ := o1_at hf
                  refine k_viW ⟨hx, hb, hml, hown, htu⟩ hK hP hD hS hA hG (c_X8_get l g bM vM_26 (((158 : Int32) + ((3 : Int32) * (x1 - ((2 : Int32) * r1)))) + (1 : Int32)) r43 hg44) (cwV 1 htu (gU_V mw_6_20 hcX8_get) rfl rfl rfl hdX8_get ⟨Nat.le_of_ble_eq_true rfl, Nat.le_of_ble_eq_true rfl⟩) (q0 := 0) (ci := 8) (fs := fcM bM vM_26) (q := (RX8, TX8, 23)) rfl rfl rfl (As := [.int (((158 : Int32) + ((3 : Int32) * (x1 - ((2 : Int32) * r1)))) + (1 : Int32))]) (rest := [.int x5_11]) rfl rfl hl.1 (Nat.le_of_ble_eq_true rfl) dX8_bends_139 (k1 := 0) (n1 := 0) rfl rfl ⟨Nat.le_refl _, Nat.le_refl _⟩ (fun H locs hP hD hS => ?_)
                  obtain ⟨k45, hk49, hf⟩ := jn_at hf
                  have hJ46 : k45 = some vM1 → ∀ (H : Heap) (locs : List Loc), va_P g.1 vwCl (cM g bM vM_26) H → va_D A (cM g bM vM_26) → va_S A s.heap H locs → ∀ ls : Array Slot, lv_has ls 6 [(0, .ref (bM 0)), (1, .int x1), (2, .int ((158 : Int32) + ((3 : Int32) * (x1 - ((2 : Int32) * r1))))), (3, .int t5), (4, .int t8), (5, .int x5_11)] → W p l e (headSpec wsX8_bends rmX8_bends).room s m ([.ref (bM 0), .int x1] : List Value).toArray below meth c H locs 0 0 (MQ below (qV g A (cM g bM vM1)) ([.ref (bM 0), .int x1] : List Value).toArray s 0 0 A) (F0 m 157 ls []) := by
                    intro hf H locs hP hD hS ls hl
                    rw [hk49] at hf
                    clear hk49
                    refine lv_aload_n hx hb dX8_bends_157 rfl (lv_at hl 0 rfl) ?_
                    refine va_get (D := g.1) (ci := 8) (fs := fcM bM vM_26) (v := .ref (bM 9)) (C := RX8) (T := TX8) (N := 23) hx hb htu hinX8 hown hK hP 0 rfl rfl 8 (by decide) k_5_80 (fun _ h9 => h9) rfl dX8_bends_158 ?_
                    refine lv_iload hx hb dX8_bends_161 (lv_at hl 5 rfl) ?_
                    refine lv_iload hx hb dX8_bends_163 (lv_at hl 4 rfl) ?_
                    obtain ⟨h47, hf⟩ := gd_in hf
                    refine va_iast (D := g.1) (f := (vM_26.2.1 8)) hx hb hK hP hD hS 6 0 rfl rfl h47 dX8_bends_165 (fun H locs hP hD hS => ?_)
                    obtain ⟨vM_48, evM_48⟩ : ∃ z, z = sI vM_26 8 (x5_11).toNatClampNeg t8 := ⟨_, rfl⟩
                    have hf := bn_at hf evM_48
                    have hP : va_P g.1 vwCl (cM g bM vM_48) H := by rw [evM_48]; exact hP
                    have hD : va_D A (cM g bM vM_48) := by rw [evM_48]; exact hD
                    exact hJ29 vM_48 hf H locs hP hD hS _ (lv_sub hl [0, 1, 2, 3, 4, 5] rfl)
                  refine lv_icmp_eq (tgt := 157) hx hb dX8_bends_142 (by decide) (fun c50 => ?_) (fun c50 => ?_)
                  · have hf := it_t hf c50
                    exact hJ46 hf H locs hP hD hS _ (lv_sub hl [0, 1, 2, 3, 4, 5] rfl)
                  · have hf := it_f hf c50
                    refine lv_iload hx hb dX8_bends_145 (lv_at hl 5 rfl) ?_
                    refine lv_aload_n hx hb dX8_bends_147 rfl (lv_at hl 0 rfl) ?_
                    refine lv_iload_n hx hb dX8_bends_148 rfl (lv_at hl 2 rfl) ?_
                    refine lv_iconst (v := (2 : Int32)) hx hb dX8_bends_149 (by decide) ?_
                    refine lv_iadd hx hb dX8_bends_150 ?_
                    obtain ⟨r51, hg52, hf⟩ := o1_at hf
                    refine k_viW ⟨hx, hb, hml, hown, htu⟩ hK hP hD hS hA hG (c_X8_get l g bM vM_26 (((158 : Int32) + ((3 : Int32) * (x1 - ((2 : Int32) * r1)))) + (2 : Int32)) r51 hg52) (cwV 1 htu (gU_V mw_6_20 hcX8_get) rfl rfl rfl hdX8_get ⟨Nat.le_of_ble_eq_true rfl, Nat.le_of_ble_eq_true rfl⟩) (q0 := 0) (ci := 8) (fs := fcM bM vM_26) (q := (RX8, TX8, 23)) rfl rfl rfl (As := [.int (((158 : Int32) + ((3 : Int32) * (x1 - ((2 : Int32) * r1)))) + (2 : Int32))]) (rest := [.int x5_11]) rfl rfl hl.1 (Nat.le_of_ble_eq_true rfl) dX8_bends_151 (k1 := 0) (n1 := 0) rfl rfl ⟨Nat.le_refl _, Nat.le_refl _⟩ (fun H locs hP hD hS => ?_)
                    refine lv_icmp_ne (tgt := 166) hx hb dX8_bends_154 (by decide) (fun c53 => ?_) (fun c53 => ?_)
                    · have hf := it_f hf c53
                      exact hJ29 vM_26 hf H locs hP hD hS _ (lv_sub hl [0, 1, 2, 3, 4, 5] rfl)
                    · have hf := it_t hf c53
                      exact hJ46 hf H locs hP hD hS _ (lv_sub hl [0, 1, 2, 3, 4, 5] rfl)
              refine lv_icmp_ge (tgt := 118) hx hb dX8_bends_105 (by decide) (fun c55 => ?_) (fun c55 => ?_)
              · have hf := it_t hf c55
                refine lv_aload_n hx hb dX8_bends_118 rfl (lv_at hl 0 rfl) ?_
                refine lv_iload hx hb dX8_bends_119 (lv_at hl 5 rfl) ?_
                refine lv_aload_n hx hb dX8_bends_121 rfl (lv_at hl 0 rfl) ?_
                refine va_get (D := g.1) (ci := 8) (fs := fcM bM vM_12) (v := .ref (bM 9)) (C := RX8) (T := TX8) (N := 23) hx hb htu hinX8 hown hK hP 0 rfl rfl 8 (by decide) k_5_80 (fun _ h9 => h9) rfl dX8_bends_122 ?_
                obtain ⟨r56, hg57, hf⟩ := o1_at hf
                refine k_viW ⟨hx, hb, hml, hown, htu⟩ hK hP hD hS hA hG (c_X8_gate_bent l g bM vM_12 x5_11 r56 hg57) (cwV 2 htu (gU_V mw_6_76 hcX8_gate) rfl rfl rfl hdX8_gate ⟨Nat.le_of_ble_eq_true rfl, Nat.le_of_ble_eq_true rfl⟩) (q0 := 0) (ci := 8) (fs := fcM bM vM_12) (q := (RX8, TX8, 23)) rfl rfl rfl (As := [.int x5_11, .ref (bM 9)]) (rest := [.int x5_11, .ref (bM 9)]) rfl rfl hl.1 (Nat.le_of_ble_eq_true rfl) dX8_bends_125 (k1 := 0) (n1 := 0) rfl rfl ⟨Nat.le_refl _, Nat.le_refl _⟩ (fun H locs hP hD hS => ?_)
                exact hJ24 r56 hf H locs hP hD hS _ (lv_sub hl [0, 1, 2, 3, 4, 5] rfl)
              · have hf := it_f hf c55
                refine lv_aload_n hx hb dX8_bends_108 rfl (lv_at hl 0 rfl) ?_
                refine va_get (D := g.1) (ci := 8) (fs := fcM bM vM_12) (v := .ref (bM 7)) (C := RX8) (T := TX8) (N := 23) hx hb htu hinX8 hown hK hP 0 rfl rfl 6 (by decide) k_5_78 (fun _ h9 => h9) rfl dX8_bends_109 ?_
                refine lv_iload hx hb dX8_bends_112 (lv_at hl 5 rfl) ?_
                obtain ⟨h58, hf⟩ := gd_in hf
                refine va_iald (D := g.1) (f := (vM_12.2.1 6)) hx hb hK hP 4 0 rfl rfl h58 dX8_bends_114 ?_
                refine lv_goto (tgt := 128) hx hb dX8_bends_115 (by decide) ?_
                exact hJ24 (vM_12.2.1 6 (x5_11).toNatClampNeg) hf H locs hP hD hS _ (lv_sub hl [0, 1, 2, 3, 4, 5] rfl)
        exact hL14 (0 : Int32) vM hf H locs hP hD hS _ (lv_sub hl [2, 3, 4, 5, 1, 0] rfl)
      refine lv_if_eq (tgt := 78) hx hb dX8_bends_32 (by decide) (fun c60 => ?_) (fun c60 => ?_)
      · have hf := it_t hf c60
        refine lv_iconst (v := (-1 : Int32)) hx hb dX8_bends_78 (by decide) ?_
        exact hJ10 (-1 : Int32) hf H locs hP hD hS _ (lv_sub hl [1, 2, 3, 0] rfl)
      · have hf := it_f hf c60
        refine lv_aload_n hx hb dX8_bends_35 rfl (lv_at hl 1 rfl) ?_
        refine va_get (D := g.1) (ci := 8) (fs := fcM bM vM) (v := .ref (bM 8)) (C := RX8) (T := TX8) (N := 23) hx hb htu hinX8 hown hK hP 0 rfl rfl 7 (by decide) k_5_79 (fun _ h9 => h9) rfl dX8_bends_36 ?_
        refine lv_aload_n hx hb dX8_bends_39 rfl (lv_at hl 1 rfl) ?_
        refine lv_iload_n hx hb dX8_bends_40 rfl (lv_at hl 3 rfl) ?_
        refine lv_iconst (v := (1 : Int32)) hx hb dX8_bends_41 (by decide) ?_
        refine lv_iadd hx hb dX8_bends_42 ?_
        obtain ⟨r61, hg62, hf⟩ := o1_at hf
        refine k_viW ⟨hx, hb, hml, hown, htu⟩ hK hP hD hS hA hG (c_X8_get l g bM vM (((158 : Int32) + ((3 : Int32) * (x1 - ((2 : Int32) * r1)))) + (1 : Int32)) r61 hg62) (cwV 1 htu (gU_V mw_6_20 hcX8_get) rfl rfl rfl hdX8_get ⟨Nat.le_of_ble_eq_true rfl, Nat.le_of_ble_eq_true rfl⟩) (q0 := 0) (ci := 8) (fs := fcM bM vM) (q := (RX8, TX8, 23)) rfl rfl rfl (As := [.int (((158 : Int32) + ((3 : Int32) * (x1 - ((2 : Int32) * r1)))) + (1 : Int32))]) (rest := [.ref (bM 8)]) rfl rfl hl.1 (Nat.le_of_ble_eq_true rfl) dX8_bends_43 (k1 := 0) (n1 := 0) rfl rfl ⟨Nat.le_refl _, Nat.le_refl _⟩ (fun H locs hP hD hS => ?_)
        obtain ⟨h63, hf⟩ := gd_in hf
        refine va_iald (D := g.1) (f := (vM.2.1 7)) hx hb hK hP 5 0 rfl rfl h63 dX8_bends_46 ?_
        refine lv_aload_n hx hb dX8_bends_47 rfl (lv_at hl 1 rfl) ?_
        refine va_get (D := g.1) (ci := 8) (fs := fcM bM vM) (v := .ref (bM 8)) (C := RX8) (T := TX8) (N := 23) hx hb htu hinX8 hown hK hP 0 rfl rfl 7 (by decide) k_5_79 (fun _ h9 => h9) rfl dX8_bends_48 ?_
        refine lv_aload_n hx hb dX8_bends_51 rfl (lv_at hl 1 rfl) ?_
        refine lv_iload_n hx hb dX8_bends_52 rfl (lv_at hl 3 rfl) ?_
        refine lv_iconst (v := (2 : Int32)) hx hb dX8_bends_53 (by decide) ?_
        refine lv_iadd hx hb dX8_bends_54 ?_
        obtain ⟨r64, hg65, hf⟩ := o1_at hf
        refine k_viW ⟨hx, hb, hml, hown, htu⟩ hK hP hD hS hA hG (c_X8_get l g bM vM (((158 : Int32) + ((3 : Int32) * (x1 - ((2 : Int32) * r1)))) + (2 : Int32)) r64 hg65) (cwV 1 htu (gU_V mw_6_20 hcX8_get) rfl rfl rfl hdX8_get ⟨Nat.le_of_ble_eq_true rfl, Nat.le_of_ble_eq_true rfl⟩) (q0 := 0) (ci := 8) (fs := fcM bM vM) (q := (RX8, TX8, 23)) rfl rfl rfl (As := [.int (((158 : Int32) + ((3 : Int32) * (x1 - ((2 : Int32) * r1)))) + (2 : Int32))]) (rest := [.ref (bM 8), .int (vM.2.1 7 (r61).toNatClampNeg)]) rfl rfl hl.1 (Nat.le_of_ble_eq_true rfl) dX8_bends_55 (k1 := 0) (n1 := 0) rfl rfl ⟨Nat.le_refl _, Nat.le_refl _⟩ (fun H locs hP hD hS => ?_)
        obtain ⟨h66, hf⟩ := gd_in hf
        refine va_iald (D := g.1) (f := (vM.2.1 7)) hx hb hK hP 5 0 rfl rfl h66 dX8_bends_58 ?_
        refine lv_aload_n hx hb dX8_bends_59 rfl (lv_at hl 1 rfl) ?_
        refine lv_iload_n hx hb dX8_bends_60 rfl (lv_at hl 3 rfl) ?_
        obtain ⟨r67, hg68, hf⟩ := o1_at hf
        refine k_viW ⟨hx, hb, hml, hown, htu⟩ hK hP hD hS hA hG (c_X8_get l g bM vM ((158 : Int32) + ((3 : Int32) * (x1 - ((2 : Int32) * r1)))) r67 hg68) (cwV 1 htu (gU_V mw_6_20 hcX8_get) rfl rfl rfl hdX8_get ⟨Nat.le_of_ble_eq_true rfl, Nat.le_of_ble_eq_true rfl⟩) (q0 := 0) (ci := 8) (fs := fcM bM vM) (q := (RX8, TX8, 23)) rfl rfl rfl (As := [.int ((158 : Int32) + ((3 : Int32) * (x1 - ((2 : Int32) * r1))))]) (rest := [.int (vM.2.1 7 (r64).toNatClampNeg), .int (vM.2.1 7 (r61).toNatClampNeg)]) rfl rfl hl.1 (Nat.le_of_ble_eq_true rfl) dX8_bends_61 (k1 := 0) (n1 := 0) rfl rfl ⟨Nat.le_refl _, Nat.le_refl _⟩ (fun H locs hP hD hS => ?_)
        obtain ⟨k70, hk74, hf⟩ := jn_at hf
        have hJ71 : ∀ (t69 : Int32), k70 t69 = some vM1 → ∀ (H : Heap) (locs : List Loc), va_P g.1 vwCl (cM g bM vM) H → va_D A (cM g bM vM) → va_S A s.heap H locs → ∀ ls : Array Slot, lv_has ls 6 [(0, .ref (bM 0)), (1, .int x1), (2, .int ((158 : Int32) + ((3 : Int32) * (x1 - ((2 : Int32) * r1))))), (3, .int t5)] → W p l e (headSpec wsX8_bends rmX8_bends).room s m ([.ref (bM 0), .int x1] : List Value).toArray below meth c H locs 0 0 (MQ below (qV g A (cM g bM vM1)) ([.ref (bM 0), .int x1] : List Value).toArray s 0 0 A) (F0 m 72 ls [.int t69, .int (vM.2.1 7 (r64).toNatClampNeg), .int (vM.2.1 7 (r61).toNatClampNeg)]) := by
          intro t69 hf H locs hP hD hS ls hl
          rw [hk74] at hf
          dsimp only at hf
          clear hk74
          obtain ⟨r72, hg73, hf⟩ := o1_at hf
          refine k_si0 ⟨hx, hb, hml, hown, htu⟩ hK hP hD hS hA hG (c_X8_decided l g (vM.2.1 7 (r61).toNatClampNeg) (vM.2.1 7 (r64).toNatClampNeg) t69 r72 hg73) (va_cwS 3 htu (gU_S mw_6_95 hcX8_decided) rfl rfl rfl hdX8_decided ⟨Nat.le_of_ble_eq_true rfl, Nat.le_of_ble_eq_true rfl⟩) (As := [.int (vM.2.1 7 (r61).toNatClampNeg), .int (vM.2.1 7 (r64).toNatClampNeg), .int t69]) (rest := []) rfl rfl hl.1 (Nat.le_of_ble_eq_true rfl) dX8_bends_72 (k1 := 0) (n1 := 0) rfl rfl ⟨Nat.le_refl _, Nat.le_refl _⟩ (fun H locs hP hD hS => ?_)
          refine lv_goto (tgt := 79) hx hb dX8_bends_75 (by decide) ?_
          exact hJ10 r72 hf H locs hP hD hS _ (lv_sub hl [0, 1, 2, 3] rfl)
        refine lv_if_ne (tgt := 71) hx hb dX8_bends_64 (by decide) (fun c75 => ?_) (fun c75 => ?_)
        · have hf := it_f hf c75
          refine lv_iconst (v := (1 : Int32)) hx hb dX8_bends_71 (by decide) ?_
          exact hJ71 (1 : Int32) hf H locs hP hD hS _ (lv_sub hl [1, 2, 3, 0] rfl)
        · have hf := it_t hf c75
          refine lv_iconst (v := (0 : Int32)) hx hb dX8_bends_67 (by decide) ?_
          refine lv_goto (tgt := 72) hx hb dX8_bends_68 (by decide) ?_
          exact hJ71 (0 : Int32) hf H locs hP hD hS _ (lv_sub hl [1, 2, 3, 0] rfl)
    refine lv_icmp_lt (tgt := 29) hx hb dX8_bends_22 (by decide) (fun c77 => ?_) (fun c77 => ?_)
    · have hf := it_t hf c77
      refine lv_iconst (v := (0 : Int32)) hx hb dX8_bends_29 (by decide) ?_
      exact hJ7 (0 : Int32) hf H locs hP hD hS _ (lv_sub hl [1, 2, 0] rfl)
    · have hf := it_f hf c77
      refine lv_iconst (v := (1 : Int32)) hx hb dX8_bends_25 (by decide) ?_
      refine lv_goto (tgt := 30) hx hb dX8_bends_26 (by decide) ?_
      exact hJ7 (1 : Int32) hf H locs hP hD hS _ (lv_sub hl [1, 2, 0] rfl)
  rw [hH, hlo] at hW
  exact hW
def f_X8_asksTest_L2 (x1 : Int32) (self3 : Int32 → Vs → Option (Vs)) (x2_1 : Int32) (vM_2 : Vs) : Option (Vs) :=
  o1 (f_X8_inputs vM_2) (fun (r6 : Int32) => if r6 ≤ x2_1 then o1 (f_X8_cleans vM_2) (fun (vM_9 : Vs) => some (vM_9)) else o1 (f_X8_get vM_2 (((182 : Int32) + ((8 : Int32) * x1)) + x2_1)) (fun (r12 : Int32) => gd (inb x2_1 8) (bn (sI vM_2 6 (x2_1).toNatClampNeg r12) (fun (vM_15 : Vs) => self3 (x2_1 + (1 : Int32)) vM_15))))
def f_X8_asksTest (vM : Vs) (x1 : Int32) : Option (Vs) :=
  lp (f_X8_asksTest_L2 x1) (fun _ _ => none) FU (0 : Int32) vM
abbrev wsX8_asksTest : List Cond := .code yX8_asksTest cX8_asksTest 3 none :: UW
abbrev rmX8_asksTest : Room := { frames := 4, cells := 0, slots := 0, locals := 91 }
set_option maxHeartbeats 4000000 in
set_option maxRecDepth 100000 in
theorem c_X8_asksTest (l : Launch) (g : Gx) (bM : Nat → Nat) (vM : Vs) (x1 : Int32) (vM1 : Vs) (hf : f_X8_asksTest vM x1 = some vM1) : CtV l yX8_asksTest wsX8_asksTest rmX8_asksTest g [.ref (bM 0), .int x1] (cM g bM vM) (cM g bM vM1) 0 0 := by
  unfold CtV
  intro sz
  refine Met.ofW (cc := cX8_asksTest) (maxL := 3) (ret := none) (by decide) rfl ?_
  intro p e s m args below meth c s₁ B hml hv
  obtain ⟨rfl, hsz, hP, hK, hD0, hG⟩ := hv
  have hx := B.exec
  have hb := B.bytes
  have hr := B.returns
  have hts := atoms_spec (ws := wsX8_asksTest) B.pre
  have hown : s.vm.findClass RX8 = some m.cls := findClass_of_methodNamed B.named
  have hlocks := B.notSynchronized
  subst hsz
  have hD := hD0.self (sz := s.heap.size)
  generalize hAe : va_A (cM g bM vM) s.heap.size = A at hD hG ⊢
  have hA : ∀ q : Nat, s.heap.size ≤ q → A q := fun q h => by rw [← hAe]; exact Or.inr h
  clear hAe hD0
  have hS : va_S A s.heap s.heap [] := va_S.rf
  have hl := lv_entry ([.ref (bM 0), .int x1]) (n := 3) (Nat.le_of_ble_eq_true rfl)
  rw [lg_entry_eq]
  generalize (lg_sl ([.ref (bM 0), .int x1]) ++ List.replicate (3 - (lg_sl ([.ref (bM 0), .int x1])).length) Slot.unset).toArray = ls at hl ⊢
  have hl : lv_has ls 3 [(0, .ref (bM 0)), (1, .int x1)] := hl
  have htu : ∀ w ∈ UW, w.before _ s = true := fun w h => hts w (List.mem_cons_of_mem _ h)
  have k_5_78 := htu _ mw_5_78
  unfold f_X8_asksTest at hf
  obtain ⟨H, hH⟩ : ∃ z, z = s.heap := ⟨_, rfl⟩
  obtain ⟨locs, hlo⟩ : ∃ z : List Loc, z = [] := ⟨_, rfl⟩
  have hS : va_S A s.heap H locs := by rw [hH, hlo]; exact hS
  rw [← hH] at hP
  have hW : W p l e (headSpec wsX8_asksTest rmX8_asksTest).room s m ([.ref (bM 0), .int x1] : List Value).toArray below meth c H locs 0 0 (MQ below (qV g A (cM g bM vM1)) ([.ref (bM 0), .int x1] : List Value).toArray s 0 0 A) (F0 m 0 ls []) := by
    refine lv_iconst (v := (0 : Int32)) hx hb dX8_asksTest_0 (by decide) ?_
    refine lv_istore_n (lv' := [(2, .int (0 : Int32)), (0, .ref (bM 0)), (1, .int x1)]) hx hb dX8_asksTest_1 rfl hl (by decide) rfl (fun ls hl => ?_)
    have hL4 : ∀ (x2_1 : Int32) (vM_2 : Vs), lp (f_X8_asksTest_L2 x1) (fun _ _ => none) FU x2_1 vM_2 = some vM1 → ∀ (H : Heap) (locs : List Loc), va_P g.1 vwCl (cM g bM vM_2) H → va_D A (cM g bM vM_2) → va_S A s.heap H locs → ∀ ls : Array Slot, lv_has ls 3 [(0, .ref (bM 0)), (1, .int x1), (2, .int x2_1)] → W p l e (headSpec wsX8_asksTest rmX8_asksTest).room s m ([.ref (bM 0), .int x1] : List Value).toArray below meth c H locs 0 0 (MQ below (qV g A (cM g bM vM1)) ([.ref (bM 0), .int x1] : List Value).toArray s 0 0 A) (F0 m 2 ls []) := by
      refine lp_ind (T := Int32 → Vs → Option (Vs)) (fun self3 => ∀ (x2_1 : Int32) (vM_2 : Vs), self3 x2_1 vM_2 = some vM1 → ∀ (H : Heap) (locs : List Loc), va_P g.1 vwCl (cM g bM vM_2) H → va_D A (cM g bM vM_2) → va_S A s.heap H locs → ∀ ls : Array Slot, lv_has ls 3 [(0, .ref (bM 0)), (1, .int x1), (2, .int x2_1)] → W p l e (headSpec wsX8_asksTest rmX8_asksTest).room s m ([.ref (bM 0), .int x1] : List Value).toArray below meth c H locs 0 0 (MQ below (qV g A (cM g bM vM1)) ([.ref (bM 0), .int x1] : List Value).toArray s 0 0 A) (F0 m 2 ls [])) ?_ ?_ FU
      · intro x2_1 vM_2 hf; cases hf
      · intro self3 ih5 x2_1 vM_2 hf H locs hP hD hS ls hl
        unfold f_X8_asksTest_L2 at hf
        refine lv_iload_n hx hb dX8_asksTest_2 rfl (lv_at hl 2 rfl) ?_
        refine lv_aload_n hx hb dX8_asksTest_3 rfl (lv_at hl 0 rfl) ?_
        obtain ⟨r6, hg7, hf⟩ := o1_at hf
        refine k_viW ⟨hx, hb, hml, hown, htu⟩ hK hP hD hS hA hG (c_X8_inputs l g bM vM_2 r6 hg7) (cwV 0 htu (gU_V mw_6_36 hcX8_inputs) rfl rfl rfl hdX8_inputs ⟨Nat.le_of_ble_eq_true rfl, Nat.le_of_ble_eq_true rfl⟩) (q0 := 0) (ci := 8) (fs := fcM bM vM_2) (q := (RX8, TX8, 23)) rfl rfl rfl (As := []) (rest := [.int x2_1]) rfl rfl hl.1 (Nat.le_of_ble_eq_true rfl) dX8_asksTest_4 (k1 := 0) (n1 := 0) rfl rfl ⟨Nat.le_refl _, Nat.le_refl _⟩ (fun H locs hP hD hS => ?_)
        refine lv_icmp_ge (tgt := 36) hx hb dX8_asksTest_7 (by decide) (fun c8 => ?_) (fun c8 => ?_)
        · have hf := it_t hf c8
          refine lv_aload_n hx hb dX8_asksTest_36 rfl (lv_at hl 0 rfl) ?_
          obtain ⟨vM_9, hg10, hf⟩ := o1_at hf
          refine k_vvW ⟨hx, hb, hml, hown, htu⟩ hK hP hD hS hA hG (c_X8_cleans l g bM vM_2 vM_9 hg10) (cwV 0 htu (gU_V mw_6_72 hcX8_cleans) rfl rfl rfl hdX8_cleans ⟨Nat.le_of_ble_eq_true rfl, Nat.le_of_ble_eq_true rfl⟩) (q0 := 0) (ci := 8) (fs := fcM bM vM_2) (q := (RX8, TX8, 23)) rfl rfl rfl (As := []) (rest := []) rfl rfl hl.1 (Nat.le_of_ble_eq_true rfl) dX8_asksTest_37 (k1 := 0) (n1 := 0) rfl rfl ⟨Nat.le_refl _, Nat.le_refl _⟩ (fun H locs hP hD hS => ?_)
          have e11 := Option.some.inj hf
          rw [e11] at hP hD
          exact k_vret hx hb hr hlocks hK hP hD hS dX8_asksTest_40
        · have hf := it_f hf c8
          refine lv_aload_n hx hb dX8_asksTest_10 rfl (lv_at hl 0 rfl) ?_
          refine va_get (D := g.1) (ci := 8) (fs := fcM bM vM_2) (v := .ref (bM 7)) (C := RX8) (T := TX8) (N := 23) hx hb htu hinX8 hown hK hP 0 rfl rfl 6 (by decide) k_5_78 (fun _ h9 => h9) rfl dX8_asksTest_11 ?_
          refine lv_iload_n hx hb dX8_asksTest_14 rfl (lv_at hl 2 rfl) ?_
          refine lv_aload_n hx hb dX8_asksTest_15 rfl (lv_at hl 0 rfl) ?_
          refine lv_sipush (v := (182 : Int32)) hx hb dX8_asksTest_16 (by decide) ?_
          refine lv_bipush (v := (8 : Int32)) hx hb dX8_asksTest_19 (by decide) ?_
          refine lv_iload_n hx hb dX8_asksTest_21 rfl (lv_at hl 1 rfl) ?_
          refine lv_imul hx hb dX8_asksTest_22 ?_
          refine lv_iadd hx hb dX8_asksTest_23 ?_
          refine lv_iload_n hx hb dX8_asksTest_24 rfl (lv_at hl 2 rfl) ?_
          refine lv_iadd hx hb dX8_asksTest_25 ?_
          obtain ⟨r12, hg13, hf⟩ := o1_at hf
          refine k_viW ⟨hx, hb, hml, hown, htu⟩ hK hP hD hS hA hG (c_X8_get l g bM vM_2 (((182 : Int32) + ((8 : Int32) * x1)) + x2_1) r12 hg13) (cwV 1 htu (gU_V mw_6_20 hcX8_get) rfl rfl rfl hdX8_get ⟨Nat.le_of_ble_eq_true rfl, Nat.le_of_ble_eq_true rfl⟩) (q0 := 0) (ci := 8) (fs := fcM bM vM_2) (q := (RX8, TX8, 23)) rfl rfl rfl (As := [.int (((182 : Int32) + ((8 : Int32) * x1)) + x2_1)]) (rest := [.int x2_1, .ref (bM 7)]) rfl rfl hl.1 (Nat.le_of_ble_eq_true rfl) dX8_asksTest_26 (k1 := 0) (n1 := 0) rfl rfl ⟨Nat.le_refl _, Nat.le_refl _⟩ (fun H locs hP hD hS => ?_)
          obtain ⟨h14, hf⟩ := gd_in hf
          refine va_iast (D := g.1) (f := (vM_2.2.1 6)) hx hb hK hP hD hS 4 0 rfl rfl h14 dX8_asksTest_29 (fun H locs hP hD hS => ?_)
          obtain ⟨vM_15, evM_15⟩ : ∃ z, z = sI vM_2 6 (x2_1).toNatClampNeg r12 := ⟨_, rfl⟩
          have hf := bn_at hf evM_15
          have hP : va_P g.1 vwCl (cM g bM vM_15) H := by rw [evM_15]; exact hP
          have hD : va_D A (cM g bM vM_15) := by rw [evM_15]; exact hD
          refine lv_iinc (v := (x2_1 + (1 : Int32))) (lv' := [(2, .int (x2_1 + (1 : Int32))), (0, .ref (bM 0)), (1, .int x1)]) hx hb dX8_asksTest_30 hl (k := 2) rfl rfl (by decide) rfl (fun ls hl => ?_)
          refine lv_goto (tgt := 2) hx hb dX8_asksTest_33 (by decide) ?_
          exact ih5 (x2_1 + (1 : Int32)) vM_15 hf H locs hP hD hS _ (lv_sub hl [1, 2, 0] rfl)
    exact hL4 (0 : Int32) vM hf H locs hP hD hS _ (lv_sub hl [1, 2, 0] rfl)
  rw [hH, hlo] at hW
  exact hW
def f_X8_asksFull_L2 (x1 : Int32) (self3 : Int32 → Vs → Option (Vs)) (x2_1 : Int32) (vM_2 : Vs) : Option (Vs) :=
  o1 (f_X8_inputs vM_2) (fun (r6 : Int32) => if r6 ≤ x2_1 then o1 (f_X8_cleans vM_2) (fun (vM_9 : Vs) => some (vM_9)) else gd (inb x2_1 8) (bn (sI vM_2 6 (x2_1).toNatClampNeg ((x1 >>> (x2_1 &&& 31)) &&& (1 : Int32))) (fun (vM_13 : Vs) => self3 (x2_1 + (1 : Int32)) vM_13)))
def f_X8_asksFull (vM : Vs) (x1 : Int32) : Option (Vs) :=
  lp (f_X8_asksFull_L2 x1) (fun _ _ => none) FU (0 : Int32) vM
abbrev wsX8_asksFull : List Cond := .code yX8_asksFull cX8_asksFull 3 none :: UW
abbrev rmX8_asksFull : Room := { frames := 4, cells := 0, slots := 0, locals := 91 }
set_option maxHeartbeats 4000000 in
set_option maxRecDepth 100000 in
theorem c_X8_asksFull (l : Launch) (g : Gx) (bM : Nat → Nat) (vM : Vs) (x1 : Int32) (vM1 : Vs) (hf : f_X8_asksFull vM x1 = some vM1) : CtV l yX8_asksFull wsX8_asksFull rmX8_asksFull g [.ref (bM 0), .int x1] (cM g bM vM) (cM g bM vM1) 0 0 := by
  unfold CtV
  intro sz
  refine Met.ofW (cc := cX8_asksFull) (maxL := 3) (ret := none) (by decide) rfl ?_
  intro p e s m args below meth c s₁ B hml hv
  obtain ⟨rfl, hsz, hP, hK, hD0, hG⟩ := hv
  have hx := B.exec
  have hb := B.bytes
  have hr := B.returns
  have hts := atoms_spec (ws := wsX8_asksFull) B.pre
  have hown : s.vm.findClass RX8 = some m.cls := findClass_of_methodNamed B.named
  have hlocks := B.notSynchronized
  subst hsz
  have hD := hD0.self (sz := s.heap.size)
  generalize hAe : va_A (cM g bM vM) s.heap.size = A at hD hG ⊢
  have hA : ∀ q : Nat, s.heap.size ≤ q → A q := fun q h => by rw [← hAe]; exact Or.inr h
  clear hAe hD0
  have hS : va_S A s.heap s.heap [] := va_S.rf
  have hl := lv_entry ([.ref (bM 0), .int x1]) (n := 3) (Nat.le_of_ble_eq_true rfl)
  rw [lg_entry_eq]
  generalize (lg_sl ([.ref (bM 0), .int x1]) ++ List.replicate (3 - (lg_sl ([.ref (bM 0), .int x1])).length) Slot.unset).toArray = ls at hl ⊢
  have hl : lv_has ls 3 [(0, .ref (bM 0)), (1, .int x1)] := hl
  have htu : ∀ w ∈ UW, w.before _ s = true := fun w h => hts w (List.mem_cons_of_mem _ h)
  have k_5_78 := htu _ mw_5_78
  unfold f_X8_asksFull at hf
  obtain ⟨H, hH⟩ : ∃ z, z = s.heap := ⟨_, rfl⟩
  obtain ⟨locs, hlo⟩ : ∃ z : List Loc, z = [] := ⟨_, rfl⟩
  have hS : va_S A s.heap H locs := by rw [hH, hlo]; exact hS
  rw [← hH] at hP
  have hW : W p l e (headSpec wsX8_asksFull rmX8_asksFull).room s m ([.ref (bM 0), .int x1] : List Value).toArray below meth c H locs 0 0 (MQ below (qV g A (cM g bM vM1)) ([.ref (bM 0), .int x1] : List Value).toArray s 0 0 A) (F0 m 0 ls []) := by
    refine lv_iconst (v := (0 : Int32)) hx hb dX8_asksFull_0 (by decide) ?_
    refine lv_istore_n (lv' := [(2, .int (0 : Int32)), (0, .ref (bM 0)), (1, .int x1)]) hx hb dX8_asksFull_1 rfl hl (by decide) rfl (fun ls hl => ?_)
    have hL4 : ∀ (x2_1 : Int32) (vM_2 : Vs), lp (f_X8_asksFull_L2 x1) (fun _ _ => none) FU x2_1 vM_2 = some vM1 → ∀ (H : Heap) (locs : List Loc), va_P g.1 vwCl (cM g bM vM_2) H → va_D A (cM g bM vM_2) → va_S A s.heap H locs → ∀ ls : Array Slot, lv_has ls 3 [(0, .ref (bM 0)), (1, .int x1), (2, .int x2_1)] → W p l e (headSpec wsX8_asksFull rmX8_asksFull).room s m ([.ref (bM 0), .int x1] : List Value).toArray below meth c H locs 0 0 (MQ below (qV g A (cM g bM vM1)) ([.ref (bM 0), .int x1] : List Value).toArray s 0 0 A) (F0 m 2 ls []) := by
      refine lp_ind (T := Int32 → Vs → Option (Vs)) (fun self3 => ∀ (x2_1 : Int32) (vM_2 : Vs), self3 x2_1 vM_2 = some vM1 → ∀ (H : Heap) (locs : List Loc), va_P g.1 vwCl (cM g bM vM_2) H → va_D A (cM g bM vM_2) → va_S A s.heap H locs → ∀ ls : Array Slot, lv_has ls 3 [(0, .ref (bM 0)), (1, .int x1), (2, .int x2_1)] → W p l e (headSpec wsX8_asksFull rmX8_asksFull).room s m ([.ref (bM 0), .int x1] : List Value).toArray below meth c H locs 0 0 (MQ below (qV g A (cM g bM vM1)) ([.ref (bM 0), .int x1] : List Value).toArray s 0 0 A) (F0 m 2 ls [])) ?_ ?_ FU
      · intro x2_1 vM_2 hf; cases hf
      · intro self3 ih5 x2_1 vM_2 hf H locs hP hD hS ls hl
        unfold f_X8_asksFull_L2 at hf
        refine lv_iload_n hx hb dX8_asksFull_2 rfl (lv_at hl 2 rfl) ?_
        refine lv_aload_n hx hb dX8_asksFull_3 rfl (lv_at hl 0 rfl) ?_
        obtain ⟨r6, hg7, hf⟩ := o1_at hf
        refine k_viW ⟨hx, hb, hml, hown, htu⟩ hK hP hD hS hA hG (c_X8_inputs l g bM vM_2 r6 hg7) (cwV 0 htu (gU_V mw_6_36 hcX8_inputs) rfl rfl rfl hdX8_inputs ⟨Nat.le_of_ble_eq_true rfl, Nat.le_of_ble_eq_true rfl⟩) (q0 := 0) (ci := 8) (fs := fcM bM vM_2) (q := (RX8, TX8, 23)) rfl rfl rfl (As := []) (rest := [.int x2_1]) rfl rfl hl.1 (Nat.le_of_ble_eq_true rfl) dX8_asksFull_4 (k1 := 0) (n1 := 0) rfl rfl ⟨Nat.le_refl _, Nat.le_refl _⟩ (fun H locs hP hD hS => ?_)
        refine lv_icmp_ge (tgt := 27) hx hb dX8_asksFull_7 (by decide) (fun c8 => ?_) (fun c8 => ?_)
        · have hf := it_t hf c8
          refine lv_aload_n hx hb dX8_asksFull_27 rfl (lv_at hl 0 rfl) ?_
          obtain ⟨vM_9, hg10, hf⟩ := o1_at hf
          refine k_vvW ⟨hx, hb, hml, hown, htu⟩ hK hP hD hS hA hG (c_X8_cleans l g bM vM_2 vM_9 hg10) (cwV 0 htu (gU_V mw_6_72 hcX8_cleans) rfl rfl rfl hdX8_cleans ⟨Nat.le_of_ble_eq_true rfl, Nat.le_of_ble_eq_true rfl⟩) (q0 := 0) (ci := 8) (fs := fcM bM vM_2) (q := (RX8, TX8, 23)) rfl rfl rfl (As := []) (rest := []) rfl rfl hl.1 (Nat.le_of_ble_eq_true rfl) dX8_asksFull_28 (k1 := 0) (n1 := 0) rfl rfl ⟨Nat.le_refl _, Nat.le_refl _⟩ (fun H locs hP hD hS => ?_)
          have e11 := Option.some.inj hf
          rw [e11] at hP hD
          exact k_vret hx hb hr hlocks hK hP hD hS dX8_asksFull_31
        · have hf := it_f hf c8
          refine lv_aload_n hx hb dX8_asksFull_10 rfl (lv_at hl 0 rfl) ?_
          refine va_get (D := g.1) (ci := 8) (fs := fcM bM vM_2) (v := .ref (bM 7)) (C := RX8) (T := TX8) (N := 23) hx hb htu hinX8 hown hK hP 0 rfl rfl 6 (by decide) k_5_78 (fun _ h9 => h9) rfl dX8_asksFull_11 ?_
          refine lv_iload_n hx hb dX8_asksFull_14 rfl (lv_at hl 2 rfl) ?_
          refine lv_iload_n hx hb dX8_asksFull_15 rfl (lv_at hl 1 rfl) ?_
          refine lv_iload_n hx hb dX8_asksFull_16 rfl (lv_at hl 2 rfl) ?_
          refine lv_ishr hx hb dX8_asksFull_17 ?_
          refine lv_iconst (v := (1 : Int32)) hx hb dX8_asksFull_18 (by decide) ?_
          refine lv_iand hx hb dX8_asksFull_19 ?_
          obtain ⟨h12, hf⟩ := gd_in hf
          refine va_iast (D := g.1) (f := (vM_2.2.1 6)) hx hb hK hP hD hS 4 0 rfl rfl h12 dX8_asksFull_20 (fun H locs hP hD hS => ?_)
          obtain ⟨vM_13, evM_13⟩ : ∃ z, z = sI vM_2 6 (x2_1).toNatClampNeg ((x1 >>> (x2_1 &&& 31)) &&& (1 : Int32)) := ⟨_, rfl⟩
          have hf := bn_at hf evM_13
          have hP : va_P g.1 vwCl (cM g bM vM_13) H := by rw [evM_13]; exact hP
          have hD : va_D A (cM g bM vM_13) := by rw [evM_13]; exact hD
          refine lv_iinc (v := (x2_1 + (1 : Int32))) (lv' := [(2, .int (x2_1 + (1 : Int32))), (0, .ref (bM 0)), (1, .int x1)]) hx hb dX8_asksFull_21 hl (k := 2) rfl rfl (by decide) rfl (fun ls hl => ?_)
          refine lv_goto (tgt := 2) hx hb dX8_asksFull_24 (by decide) ?_
          exact ih5 (x2_1 + (1 : Int32)) vM_13 hf H locs hP hD hS _ (lv_sub hl [1, 2, 0] rfl)
    exact hL4 (0 : Int32) vM hf H locs hP hD hS _ (lv_sub hl [1, 2, 0] rfl)
  rw [hH, hlo] at hW
  exact hW
def f_X8_found_L9 (vM_1 : Vs) (self5 : Int32 → Int32 → Option (Int32 × Vs)) (x2_3 : Int32) (x3_4 : Int32) : Option (Int32 × Vs) :=
  o1 (f_X8_outputs vM_1) (fun (r8 : Int32) => if r8 ≤ x3_4 then some (x2_3, vM_1) else o1 (f_X8_atOutput_clean vM_1 x3_4) (fun (r13 : Int32) => o1 (f_X8_atOutput_bent vM_1 x3_4) (fun (r15 : Int32) => jn (fun (x2_17 : Int32) => self5 x2_17 (x3_4 + (1 : Int32))) (fun k18 => if r13 = (2 : Int32) then k18 x2_3 else if r13 = r15 then k18 x2_3 else jn (fun (t23 : Int32) => k18 t23) (fun k24 => if r15 = (2 : Int32) then if x2_3 = 0 then k24 (1 : Int32) else k24 x2_3 else k24 (2 : Int32))))))
def f_X8_found (vM : Vs) (x1 : Int32) : Option (Int32 × Vs) :=
  o1 (f_X8_bends vM x1) (fun (vM_1 : Vs) => lp (f_X8_found_L9 vM_1) (fun _ _ => none) FU (0 : Int32) (0 : Int32))
abbrev wsX8_found : List Cond := .code yX8_found cX8_found 6 (some .int) :: UW
abbrev rmX8_found : Room := { frames := 4, cells := 0, slots := 0, locals := 95 }
set_option maxHeartbeats 4000000 in
set_option maxRecDepth 100000 in
theorem c_X8_found (l : Launch) (g : Gx) (bM : Nat → Nat) (vM : Vs) (x1 : Int32) (r : Int32) (vM1 : Vs) (hf : f_X8_found vM x1 = some (r, vM1)) : CtI l yX8_found wsX8_found rmX8_found g [.ref (bM 0), .int x1] (cM g bM vM) (cM g bM vM1) r 0 0 := by
  unfold CtI
  intro sz
  refine Met.ofW (cc := cX8_found) (maxL := 6) (ret := (some .int)) (by decide) rfl ?_
  intro p e s m args below meth c s₁ B hml hv
  obtain ⟨rfl, hsz, hP, hK, hD0, hG⟩ := hv
  have hx := B.exec
  have hb := B.bytes
  have hr := B.returns
  have hts := atoms_spec (ws := wsX8_found) B.pre
  have hown : s.vm.findClass RX8 = some m.cls := findClass_of_methodNamed B.named
  have hlocks := B.notSynchronized
  subst hsz
  have hD := hD0.self (sz := s.heap.size)
  generalize hAe : va_A (cM g bM vM) s.heap.size = A at hD hG ⊢
  have hA : ∀ q : Nat, s.heap.size ≤ q → A q := fun q h => by rw [← hAe]; exact Or.inr h
  clear hAe hD0
  have hS : va_S A s.heap s.heap [] := va_S.rf
  have hl := lv_entry ([.ref (bM 0), .int x1]) (n := 6) (Nat.le_of_ble_eq_true rfl)
  rw [lg_entry_eq]
  generalize (lg_sl ([.ref (bM 0), .int x1]) ++ List.replicate (6 - (lg_sl ([.ref (bM 0), .int x1])).length) Slot.unset).toArray = ls at hl ⊢
  have hl : lv_has ls 6 [(0, .ref (bM 0)), (1, .int x1)] := hl
  have htu : ∀ w ∈ UW, w.before _ s = true := fun w h => hts w (List.mem_cons_of_mem _ h)
  have k_5_79 := htu _ mw_5_79
  have k_5_80 := htu _ mw_5_80
  unfold f_X8_found at hf
  obtain ⟨H, hH⟩ : ∃ z, z = s.heap := ⟨_, rfl⟩
  obtain ⟨locs, hlo⟩ : ∃ z : List Loc, z = [] := ⟨_, rfl⟩
  have hS : va_S A s.heap H locs := by rw [hH, hlo]; exact hS
  rw [← hH] at hP
  have hW : W p l e (headSpec wsX8_found rmX8_found).room s m ([.ref (bM 0), .int x1] : List Value).toArray below meth c H locs 0 0 (MQ below (qI g A (cM g bM vM1) r) ([.ref (bM 0), .int x1] : List Value).toArray s 0 0 A) (F0 m 0 ls []) := by
    refine lv_aload_n hx hb dX8_found_0 rfl (lv_at hl 0 rfl) ?_
    refine lv_iload_n hx hb dX8_found_1 rfl (lv_at hl 1 rfl) ?_
    obtain ⟨vM_1, hg2, hf⟩ := o1_at hf
    refine k_vvW ⟨hx, hb, hml, hown, htu⟩ hK hP hD hS hA hG (c_X8_bends l g bM vM x1 vM_1 hg2) (cwV 1 htu (gU_V mw_6_102 hcX8_bends) rfl rfl rfl hdX8_bends ⟨Nat.le_of_ble_eq_true rfl, Nat.le_of_ble_eq_true rfl⟩) (q0 := 0) (ci := 8) (fs := fcM bM vM) (q := (RX8, TX8, 23)) rfl rfl rfl (As := [.int x1]) (rest := []) rfl rfl hl.1 (Nat.le_of_ble_eq_true rfl) dX8_found_2 (k1 := 0) (n1 := 0) rfl rfl ⟨Nat.le_refl _, Nat.le_refl _⟩ (fun H locs hP hD hS => ?_)
    refine lv_iconst (v := (0 : Int32)) hx hb dX8_found_5 (by decide) ?_
    refine lv_istore_n (lv' := [(2, .int (0 : Int32)), (0, .ref (bM 0)), (1, .int x1)]) hx hb dX8_found_6 rfl hl (by decide) rfl (fun ls hl => ?_)
    refine lv_iconst (v := (0 : Int32)) hx hb dX8_found_7 (by decide) ?_
    refine lv_istore_n (lv' := [(3, .int (0 : Int32)), (2, .int (0 : Int32)), (0, .ref (bM 0)), (1, .int x1)]) hx hb dX8_found_8 rfl hl (by decide) rfl (fun ls hl => ?_)
    have hL6 : ∀ (x2_3 : Int32) (x3_4 : Int32), lp (f_X8_found_L9 vM_1) (fun _ _ => none) FU x2_3 x3_4 = some (r, vM1) → ∀ (H : Heap) (locs : List Loc), va_P g.1 vwCl (cM g bM vM_1) H → va_D A (cM g bM vM_1) → va_S A s.heap H locs → ∀ ls : Array Slot, lv_has ls 6 [(0, .ref (bM 0)), (2, .int x2_3), (3, .int x3_4)] → W p l e (headSpec wsX8_found rmX8_found).room s m ([.ref (bM 0), .int x1] : List Value).toArray below meth c H locs 0 0 (MQ below (qI g A (cM g bM vM1) r) ([.ref (bM 0), .int x1] : List Value).toArray s 0 0 A) (F0 m 9 ls []) := by
      refine lp_ind (T := Int32 → Int32 → Option (Int32 × Vs)) (fun self5 => ∀ (x2_3 : Int32) (x3_4 : Int32), self5 x2_3 x3_4 = some (r, vM1) → ∀ (H : Heap) (locs : List Loc), va_P g.1 vwCl (cM g bM vM_1) H → va_D A (cM g bM vM_1) → va_S A s.heap H locs → ∀ ls : Array Slot, lv_has ls 6 [(0, .ref (bM 0)), (2, .int x2_3), (3, .int x3_4)] → W p l e (headSpec wsX8_found rmX8_found).room s m ([.ref (bM 0), .int x1] : List Value).toArray below meth c H locs 0 0 (MQ below (qI g A (cM g bM vM1) r) ([.ref (bM 0), .int x1] : List Value).toArray s 0 0 A) (F0 m 9 ls [])) ?_ ?_ FU
      · intro x2_3 x3_4 hf; cases hf
      · intro self5 ih7 x2_3 x3_4 hf H locs hP hD hS ls hl
        unfold f_X8_found_L9 at hf
        refine lv_iload_n hx hb dX8_found_9 rfl (lv_at hl 2 rfl) ?_
        refine lv_aload_n hx hb dX8_found_10 rfl (lv_at hl 0 rfl) ?_
        obtain ⟨r8, hg9, hf⟩ := o1_at hf
        refine k_viW ⟨hx, hb, hml, hown, htu⟩ hK hP hD hS hA hG (c_X8_outputs l g bM vM_1 r8 hg9) (cwV 0 htu (gU_V mw_6_40 hcX8_outputs) rfl rfl rfl hdX8_outputs ⟨Nat.le_of_ble_eq_true rfl, Nat.le_of_ble_eq_true rfl⟩) (q0 := 0) (ci := 8) (fs := fcM bM vM_1) (q := (RX8, TX8, 23)) rfl rfl rfl (As := []) (rest := [.int x3_4]) rfl rfl hl.1 (Nat.le_of_ble_eq_true rfl) dX8_found_11 (k1 := 0) (n1 := 0) rfl rfl ⟨Nat.le_refl _, Nat.le_refl _⟩ (fun H locs hP hD hS => ?_)
        refine lv_icmp_ge (tgt := 81) hx hb dX8_found_14 (by decide) (fun c10 => ?_) (fun c10 => ?_)
        · have hf := it_t hf c10
          refine lv_iload_n hx hb dX8_found_81 rfl (lv_at hl 1 rfl) ?_
          obtain ⟨e11, e12⟩ := kp_2 hf
          rw [e12] at hP hD
          exact k_iret hx hb hr hlocks hK hP hD hS e11 dX8_found_82
        · have hf := it_f hf c10
          refine lv_aload_n hx hb dX8_found_17 rfl (lv_at hl 0 rfl) ?_
          refine lv_iload_n hx hb dX8_found_18 rfl (lv_at hl 2 rfl) ?_
          refine lv_aload_n hx hb dX8_found_19 rfl (lv_at hl 0 rfl) ?_
          refine va_get (D := g.1) (ci := 8) (fs := fcM bM vM_1) (v := .ref (bM 8)) (C := RX8) (T := TX8) (N := 23) hx hb htu hinX8 hown hK hP 0 rfl rfl 7 (by decide) k_5_79 (fun _ h9 => h9) rfl dX8_found_20 ?_
          obtain ⟨r13, hg14, hf⟩ := o1_at hf
          refine k_viW ⟨hx, hb, hml, hown, htu⟩ hK hP hD hS hA hG (c_X8_atOutput_clean l g bM vM_1 x3_4 r13 hg14) (cwV 2 htu (gU_V mw_6_106 hcX8_atOutput) rfl rfl rfl hdX8_atOutput ⟨Nat.le_of_ble_eq_true rfl, Nat.le_of_ble_eq_true rfl⟩) (q0 := 0) (ci := 8) (fs := fcM bM vM_1) (q := (RX8, TX8, 23)) rfl rfl rfl (As := [.int x3_4, .ref (bM 8)]) (rest := []) rfl rfl hl.1 (Nat.le_of_ble_eq_true rfl) dX8_found_23 (k1 := 0) (n1 := 0) rfl rfl ⟨Nat.le_refl _, Nat.le_refl _⟩ (fun H locs hP hD hS => ?_)
          refine lv_istore (lv' := [(4, .int r13), (0, .ref (bM 0)), (2, .int x2_3), (3, .int x3_4)]) hx hb dX8_found_26 hl (by decide) rfl (fun ls hl => ?_)
          refine lv_aload_n hx hb dX8_found_28 rfl (lv_at hl 1 rfl) ?_
          refine lv_iload_n hx hb dX8_found_29 rfl (lv_at hl 3 rfl) ?_
          refine lv_aload_n hx hb dX8_found_30 rfl (lv_at hl 1 rfl) ?_
          refine va_get (D := g.1) (ci := 8) (fs := fcM bM vM_1) (v := .ref (bM 9)) (C := RX8) (T := TX8) (N := 23) hx hb htu hinX8 hown hK hP 0 rfl rfl 8 (by decide) k_5_80 (fun _ h9 => h9) rfl dX8_found_31 ?_
          obtain ⟨r15, hg16, hf⟩ := o1_at hf
          refine k_viW ⟨hx, hb, hml, hown, htu⟩ hK hP hD hS hA hG (c_X8_atOutput_bent l g bM vM_1 x3_4 r15 hg16) (cwV 2 htu (gU_V mw_6_106 hcX8_atOutput) rfl rfl rfl hdX8_atOutput ⟨Nat.le_of_ble_eq_true rfl, Nat.le_of_ble_eq_true rfl⟩) (q0 := 0) (ci := 8) (fs := fcM bM vM_1) (q := (RX8, TX8, 23)) rfl rfl rfl (As := [.int x3_4, .ref (bM 9)]) (rest := []) rfl rfl hl.1 (Nat.le_of_ble_eq_true rfl) dX8_found_34 (k1 := 0) (n1 := 0) rfl rfl ⟨Nat.le_refl _, Nat.le_refl _⟩ (fun H locs hP hD hS => ?_)
          refine lv_istore (lv' := [(5, .int r15), (4, .int r13), (0, .ref (bM 0)), (2, .int x2_3), (3, .int x3_4)]) hx hb dX8_found_37 hl (by decide) rfl (fun ls hl => ?_)
          refine lv_iload hx hb dX8_found_39 (lv_at hl 1 rfl) ?_
          refine lv_iconst (v := (2 : Int32)) hx hb dX8_found_41 (by decide) ?_
          obtain ⟨k18, hk20, hf⟩ := jn_at hf
          have hJ19 : ∀ (x2_17 : Int32), k18 x2_17 = some (r, vM1) → ∀ (H : Heap) (locs : List Loc), va_P g.1 vwCl (cM g bM vM_1) H → va_D A (cM g bM vM_1) → va_S A s.heap H locs → ∀ ls : Array Slot, lv_has ls 6 [(0, .ref (bM 0)), (2, .int x2_17), (3, .int x3_4)] → W p l e (headSpec wsX8_found rmX8_found).room s m ([.ref (bM 0), .int x1] : List Value).toArray below meth c H locs 0 0 (MQ below (qI g A (cM g bM vM1) r) ([.ref (bM 0), .int x1] : List Value).toArray s 0 0 A) (F0 m 75 ls []) := by
            intro x2_17 hf H locs hP hD hS ls hl
            rw [hk20] at hf
            dsimp only at hf
            clear hk20
            refine lv_iinc (v := (x3_4 + (1 : Int32))) (lv' := [(3, .int (x3_4 + (1 : Int32))), (0, .ref (bM 0)), (2, .int x2_17)]) hx hb dX8_found_75 hl (k := 2) rfl rfl (by decide) rfl (fun ls hl => ?_)
            refine lv_goto (tgt := 9) hx hb dX8_found_78 (by decide) ?_
            exact ih7 x2_17 (x3_4 + (1 : Int32)) hf H locs hP hD hS _ (lv_sub hl [1, 2, 0] rfl)
          refine lv_icmp_eq (tgt := 75) hx hb dX8_found_42 (by decide) (fun c21 => ?_) (fun c21 => ?_)
          · have hf := it_t hf c21
            exact hJ19 x2_3 hf H locs hP hD hS _ (lv_sub hl [2, 3, 4] rfl)
          · have hf := it_f hf c21
            refine lv_iload hx hb dX8_found_45 (lv_at hl 1 rfl) ?_
            refine lv_iload hx hb dX8_found_47 (lv_at hl 0 rfl) ?_
            refine lv_icmp_ne (tgt := 55) hx hb dX8_found_49 (by decide) (fun c22 => ?_) (fun c22 => ?_)
            · have hf := it_f hf c22
              refine lv_iload hx hb dX8_found_55 (lv_at hl 0 rfl) ?_
              refine lv_iconst (v := (2 : Int32)) hx hb dX8_found_57 (by decide) ?_
              obtain ⟨k24, hk26, hf⟩ := jn_at hf
              have hJ25 : ∀ (t23 : Int32), k24 t23 = some (r, vM1) → ∀ (H : Heap) (locs : List Loc), va_P g.1 vwCl (cM g bM vM_1) H → va_D A (cM g bM vM_1) → va_S A s.heap H locs → ∀ ls : Array Slot, lv_has ls 6 [(0, .ref (bM 0)), (3, .int x3_4)] → W p l e (headSpec wsX8_found rmX8_found).room s m ([.ref (bM 0), .int x1] : List Value).toArray below meth c H locs 0 0 (MQ below (qI g A (cM g bM vM1) r) ([.ref (bM 0), .int x1] : List Value).toArray s 0 0 A) (F0 m 74 ls [.int t23]) := by
                intro t23 hf H locs hP hD hS ls hl
                rw [hk26] at hf
                dsimp only at hf
                clear hk26
                refine lv_istore_n (lv' := [(2, .int t23), (0, .ref (bM 0)), (3, .int x3_4)]) hx hb dX8_found_74 rfl hl (by decide) rfl (fun ls hl => ?_)
                exact hJ19 t23 hf H locs hP hD hS _ (lv_sub hl [1, 0, 2] rfl)
              refine lv_icmp_eq (tgt := 65) hx hb dX8_found_58 (by decide) (fun c27 => ?_) (fun c27 => ?_)
              · have hf := it_t hf c27
                refine lv_iload_n hx hb dX8_found_65 rfl (lv_at hl 3 rfl) ?_
                refine lv_if_ne (tgt := 73) hx hb dX8_found_66 (by decide) (fun c28 => ?_) (fun c28 => ?_)
                · have hf := it_f hf c28
                  refine lv_iload_n hx hb dX8_found_73 rfl (lv_at hl 3 rfl) ?_
                  exact hJ25 x2_3 hf H locs hP hD hS _ (lv_sub hl [2, 4] rfl)
                · have hf := it_t hf c28
                  refine lv_iconst (v := (1 : Int32)) hx hb dX8_found_69 (by decide) ?_
                  refine lv_goto (tgt := 74) hx hb dX8_found_70 (by decide) ?_
                  exact hJ25 (1 : Int32) hf H locs hP hD hS _ (lv_sub hl [2, 4] rfl)
              · have hf := it_f hf c27
                refine lv_iconst (v := (2 : Int32)) hx hb dX8_found_61 (by decide) ?_
                refine lv_goto (tgt := 74) hx hb dX8_found_62 (by decide) ?_
                exact hJ25 (2 : Int32) hf H locs hP hD hS _ (lv_sub hl [2, 4] rfl)
            · have hf := it_t hf c22
              refine lv_goto (tgt := 75) hx hb dX8_found_52 (by decide) ?_
              exact hJ19 x2_3 hf H locs hP hD hS _ (lv_sub hl [2, 3, 4] rfl)
    exact hL6 (0 : Int32) (0 : Int32) hf H locs hP hD hS _ (lv_sub hl [2, 1, 0] rfl)
  rw [hH, hlo] at hW
  exact hW
def f_X8_worthOf_L9 (self6 : Int32 → Int32 → Vs → Option (Int32 × Vs)) (x2_3 : Int32) (x3_4 : Int32) (vM_5 : Vs) : Option (Int32 × Vs) :=
  o1 (f_X8_faults vM_5) (fun (r9 : Int32) => if r9 ≤ x3_4 then some (x2_3, vM_5) else o2 (f_X8_found vM_5 x3_4) (fun (r14 : Int32) (vM_15 : Vs) => jn (fun (t17 : Int32) => self6 (x2_3 + t17) (x3_4 + (1 : Int32)) vM_15) (fun k18 => if r14 = (2 : Int32) then k18 (1 : Int32) else k18 (0 : Int32))))
def f_X8_worthOf (vM : Vs) (x1 : Int32) : Option (Int32 × Vs) :=
  o1 (f_X8_asksTest vM x1) (fun (vM_1 : Vs) => lp f_X8_worthOf_L9 (fun _ _ _ => none) FU (0 : Int32) (0 : Int32) vM_1)
abbrev wsX8_worthOf : List Cond := .code yX8_worthOf cX8_worthOf 4 (some .int) :: UW
abbrev rmX8_worthOf : Room := { frames := 5, cells := 0, slots := 0, locals := 120 }
set_option maxHeartbeats 4000000 in
set_option maxRecDepth 100000 in
theorem c_X8_worthOf (l : Launch) (g : Gx) (bM : Nat → Nat) (vM : Vs) (x1 : Int32) (r : Int32) (vM1 : Vs) (hf : f_X8_worthOf vM x1 = some (r, vM1)) : CtI l yX8_worthOf wsX8_worthOf rmX8_worthOf g [.ref (bM 0), .int x1] (cM g bM vM) (cM g bM vM1) r 0 0 := by
  unfold CtI
  intro sz
  refine Met.ofW (cc := cX8_worthOf) (maxL := 4) (ret := (some .int)) (by decide) rfl ?_
  intro p e s m args below meth c s₁ B hml hv
  obtain ⟨rfl, hsz, hP, hK, hD0, hG⟩ := hv
  have hx := B.exec
  have hb := B.bytes
  have hr := B.returns
  have hts := atoms_spec (ws := wsX8_worthOf) B.pre
  have hown : s.vm.findClass RX8 = some m.cls := findClass_of_methodNamed B.named
  have hlocks := B.notSynchronized
  subst hsz
  have hD := hD0.self (sz := s.heap.size)
  generalize hAe : va_A (cM g bM vM) s.heap.size = A at hD hG ⊢
  have hA : ∀ q : Nat, s.heap.size ≤ q → A q := fun q h => by rw [← hAe]; exact Or.inr h
  clear hAe hD0
  have hS : va_S A s.heap s.heap [] := va_S.rf
  have hl := lv_entry ([.ref (bM 0), .int x1]) (n := 4) (Nat.le_of_ble_eq_true rfl)
  rw [lg_entry_eq]
  generalize (lg_sl ([.ref (bM 0), .int x1]) ++ List.replicate (4 - (lg_sl ([.ref (bM 0), .int x1])).length) Slot.unset).toArray = ls at hl ⊢
  have hl : lv_has ls 4 [(0, .ref (bM 0)), (1, .int x1)] := hl
  have htu : ∀ w ∈ UW, w.before _ s = true := fun w h => hts w (List.mem_cons_of_mem _ h)
  unfold f_X8_worthOf at hf
  obtain ⟨H, hH⟩ : ∃ z, z = s.heap := ⟨_, rfl⟩
  obtain ⟨locs, hlo⟩ : ∃ z : List Loc, z = [] := ⟨_, rfl⟩
  have hS : va_S A s.heap H locs := by rw [hH, hlo]; exact hS
  rw [← hH] at hP
  have hW : W p l e (headSpec wsX8_worthOf rmX8_worthOf).room s m ([.ref (bM 0), .int x1] : List Value).toArray below meth c H locs 0 0 (MQ below (qI g A (cM g bM vM1) r) ([.ref (bM 0), .int x1] : List Value).toArray s 0 0 A) (F0 m 0 ls []) := by
    refine lv_aload_n hx hb dX8_worthOf_0 rfl (lv_at hl 0 rfl) ?_
    refine lv_iload_n hx hb dX8_worthOf_1 rfl (lv_at hl 1 rfl) ?_
    obtain ⟨vM_1, hg2, hf⟩ := o1_at hf
    refine k_vvW ⟨hx, hb, hml, hown, htu⟩ hK hP hD hS hA hG (c_X8_asksTest l g bM vM x1 vM_1 hg2) (cwV 1 htu (gU_V mw_6_68 hcX8_asksTest) rfl rfl rfl hdX8_asksTest ⟨Nat.le_of_ble_eq_true rfl, Nat.le_of_ble_eq_true rfl⟩) (q0 := 0) (ci := 8) (fs := fcM bM vM) (q := (RX8, TX8, 23)) rfl rfl rfl (As := [.int x1]) (rest := []) rfl rfl hl.1 (Nat.le_of_ble_eq_true rfl) dX8_worthOf_2 (k1 := 0) (n1 := 0) rfl rfl ⟨Nat.le_refl _, Nat.le_refl _⟩ (fun H locs hP hD hS => ?_)
    refine lv_iconst (v := (0 : Int32)) hx hb dX8_worthOf_5 (by decide) ?_
    refine lv_istore_n (lv' := [(2, .int (0 : Int32)), (0, .ref (bM 0)), (1, .int x1)]) hx hb dX8_worthOf_6 rfl hl (by decide) rfl (fun ls hl => ?_)
    refine lv_iconst (v := (0 : Int32)) hx hb dX8_worthOf_7 (by decide) ?_
    refine lv_istore_n (lv' := [(3, .int (0 : Int32)), (2, .int (0 : Int32)), (0, .ref (bM 0)), (1, .int x1)]) hx hb dX8_worthOf_8 rfl hl (by decide) rfl (fun ls hl => ?_)
    have hL7 : ∀ (x2_3 : Int32) (x3_4 : Int32) (vM_5 : Vs), lp f_X8_worthOf_L9 (fun _ _ _ => none) FU x2_3 x3_4 vM_5 = some (r, vM1) → ∀ (H : Heap) (locs : List Loc), va_P g.1 vwCl (cM g bM vM_5) H → va_D A (cM g bM vM_5) → va_S A s.heap H locs → ∀ ls : Array Slot, lv_has ls 4 [(0, .ref (bM 0)), (2, .int x2_3), (3, .int x3_4)] → W p l e (headSpec wsX8_worthOf rmX8_worthOf).room s m ([.ref (bM 0), .int x1] : List Value).toArray below meth c H locs 0 0 (MQ below (qI g A (cM g bM vM1) r) ([.ref (bM 0), .int x1] : List Value).toArray s 0 0 A) (F0 m 9 ls []) := by
      refine lp_ind (T := Int32 → Int32 → Vs → Option (Int32 × Vs)) (fun self6 => ∀ (x2_3 : Int32) (x3_4 : Int32) (vM_5 : Vs), self6 x2_3 x3_4 vM_5 = some (r, vM1) → ∀ (H : Heap) (locs : List Loc), va_P g.1 vwCl (cM g bM vM_5) H → va_D A (cM g bM vM_5) → va_S A s.heap H locs → ∀ ls : Array Slot, lv_has ls 4 [(0, .ref (bM 0)), (2, .int x2_3), (3, .int x3_4)] → W p l e (headSpec wsX8_worthOf rmX8_worthOf).room s m ([.ref (bM 0), .int x1] : List Value).toArray below meth c H locs 0 0 (MQ below (qI g A (cM g bM vM1) r) ([.ref (bM 0), .int x1] : List Value).toArray s 0 0 A) (F0 m 9 ls [])) ?_ ?_ FU
      · intro x2_3 x3_4 vM_5 hf; cases hf
      · intro self6 ih8 x2_3 x3_4 vM_5 hf H locs hP hD hS ls hl
        unfold f_X8_worthOf_L9 at hf
        refine lv_iload_n hx hb dX8_worthOf_9 rfl (lv_at hl 2 rfl) ?_
        refine lv_aload_n hx hb dX8_worthOf_10 rfl (lv_at hl 0 rfl) ?_
        obtain ⟨r9, hg10, hf⟩ := o1_at hf
        refine k_viW ⟨hx, hb, hml, hown, htu⟩ hK hP hD hS hA hG (c_X8_faults l g bM vM_5 r9 hg10) (cwV 0 htu (gU_V mw_6_44 hcX8_faults) rfl rfl rfl hdX8_faults ⟨Nat.le_of_ble_eq_true rfl, Nat.le_of_ble_eq_true rfl⟩) (q0 := 0) (ci := 8) (fs := fcM bM vM_5) (q := (RX8, TX8, 23)) rfl rfl rfl (As := []) (rest := [.int x3_4]) rfl rfl hl.1 (Nat.le_of_ble_eq_true rfl) dX8_worthOf_11 (k1 := 0) (n1 := 0) rfl rfl ⟨Nat.le_refl _, Nat.le_refl _⟩ (fun H locs hP hD hS => ?_)
        refine lv_icmp_ge (tgt := 40) hx hb dX8_worthOf_14 (by decide) (fun c11 => ?_) (fun c11 => ?_)
        · have hf := it_t hf c11
          refine lv_iload_n hx hb dX8_worthOf_40 rfl (lv_at hl 1 rfl) ?_
          obtain ⟨e12, e13⟩ := kp_2 hf
          rw [e13] at hP hD
          exact k_iret hx hb hr hlocks hK hP hD hS e12 dX8_worthOf_41
        · have hf := it_f hf c11
          refine lv_iload_n hx hb dX8_worthOf_17 rfl (lv_at hl 1 rfl) ?_
          refine lv_aload_n hx hb dX8_worthOf_18 rfl (lv_at hl 0 rfl) ?_
          refine lv_iload_n hx hb dX8_worthOf_19 rfl (lv_at hl 2 rfl) ?_
          obtain ⟨r14, vM_15, hg16, hf⟩ := o2_at hf
          refine k_viW ⟨hx, hb, hml, hown, htu⟩ hK hP hD hS hA hG (c_X8_found l g bM vM_5 x3_4 r14 vM_15 hg16) (cwV 1 htu (gU_V mw_6_98 hcX8_found) rfl rfl rfl hdX8_found ⟨Nat.le_of_ble_eq_true rfl, Nat.le_of_ble_eq_true rfl⟩) (q0 := 0) (ci := 8) (fs := fcM bM vM_5) (q := (RX8, TX8, 23)) rfl rfl rfl (As := [.int x3_4]) (rest := [.int x2_3]) rfl rfl hl.1 (Nat.le_of_ble_eq_true rfl) dX8_worthOf_20 (k1 := 0) (n1 := 0) rfl rfl ⟨Nat.le_refl _, Nat.le_refl _⟩ (fun H locs hP hD hS => ?_)
          refine lv_iconst (v := (2 : Int32)) hx hb dX8_worthOf_23 (by decide) ?_
          obtain ⟨k18, hk20, hf⟩ := jn_at hf
          have hJ19 : ∀ (t17 : Int32), k18 t17 = some (r, vM1) → ∀ (H : Heap) (locs : List Loc), va_P g.1 vwCl (cM g bM vM_15) H → va_D A (cM g bM vM_15) → va_S A s.heap H locs → ∀ ls : Array Slot, lv_has ls 4 [(0, .ref (bM 0)), (3, .int x3_4)] → W p l e (headSpec wsX8_worthOf rmX8_worthOf).room s m ([.ref (bM 0), .int x1] : List Value).toArray below meth c H locs 0 0 (MQ below (qI g A (cM g bM vM1) r) ([.ref (bM 0), .int x1] : List Value).toArray s 0 0 A) (F0 m 32 ls [.int t17, .int x2_3]) := by
            intro t17 hf H locs hP hD hS ls hl
            rw [hk20] at hf
            dsimp only at hf
            clear hk20
            refine lv_iadd hx hb dX8_worthOf_32 ?_
            refine lv_istore_n (lv' := [(2, .int (x2_3 + t17)), (0, .ref (bM 0)), (3, .int x3_4)]) hx hb dX8_worthOf_33 rfl hl (by decide) rfl (fun ls hl => ?_)
            refine lv_iinc (v := (x3_4 + (1 : Int32))) (lv' := [(3, .int (x3_4 + (1 : Int32))), (2, .int (x2_3 + t17)), (0, .ref (bM 0))]) hx hb dX8_worthOf_34 hl (k := 2) rfl rfl (by decide) rfl (fun ls hl => ?_)
            refine lv_goto (tgt := 9) hx hb dX8_worthOf_37 (by decide) ?_
            exact ih8 (x2_3 + t17) (x3_4 + (1 : Int32)) vM_15 hf H locs hP hD hS _ (lv_sub hl [2, 1, 0] rfl)
          refine lv_icmp_ne (tgt := 31) hx hb dX8_worthOf_24 (by decide) (fun c21 => ?_) (fun c21 => ?_)
          · have hf := it_f hf c21
            refine lv_iconst (v := (0 : Int32)) hx hb dX8_worthOf_31 (by decide) ?_
            exact hJ19 (0 : Int32) hf H locs hP hD hS _ (lv_sub hl [0, 2] rfl)
          · have hf := it_t hf c21
            refine lv_iconst (v := (1 : Int32)) hx hb dX8_worthOf_27 (by decide) ?_
            refine lv_goto (tgt := 32) hx hb dX8_worthOf_28 (by decide) ?_
            exact hJ19 (1 : Int32) hf H locs hP hD hS _ (lv_sub hl [0, 2] rfl)
    exact hL7 (0 : Int32) (0 : Int32) vM_1 hf H locs hP hD hS _ (lv_sub hl [2, 1, 0] rfl)
  rw [hH, hlo] at hW
  exact hW
def f_X8_finders_L40 (x1_9 : Int32) (self11 : Int32 → Vs → Option (Vs)) (self22 : Int32 → Vs → Option (Vs)) (x2_20 : Int32) (vM_21 : Vs) : Option (Vs) :=
  o1 (f_X8_faults vM_21) (fun (r25 : Int32) => if r25 ≤ x2_20 then self11 (x1_9 + (1 : Int32)) vM_21 else gd (inb x2_20 56) (o2 (f_X8_found vM_21 x2_20) (fun (r29 : Int32) (vM_30 : Vs) => jn (fun (t32 : Int32) => gd (inb x2_20 56) (bn (sI vM_30 9 (x2_20).toNatClampNeg ((vM_21.2.1 9 (x2_20).toNatClampNeg) ||| t32)) (fun (vM_36 : Vs) => self22 (x2_20 + (1 : Int32)) vM_36))) (fun k33 => if r29 = (2 : Int32) then k33 ((1 : Int32) <<< (x1_9 &&& 31)) else k33 (0 : Int32)))))
def f_X8_finders_L25 (self11 : Int32 → Vs → Option (Vs)) (x1_9 : Int32) (vM_10 : Vs) : Option (Vs) :=
  o1 (f_X8_tests vM_10) (fun (r14 : Int32) => if r14 ≤ x1_9 then some (vM_10) else o1 (f_X8_asksTest vM_10 x1_9) (fun (vM_18 : Vs) => lp (f_X8_finders_L40 x1_9 self11) (fun _ _ => none) FU (0 : Int32) vM_18))
def f_X8_finders_L2 (self3 : Int32 → Vs → Option (Vs)) (x1_1 : Int32) (vM_2 : Vs) : Option (Vs) :=
  o1 (f_X8_faults vM_2) (fun (r6 : Int32) => if r6 ≤ x1_1 then lp f_X8_finders_L25 (fun _ _ => none) FU (0 : Int32) vM_2 else gd (inb x1_1 56) (bn (sI vM_2 9 (x1_1).toNatClampNeg (0 : Int32)) (fun (vM_40 : Vs) => self3 (x1_1 + (1 : Int32)) vM_40)))
def f_X8_finders (vM : Vs) : Option (Vs) :=
  lp f_X8_finders_L2 (fun _ _ => none) FU (0 : Int32) vM
abbrev wsX8_finders : List Cond := .code yX8_finders cX8_finders 3 none :: UW
abbrev rmX8_finders : Room := { frames := 5, cells := 0, slots := 0, locals := 120 }
set_option maxHeartbeats 4000000 in
set_option maxRecDepth 100000 in
theorem c_X8_finders (l : Launch) (g : Gx) (bM : Nat → Nat) (vM : Vs) (vM1 : Vs) (hf : f_X8_finders vM = some vM1) : CtV l yX8_finders wsX8_finders rmX8_finders g [.ref (bM 0)] (cM g bM vM) (cM g bM vM1) 0 0 := by
  unfold CtV
  intro sz
  refine Met.ofW (cc := cX8_finders) (maxL := 3) (ret := none) (by decide) rfl ?_
  intro p e s m args below meth c s₁ B hml hv
  obtain ⟨rfl, hsz, hP, hK, hD0, hG⟩ := hv
  have hx := B.exec
  have hb := B.bytes
  have hr := B.returns
  have hts := atoms_spec (ws := wsX8_finders) B.pre
  have hown : s.vm.findClass RX8 = some m.cls := findClass_of_methodNamed B.named
  have hlocks := B.notSynchronized
  subst hsz
  have hD := hD0.self (sz := s.heap.size)
  generalize hAe : va_A (cM g bM vM) s.heap.size = A at hD hG ⊢
  have hA : ∀ q : Nat, s.heap.size ≤ q → A q := fun q h => by rw [← hAe]; exact Or.inr h
  clear hAe hD0
  have hS : va_S A s.heap s.heap [] := va_S.rf
  have hl := lv_entry ([.ref (bM 0)]) (n := 3) (Nat.le_of_ble_eq_true rfl)
  rw [lg_entry_eq]
  generalize (lg_sl ([.ref (bM 0)]) ++ List.replicate (3 - (lg_sl ([.ref (bM 0)])).length) Slot.unset).toArray = ls at hl ⊢
  have hl : lv_has ls 3 [(0, .ref (bM 0))] := hl
  have htu : ∀ w ∈ UW, w.before _ s = true := fun w h => hts w (List.mem_cons_of_mem _ h)
  have k_5_81 := htu _ mw_5_81
  unfold f_X8_finders at hf
  obtain ⟨H, hH⟩ : ∃ z, z = s.heap := ⟨_, rfl⟩
  obtain ⟨locs, hlo⟩ : ∃ z : List Loc, z = [] := ⟨_, rfl⟩
  have hS : va_S A s.heap H locs := by rw [hH, hlo]; exact hS
  rw [← hH] at hP
  have hW : W p l e (headSpec wsX8_finders rmX8_finders).room s m ([.ref (bM 0)] : List Value).toArray below meth c H locs 0 0 (MQ below (qV g A (cM g bM vM1)) ([.ref (bM 0)] : List Value).toArray s 0 0 A) (F0 m 0 ls []) := by
    refine lv_iconst (v := (0 : Int32)) hx hb dX8_finders_0 (by decide) ?_
    refine lv_istore_n (lv' := [(1, .int (0 : Int32)), (0, .ref (bM 0))]) hx hb dX8_finders_1 rfl hl (by decide) rfl (fun ls hl => ?_)
    have hL4 : ∀ (x1_1 : Int32) (vM_2 : Vs), lp f_X8_finders_L2 (fun _ _ => none) FU x1_1 vM_2 = some vM1 → ∀ (H : Heap) (locs : List Loc), va_P g.1 vwCl (cM g bM vM_2) H → va_D A (cM g bM vM_2) → va_S A s.heap H locs → ∀ ls : Array Slot, lv_has ls 3 [(0, .ref (bM 0)), (1, .int x1_1)] → W p l e (headSpec wsX8_finders rmX8_finders).room s m ([.ref (bM 0)] : List Value).toArray below meth c H locs 0 0 (MQ below (qV g A (cM g bM vM1)) ([.ref (bM 0)] : List Value).toArray s 0 0 A) (F0 m 2 ls []) := by
      refine lp_ind (T := Int32 → Vs → Option (Vs)) (fun self3 => ∀ (x1_1 : Int32) (vM_2 : Vs), self3 x1_1 vM_2 = some vM1 → ∀ (H : Heap) (locs : List Loc), va_P g.1 vwCl (cM g bM vM_2) H → va_D A (cM g bM vM_2) → va_S A s.heap H locs → ∀ ls : Array Slot, lv_has ls 3 [(0, .ref (bM 0)), (1, .int x1_1)] → W p l e (headSpec wsX8_finders rmX8_finders).room s m ([.ref (bM 0)] : List Value).toArray below meth c H locs 0 0 (MQ below (qV g A (cM g bM vM1)) ([.ref (bM 0)] : List Value).toArray s 0 0 A) (F0 m 2 ls [])) ?_ ?_ FU
      · intro x1_1 vM_2 hf; cases hf
      · intro self3 ih5 x1_1 vM_2 hf H locs hP hD hS ls hl
        unfold f_X8_finders_L2 at hf
        refine lv_iload_n hx hb dX8_finders_2 rfl (lv_at hl 1 rfl) ?_
        refine lv_aload_n hx hb dX8_finders_3 rfl (lv_at hl 0 rfl) ?_
        obtain ⟨r6, hg7, hf⟩ := o1_at hf
        refine k_viW ⟨hx, hb, hml, hown, htu⟩ hK hP hD hS hA hG (c_X8_faults l g bM vM_2 r6 hg7) (cwV 0 htu (gU_V mw_6_44 hcX8_faults) rfl rfl rfl hdX8_faults ⟨Nat.le_of_ble_eq_true rfl, Nat.le_of_ble_eq_true rfl⟩) (q0 := 0) (ci := 8) (fs := fcM bM vM_2) (q := (RX8, TX8, 23)) rfl rfl rfl (As := []) (rest := [.int x1_1]) rfl rfl hl.1 (Nat.le_of_ble_eq_true rfl) dX8_finders_4 (k1 := 0) (n1 := 0) rfl rfl ⟨Nat.le_refl _, Nat.le_refl _⟩ (fun H locs hP hD hS => ?_)
        refine lv_icmp_ge (tgt := 23) hx hb dX8_finders_7 (by decide) (fun c8 => ?_) (fun c8 => ?_)
        · have hf := it_t hf c8
          refine lv_iconst (v := (0 : Int32)) hx hb dX8_finders_23 (by decide) ?_
          refine lv_istore_n (lv' := [(1, .int (0 : Int32)), (0, .ref (bM 0))]) hx hb dX8_finders_24 rfl hl (by decide) rfl (fun ls hl => ?_)
          have hL12 : ∀ (x1_9 : Int32) (vM_10 : Vs), lp f_X8_finders_L25 (fun _ _ => none) FU x1_9 vM_10 = some vM1 → ∀ (H : Heap) (locs : List Loc), va_P g.1 vwCl (cM g bM vM_10) H → va_D A (cM g bM vM_10) → va_S A s.heap H locs → ∀ ls : Array Slot, lv_has ls 3 [(0, .ref (bM 0)), (1, .int x1_9)] → W p l e (headSpec wsX8_finders rmX8_finders).room s m ([.ref (bM 0)] : List Value).toArray below meth c H locs 0 0 (MQ below (qV g A (cM g bM vM1)) ([.ref (bM 0)] : List Value).toArray s 0 0 A) (F0 m 25 ls []) := by
            refine lp_ind (T := Int32 → Vs → Option (Vs)) (fun self11 => ∀ (x1_9 : Int32) (vM_10 : Vs), self11 x1_9 vM_10 = some vM1 → ∀ (H : Heap) (locs : List Loc), va_P g.1 vwCl (cM g bM vM_10) H → va_D A (cM g bM vM_10) → va_S A s.heap H locs → ∀ ls : Array Slot, lv_has ls 3 [(0, .ref (bM 0)), (1, .int x1_9)] → W p l e (headSpec wsX8_finders rmX8_finders).room s m ([.ref (bM 0)] : List Value).toArray below meth c H locs 0 0 (MQ below (qV g A (cM g bM vM1)) ([.ref (bM 0)] : List Value).toArray s 0 0 A) (F0 m 25 ls [])) ?_ ?_ FU
            · intro x1_9 vM_10 hf; cases hf
            · intro self11 ih13 x1_9 vM_10 hf H locs hP hD hS ls hl
              unfold f_X8_finders_L25 at hf
              refine lv_iload_n hx hb dX8_finders_25 rfl (lv_at hl 1 rfl) ?_
              refine lv_aload_n hx hb dX8_finders_26 rfl (lv_at hl 0 rfl) ?_
              obtain ⟨r14, hg15, hf⟩ := o1_at hf
              refine k_viW ⟨hx, hb, hml, hown, htu⟩ hK hP hD hS hA hG (c_X8_tests l g bM vM_10 r14 hg15) (cwV 0 htu (gU_V mw_6_48 hcX8_tests) rfl rfl rfl hdX8_tests ⟨Nat.le_of_ble_eq_true rfl, Nat.le_of_ble_eq_true rfl⟩) (q0 := 0) (ci := 8) (fs := fcM bM vM_10) (q := (RX8, TX8, 23)) rfl rfl rfl (As := []) (rest := [.int x1_9]) rfl rfl hl.1 (Nat.le_of_ble_eq_true rfl) dX8_finders_27 (k1 := 0) (n1 := 0) rfl rfl ⟨Nat.le_refl _, Nat.le_refl _⟩ (fun H locs hP hD hS => ?_)
              refine lv_icmp_ge (tgt := 85) hx hb dX8_finders_30 (by decide) (fun c16 => ?_) (fun c16 => ?_)
              · have hf := it_t hf c16
                have e17 := Option.some.inj hf
                rw [e17] at hP hD
                exact k_vret hx hb hr hlocks hK hP hD hS dX8_finders_85
              · have hf := it_f hf c16
                refine lv_aload_n hx hb dX8_finders_33 rfl (lv_at hl 0 rfl) ?_
                refine lv_iload_n hx hb dX8_finders_34 rfl (lv_at hl 1 rfl) ?_
                obtain ⟨vM_18, hg19, hf⟩ := o1_at hf
                refine k_vvW ⟨hx, hb, hml, hown, htu⟩ hK hP hD hS hA hG (c_X8_asksTest l g bM vM_10 x1_9 vM_18 hg19) (cwV 1 htu (gU_V mw_6_68 hcX8_asksTest) rfl rfl rfl hdX8_asksTest ⟨Nat.le_of_ble_eq_true rfl, Nat.le_of_ble_eq_true rfl⟩) (q0 := 0) (ci := 8) (fs := fcM bM vM_10) (q := (RX8, TX8, 23)) rfl rfl rfl (As := [.int x1_9]) (rest := []) rfl rfl hl.1 (Nat.le_of_ble_eq_true rfl) dX8_finders_35 (k1 := 0) (n1 := 0) rfl rfl ⟨Nat.le_refl _, Nat.le_refl _⟩ (fun H locs hP hD hS => ?_)
                refine lv_iconst (v := (0 : Int32)) hx hb dX8_finders_38 (by decide) ?_
                refine lv_istore_n (lv' := [(2, .int (0 : Int32)), (0, .ref (bM 0)), (1, .int x1_9)]) hx hb dX8_finders_39 rfl hl (by decide) rfl (fun ls hl => ?_)
                have hL23 : ∀ (x2_20 : Int32) (vM_21 : Vs), lp (f_X8_finders_L40 x1_9 self11) (fun _ _ => none) FU x2_20 vM_21 = some vM1 → ∀ (H : Heap) (locs : List Loc), va_P g.1 vwCl (cM g bM vM_21) H → va_D A (cM g bM vM_21) → va_S A s.heap H locs → ∀ ls : Array Slot, lv_has ls 3 [(0, .ref (bM 0)), (1, .int x1_9), (2, .int x2_20)] → W p l e (headSpec wsX8_finders rmX8_finders).room s m ([.ref (bM 0)] : List Value).toArray below meth c H locs 0 0 (MQ below (qV g A (cM g bM vM1)) ([.ref (bM 0)] : List Value).toArray s 0 0 A) (F0 m 40 ls []) := by
                  refine lp_ind (T := Int32 → Vs → Option (Vs)) (fun self22 => ∀ (x2_20 : Int32) (vM_21 : Vs), self22 x2_20 vM_21 = some vM1 → ∀ (H : Heap) (locs : List Loc), va_P g.1 vwCl (cM g bM vM_21) H → va_D A (cM g bM vM_21) → va_S A s.heap H locs → ∀ ls : Array Slot, lv_has ls 3 [(0, .ref (bM 0)), (1, .int x1_9), (2, .int x2_20)] → W p l e (headSpec wsX8_finders rmX8_finders).room s m ([.ref (bM 0)] : List Value).toArray below meth c H locs 0 0 (MQ below (qV g A (cM g bM vM1)) ([.ref (bM 0)] : List Value).toArray s 0 0 A) (F0 m 40 ls [])) ?_ ?_ FU
                  · intro x2_20 vM_21 hf; cases hf
                  · intro self22 ih24 x2_20 vM_21 hf H locs hP hD hS ls hl
                    unfold f_X8_finders_L40 at hf
                    refine lv_iload_n hx hb dX8_finders_40 rfl (lv_at hl 2 rfl) ?_
                    refine lv_aload_n hx hb dX8_finders_41 rfl (lv_at hl 0 rfl) ?_
                    obtain ⟨r25, hg26, hf⟩ := o1_at hf
                    refine k_viW ⟨hx, hb, hml, hown, htu⟩ hK hP hD hS hA hG (c_X8_faults l g bM vM_21 r25 hg26) (cwV 0 htu (gU_V mw_6_44 hcX8_faults) rfl rfl rfl hdX8_faults ⟨Nat.le_of_ble_eq_true rfl, Nat.le_of_ble_eq_true rfl⟩) (q0 := 0) (ci := 8) (fs := fcM bM vM_21) (q := (RX8, TX8, 23)) rfl rfl rfl (As := []) (rest := [.int x2_20]) rfl rfl hl.1 (Nat.le_of_ble_eq_true rfl) dX8_finders_42 (k1 := 0) (n1 := 0) rfl rfl ⟨Nat.le_refl _, Nat.le_refl _⟩ (fun H locs hP hD hS => ?_)
                    refine lv_icmp_ge (tgt := 79) hx hb dX8_finders_45 (by decide) (fun c27 => ?_) (fun c27 => ?_)
                    · have hf := it_t hf c27
                      refine lv_iinc (v := (x1_9 + (1 : Int32))) (lv' := [(1, .int (x1_9 + (1 : Int32))), (0, .ref (bM 0)), (2, .int x2_20)]) hx hb dX8_finders_79 hl (k := 1) rfl rfl (by decide) rfl (fun ls hl => ?_)
                      refine lv_goto (tgt := 25) hx hb dX8_finders_82 (by decide) ?_
                      exact ih13 (x1_9 + (1 : Int32)) vM_21 hf H locs hP hD hS _ (lv_sub hl [1, 0] rfl)
                    · have hf := it_f hf c27
                      refine lv_aload_n hx hb dX8_finders_48 rfl (lv_at hl 0 rfl) ?_
                      refine va_get (D := g.1) (ci := 8) (fs := fcM bM vM_21) (v := .ref (bM 10)) (C := RX8) (T := TX8) (N := 23) hx hb htu hinX8 hown hK hP 0 rfl rfl 9 (by decide) k_5_81 (fun _ h9 => h9) rfl dX8_finders_49 ?_
                      refine lv_iload_n hx hb dX8_finders_52 rfl (lv_at hl 2 rfl) ?_
                      refine lv_dup2_11 hx hb dX8_finders_53 rfl rfl ?_
                      obtain ⟨h28, hf⟩ := gd_in hf
                      refine va_iald (D := g.1) (f := (vM_21.2.1 9)) hx hb hK hP 7 0 rfl rfl h28 dX8_finders_54 ?_
                      refine lv_aload_n hx hb dX8_finders_55 rfl (lv_at hl 0 rfl) ?_
                      refine lv_iload_n hx hb dX8_finders_56 rfl (lv_at hl 2 rfl) ?_
                      obtain ⟨r29, vM_30, hg31, hf⟩ := o2_at hf
                      refine k_viW ⟨hx, hb, hml, hown, htu⟩ hK hP hD hS hA hG (c_X8_found l g bM vM_21 x2_20 r29 vM_30 hg31) (cwV 1 htu (gU_V mw_6_98 hcX8_found) rfl rfl rfl hdX8_found ⟨Nat.le_of_ble_eq_true rfl, Nat.le_of_ble_eq_true rfl⟩) (q0 := 0) (ci := 8) (fs := fcM bM vM_21) (q := (RX8, TX8, 23)) rfl rfl rfl (As := [.int x2_20]) (rest := [.int (vM_21.2.1 9 (x2_20).toNatClampNeg), .int x2_20, .ref (bM 10)]) rfl rfl hl.1 (Nat.le_of_ble_eq_true rfl) dX8_finders_57 (k1 := 0) (n1 := 0) rfl rfl ⟨Nat.le_refl _, Nat.le_refl _⟩ (fun H locs hP hD hS => ?_)
                      refine lv_iconst (v := (2 : Int32)) hx hb dX8_finders_60 (by decide) ?_
                      obtain ⟨k33, hk37, hf⟩ := jn_at hf
                      have hJ34 : ∀ (t32 : Int32), k33 t32 = some vM1 → ∀ (H : Heap) (locs : List Loc), va_P g.1 vwCl (cM g bM vM_30) H → va_D A (cM g bM vM_30) → va_S A s.heap H locs → ∀ ls : Array Slot, lv_has ls 3 [(0, .ref (bM 0)), (1, .int x1_9), (2, .int x2_20)] → W p l e (headSpec wsX8_finders rmX8_finders).room s m ([.ref (bM 0)] : List Value).toArray below meth c H locs 0 0 (MQ below (qV g A (cM g bM vM1)) ([.ref (bM 0)] : List Value).toArray s 0 0 A) (F0 m 71 ls [.int t32, .int (vM_21.2.1 9 (x2_20).toNatClampNeg), .int x2_20, .ref (bM 10)]) := by
                        intro t32 hf H locs hP hD hS ls hl
                        rw [hk37] at hf
                        dsimp only at hf
                        clear hk37
                        refine lv_ior hx hb dX8_finders_71 ?_
                        obtain ⟨h35, hf⟩ := gd_in hf
                        refine va_iast (D := g.1) (f := (vM_30.2.1 9)) hx hb hK hP hD hS 7 0 rfl rfl h35 dX8_finders_72 (fun H locs hP hD hS => ?_)
                        obtain ⟨vM_36, evM_36⟩ : ∃ z, z = sI vM_30 9 (x2_20).toNatClampNeg ((vM_21.2.1 9 (x2_20).toNatClampNeg) ||| t32) := ⟨_, rfl⟩
                        have hf := bn_at hf evM_36
                        have hP : va_P g.1 vwCl (cM g bM vM_36) H := by rw [evM_36]; exact hP
                        have hD : va_D A (cM g bM vM_36) := by rw [evM_36]; exact hD
                        refine lv_iinc (v := (x2_20 + (1 : Int32))) (lv' := [(2, .int (x2_20 + (1 : Int32))), (0, .ref (bM 0)), (1, .int x1_9)]) hx hb dX8_finders_73 hl (k := 2) rfl rfl (by decide) rfl (fun ls hl => ?_)
                        refine lv_goto (tgt := 40) hx hb dX8_finders_76 (by decide) ?_
                        exact ih24 (x2_20 + (1 : Int32)) vM_36 hf H locs hP hD hS _ (lv_sub hl [1, 2, 0] rfl)
                      refine lv_icmp_ne (tgt := 70) hx hb dX8_finders_61 (by decide) (fun c38 => ?_) (fun c38 => ?_)
                      · have hf := it_f hf c38
                        refine lv_iconst (v := (0 : Int32)) hx hb dX8_finders_70 (by decide) ?_
                        exact hJ34 (0 : Int32) hf H locs hP hD hS _ (lv_sub hl [0, 1, 2] rfl)
                      · have hf := it_t hf c38
                        refine lv_iconst (v := (1 : Int32)) hx hb dX8_finders_64 (by decide) ?_
                        refine lv_iload_n hx hb dX8_finders_65 rfl (lv_at hl 1 rfl) ?_
                        refine lv_ishl hx hb dX8_finders_66 ?_
                        refine lv_goto (tgt := 71) hx hb dX8_finders_67 (by decide) ?_
                        exact hJ34 ((1 : Int32) <<< (x1_9 &&& 31)) hf H locs hP hD hS _ (lv_sub hl [0, 1, 2] rfl)
                exact hL23 (0 : Int32) vM_18 hf H locs hP hD hS _ (lv_sub hl [1, 2, 0] rfl)
          exact hL12 (0 : Int32) vM_2 hf H locs hP hD hS _ (lv_sub hl [1, 0] rfl)
        · have hf := it_f hf c8
          refine lv_aload_n hx hb dX8_finders_10 rfl (lv_at hl 0 rfl) ?_
          refine va_get (D := g.1) (ci := 8) (fs := fcM bM vM_2) (v := .ref (bM 10)) (C := RX8) (T := TX8) (N := 23) hx hb htu hinX8 hown hK hP 0 rfl rfl 9 (by decide) k_5_81 (fun _ h9 => h9) rfl dX8_finders_11 ?_
          refine lv_iload_n hx hb dX8_finders_14 rfl (lv_at hl 1 rfl) ?_
          refine lv_iconst (v := (0 : Int32)) hx hb dX8_finders_15 (by decide) ?_
          obtain ⟨h39, hf⟩ := gd_in hf
          refine va_iast (D := g.1) (f := (vM_2.2.1 9)) hx hb hK hP hD hS 7 0 rfl rfl h39 dX8_finders_16 (fun H locs hP hD hS => ?_)
          obtain ⟨vM_40, evM_40⟩ : ∃ z, z = sI vM_2 9 (x1_1).toNatClampNeg (0 : Int32) := ⟨_, rfl⟩
          have hf := bn_at hf evM_40
          have hP : va_P g.1 vwCl (cM g bM vM_40) H := by rw [evM_40]; exact hP
          have hD : va_D A (cM g bM vM_40) := by rw [evM_40]; exact hD
          refine lv_iinc (v := (x1_1 + (1 : Int32))) (lv' := [(1, .int (x1_1 + (1 : Int32))), (0, .ref (bM 0))]) hx hb dX8_finders_17 hl (k := 1) rfl rfl (by decide) rfl (fun ls hl => ?_)
          refine lv_goto (tgt := 2) hx hb dX8_finders_20 (by decide) ?_
          exact ih5 (x1_1 + (1 : Int32)) vM_40 hf H locs hP hD hS _ (lv_sub hl [1, 0] rfl)
    exact hL4 (0 : Int32) vM hf H locs hP hD hS _ (lv_sub hl [1, 0] rfl)
  rw [hH, hlo] at hW
  exact hW
def f_X8_foundMany_L8 (vM_1 : Vs) (self5 : Int32 → Int32 → Option (Int32 × Vs)) (x1_3 : Int32) (x2_4 : Int32) : Option (Int32 × Vs) :=
  o1 (f_X8_faults vM_1) (fun (r8 : Int32) => if r8 ≤ x2_4 then some (x1_3, vM_1) else gd (inb x2_4 56) (jn (fun (t14 : Int32) => self5 (x1_3 + t14) (x2_4 + (1 : Int32))) (fun k15 => if (vM_1.2.1 9 (x2_4).toNatClampNeg) = 0 then k15 (0 : Int32) else k15 (1 : Int32))))
def f_X8_foundMany (vM : Vs) : Option (Int32 × Vs) :=
  o1 (f_X8_finders vM) (fun (vM_1 : Vs) => lp (f_X8_foundMany_L8 vM_1) (fun _ _ => none) FU (0 : Int32) (0 : Int32))
abbrev wsX8_foundMany : List Cond := .code yX8_foundMany cX8_foundMany 3 (some .int) :: UW
abbrev rmX8_foundMany : Room := { frames := 6, cells := 0, slots := 0, locals := 142 }
set_option maxHeartbeats 4000000 in
set_option maxRecDepth 100000 in
theorem c_X8_foundMany (l : Launch) (g : Gx) (bM : Nat → Nat) (vM : Vs) (r : Int32) (vM1 : Vs) (hf : f_X8_foundMany vM = some (r, vM1)) : CtI l yX8_foundMany wsX8_foundMany rmX8_foundMany g [.ref (bM 0)] (cM g bM vM) (cM g bM vM1) r 0 0 := by
  unfold CtI
  intro sz
  refine Met.ofW (cc := cX8_foundMany) (maxL := 3) (ret := (some .int)) (by decide) rfl ?_
  intro p e s m args below meth c s₁ B hml hv
  obtain ⟨rfl, hsz, hP, hK, hD0, hG⟩ := hv
  have hx := B.exec
  have hb := B.bytes
  have hr := B.returns
  have hts := atoms_spec (ws := wsX8_foundMany) B.pre
  have hown : s.vm.findClass RX8 = some m.cls := findClass_of_methodNamed B.named
  have hlocks := B.notSynchronized
  subst hsz
  have hD := hD0.self (sz := s.heap.size)
  generalize hAe : va_A (cM g bM vM) s.heap.size = A at hD hG ⊢
  have hA : ∀ q : Nat, s.heap.size ≤ q → A q := fun q h => by rw [← hAe]; exact Or.inr h
  clear hAe hD0
  have hS : va_S A s.heap s.heap [] := va_S.rf
  have hl := lv_entry ([.ref (bM 0)]) (n := 3) (Nat.le_of_ble_eq_true rfl)
  rw [lg_entry_eq]
  generalize (lg_sl ([.ref (bM 0)]) ++ List.replicate (3 - (lg_sl ([.ref (bM 0)])).length) Slot.unset).toArray = ls at hl ⊢
  have hl : lv_has ls 3 [(0, .ref (bM 0))] := hl
  have htu : ∀ w ∈ UW, w.before _ s = true := fun w h => hts w (List.mem_cons_of_mem _ h)
  have k_5_81 := htu _ mw_5_81
  unfold f_X8_foundMany at hf
  obtain ⟨H, hH⟩ : ∃ z, z = s.heap := ⟨_, rfl⟩
  obtain ⟨locs, hlo⟩ : ∃ z : List Loc, z = [] := ⟨_, rfl⟩
  have hS : va_S A s.heap H locs := by rw [hH, hlo]; exact hS
  rw [← hH] at hP
  have hW : W p l e (headSpec wsX8_foundMany rmX8_foundMany).room s m ([.ref (bM 0)] : List Value).toArray below meth c H locs 0 0 (MQ below (qI g A (cM g bM vM1) r) ([.ref (bM 0)] : List Value).toArray s 0 0 A) (F0 m 0 ls []) := by
    refine lv_aload_n hx hb dX8_foundMany_0 rfl (lv_at hl 0 rfl) ?_
    obtain ⟨vM_1, hg2, hf⟩ := o1_at hf
    refine k_vvW ⟨hx, hb, hml, hown, htu⟩ hK hP hD hS hA hG (c_X8_finders l g bM vM vM_1 hg2) (cwV 0 htu (gU_V mw_6_64 hcX8_finders) rfl rfl rfl hdX8_finders ⟨Nat.le_of_ble_eq_true rfl, Nat.le_of_ble_eq_true rfl⟩) (q0 := 0) (ci := 8) (fs := fcM bM vM) (q := (RX8, TX8, 23)) rfl rfl rfl (As := []) (rest := []) rfl rfl hl.1 (Nat.le_of_ble_eq_true rfl) dX8_foundMany_1 (k1 := 0) (n1 := 0) rfl rfl ⟨Nat.le_refl _, Nat.le_refl _⟩ (fun H locs hP hD hS => ?_)
    refine lv_iconst (v := (0 : Int32)) hx hb dX8_foundMany_4 (by decide) ?_
    refine lv_istore_n (lv' := [(1, .int (0 : Int32)), (0, .ref (bM 0))]) hx hb dX8_foundMany_5 rfl hl (by decide) rfl (fun ls hl => ?_)
    refine lv_iconst (v := (0 : Int32)) hx hb dX8_foundMany_6 (by decide) ?_
    refine lv_istore_n (lv' := [(2, .int (0 : Int32)), (1, .int (0 : Int32)), (0, .ref (bM 0))]) hx hb dX8_foundMany_7 rfl hl (by decide) rfl (fun ls hl => ?_)
    have hL6 : ∀ (x1_3 : Int32) (x2_4 : Int32), lp (f_X8_foundMany_L8 vM_1) (fun _ _ => none) FU x1_3 x2_4 = some (r, vM1) → ∀ (H : Heap) (locs : List Loc), va_P g.1 vwCl (cM g bM vM_1) H → va_D A (cM g bM vM_1) → va_S A s.heap H locs → ∀ ls : Array Slot, lv_has ls 3 [(0, .ref (bM 0)), (1, .int x1_3), (2, .int x2_4)] → W p l e (headSpec wsX8_foundMany rmX8_foundMany).room s m ([.ref (bM 0)] : List Value).toArray below meth c H locs 0 0 (MQ below (qI g A (cM g bM vM1) r) ([.ref (bM 0)] : List Value).toArray s 0 0 A) (F0 m 8 ls []) := by
      refine lp_ind (T := Int32 → Int32 → Option (Int32 × Vs)) (fun self5 => ∀ (x1_3 : Int32) (x2_4 : Int32), self5 x1_3 x2_4 = some (r, vM1) → ∀ (H : Heap) (locs : List Loc), va_P g.1 vwCl (cM g bM vM_1) H → va_D A (cM g bM vM_1) → va_S A s.heap H locs → ∀ ls : Array Slot, lv_has ls 3 [(0, .ref (bM 0)), (1, .int x1_3), (2, .int x2_4)] → W p l e (headSpec wsX8_foundMany rmX8_foundMany).room s m ([.ref (bM 0)] : List Value).toArray below meth c H locs 0 0 (MQ below (qI g A (cM g bM vM1) r) ([.ref (bM 0)] : List Value).toArray s 0 0 A) (F0 m 8 ls [])) ?_ ?_ FU
      · intro x1_3 x2_4 hf; cases hf
      · intro self5 ih7 x1_3 x2_4 hf H locs hP hD hS ls hl
        unfold f_X8_foundMany_L8 at hf
        refine lv_iload_n hx hb dX8_foundMany_8 rfl (lv_at hl 2 rfl) ?_
        refine lv_aload_n hx hb dX8_foundMany_9 rfl (lv_at hl 0 rfl) ?_
        obtain ⟨r8, hg9, hf⟩ := o1_at hf
        refine k_viW ⟨hx, hb, hml, hown, htu⟩ hK hP hD hS hA hG (c_X8_faults l g bM vM_1 r8 hg9) (cwV 0 htu (gU_V mw_6_44 hcX8_faults) rfl rfl rfl hdX8_faults ⟨Nat.le_of_ble_eq_true rfl, Nat.le_of_ble_eq_true rfl⟩) (q0 := 0) (ci := 8) (fs := fcM bM vM_1) (q := (RX8, TX8, 23)) rfl rfl rfl (As := []) (rest := [.int x2_4]) rfl rfl hl.1 (Nat.le_of_ble_eq_true rfl) dX8_foundMany_10 (k1 := 0) (n1 := 0) rfl rfl ⟨Nat.le_refl _, Nat.le_refl _⟩ (fun H locs hP hD hS => ?_)
        refine lv_icmp_ge (tgt := 39) hx hb dX8_foundMany_13 (by decide) (fun c10 => ?_) (fun c10 => ?_)
        · have hf := it_t hf c10
          refine lv_iload_n hx hb dX8_foundMany_39 rfl (lv_at hl 1 rfl) ?_
          obtain ⟨e11, e12⟩ := kp_2 hf
          rw [e12] at hP hD
          exact k_iret hx hb hr hlocks hK hP hD hS e11 dX8_foundMany_40
        · have hf := it_f hf c10
          refine lv_iload_n hx hb dX8_foundMany_16 rfl (lv_at hl 1 rfl) ?_
          refine lv_aload_n hx hb dX8_foundMany_17 rfl (lv_at hl 0 rfl) ?_
          refine va_get (D := g.1) (ci := 8) (fs := fcM bM vM_1) (v := .ref (bM 10)) (C := RX8) (T := TX8) (N := 23) hx hb htu hinX8 hown hK hP 0 rfl rfl 9 (by decide) k_5_81 (fun _ h9 => h9) rfl dX8_foundMany_18 ?_
          refine lv_iload_n hx hb dX8_foundMany_21 rfl (lv_at hl 2 rfl) ?_
          obtain ⟨h13, hf⟩ := gd_in hf
          refine va_iald (D := g.1) (f := (vM_1.2.1 9)) hx hb hK hP 7 0 rfl rfl h13 dX8_foundMany_22 ?_
          obtain ⟨k15, hk17, hf⟩ := jn_at hf
          have hJ16 : ∀ (t14 : Int32), k15 t14 = some (r, vM1) → ∀ (H : Heap) (locs : List Loc), va_P g.1 vwCl (cM g bM vM_1) H → va_D A (cM g bM vM_1) → va_S A s.heap H locs → ∀ ls : Array Slot, lv_has ls 3 [(0, .ref (bM 0)), (2, .int x2_4)] → W p l e (headSpec wsX8_foundMany rmX8_foundMany).room s m ([.ref (bM 0)] : List Value).toArray below meth c H locs 0 0 (MQ below (qI g A (cM g bM vM1) r) ([.ref (bM 0)] : List Value).toArray s 0 0 A) (F0 m 31 ls [.int t14, .int x1_3]) := by
            intro t14 hf H locs hP hD hS ls hl
            rw [hk17] at hf
            dsimp only at hf
            clear hk17
            refine lv_iadd hx hb dX8_foundMany_31 ?_
            refine lv_istore_n (lv' := [(1, .int (x1_3 + t14)), (0, .ref (bM 0)), (2, .int x2_4)]) hx hb dX8_foundMany_32 rfl hl (by decide) rfl (fun ls hl => ?_)
            refine lv_iinc (v := (x2_4 + (1 : Int32))) (lv' := [(2, .int (x2_4 + (1 : Int32))), (1, .int (x1_3 + t14)), (0, .ref (bM 0))]) hx hb dX8_foundMany_33 hl (k := 2) rfl rfl (by decide) rfl (fun ls hl => ?_)
            refine lv_goto (tgt := 8) hx hb dX8_foundMany_36 (by decide) ?_
            exact ih7 (x1_3 + t14) (x2_4 + (1 : Int32)) hf H locs hP hD hS _ (lv_sub hl [2, 1, 0] rfl)
          refine lv_if_eq (tgt := 30) hx hb dX8_foundMany_23 (by decide) (fun c18 => ?_) (fun c18 => ?_)
          · have hf := it_t hf c18
            refine lv_iconst (v := (0 : Int32)) hx hb dX8_foundMany_30 (by decide) ?_
            exact hJ16 (0 : Int32) hf H locs hP hD hS _ (lv_sub hl [0, 2] rfl)
          · have hf := it_f hf c18
            refine lv_iconst (v := (1 : Int32)) hx hb dX8_foundMany_26 (by decide) ?_
            refine lv_goto (tgt := 31) hx hb dX8_foundMany_27 (by decide) ?_
            exact hJ16 (1 : Int32) hf H locs hP hD hS _ (lv_sub hl [0, 2] rfl)
    exact hL6 (0 : Int32) (0 : Int32) hf H locs hP hD hS _ (lv_sub hl [2, 1, 0] rfl)
  rw [hH, hlo] at hW
  exact hW
def f_X8_fulls (vM : Vs) : Option (Int32) :=
  o1 (f_X8_inputs vM) (fun (r1 : Int32) => some (((1 : Int32) <<< (r1 &&& 31))))
abbrev wsX8_fulls : List Cond := .code yX8_fulls cX8_fulls 1 (some .int) :: UW
abbrev rmX8_fulls : Room := { frames := 2, cells := 0, slots := 0, locals := 41 }
set_option maxHeartbeats 4000000 in
set_option maxRecDepth 100000 in
theorem c_X8_fulls (l : Launch) (g : Gx) (bM : Nat → Nat) (vM : Vs) (r : Int32) (hf : f_X8_fulls vM = some r) : CtI l yX8_fulls wsX8_fulls rmX8_fulls g [.ref (bM 0)] (cM g bM vM) (cM g bM vM) r 0 0 := by
  unfold CtI
  intro sz
  refine Met.ofW (cc := cX8_fulls) (maxL := 1) (ret := (some .int)) (by decide) rfl ?_
  intro p e s m args below meth c s₁ B hml hv
  obtain ⟨rfl, hsz, hP, hK, hD0, hG⟩ := hv
  have hx := B.exec
  have hb := B.bytes
  have hr := B.returns
  have hts := atoms_spec (ws := wsX8_fulls) B.pre
  have hown : s.vm.findClass RX8 = some m.cls := findClass_of_methodNamed B.named
  have hlocks := B.notSynchronized
  subst hsz
  have hD := hD0.self (sz := s.heap.size)
  generalize hAe : va_A (cM g bM vM) s.heap.size = A at hD hG ⊢
  have hA : ∀ q : Nat, s.heap.size ≤ q → A q := fun q h => by rw [← hAe]; exact Or.inr h
  clear hAe hD0
  have hS : va_S A s.heap s.heap [] := va_S.rf
  have hl := lv_entry ([.ref (bM 0)]) (n := 1) (Nat.le_of_ble_eq_true rfl)
  rw [lg_entry_eq]
  generalize (lg_sl ([.ref (bM 0)]) ++ List.replicate (1 - (lg_sl ([.ref (bM 0)])).length) Slot.unset).toArray = ls at hl ⊢
  have hl : lv_has ls 1 [(0, .ref (bM 0))] := hl
  have htu : ∀ w ∈ UW, w.before _ s = true := fun w h => hts w (List.mem_cons_of_mem _ h)
  unfold f_X8_fulls at hf
  obtain ⟨H, hH⟩ : ∃ z, z = s.heap := ⟨_, rfl⟩
  obtain ⟨locs, hlo⟩ : ∃ z : List Loc, z = [] := ⟨_, rfl⟩
  have hS : va_S A s.heap H locs := by rw [hH, hlo]; exact hS
  rw [← hH] at hP
  have hW : W p l e (headSpec wsX8_fulls rmX8_fulls).room s m ([.ref (bM 0)] : List Value).toArray below meth c H locs 0 0 (MQ below (qI g A (cM g bM vM) r) ([.ref (bM 0)] : List Value).toArray s 0 0 A) (F0 m 0 ls []) := by
    refine lv_iconst (v := (1 : Int32)) hx hb dX8_fulls_0 (by decide) ?_
    refine lv_aload_n hx hb dX8_fulls_1 rfl (lv_at hl 0 rfl) ?_
    obtain ⟨r1, hg2, hf⟩ := o1_at hf
    refine k_viW ⟨hx, hb, hml, hown, htu⟩ hK hP hD hS hA hG (c_X8_inputs l g bM vM r1 hg2) (cwV 0 htu (gU_V mw_6_36 hcX8_inputs) rfl rfl rfl hdX8_inputs ⟨Nat.le_of_ble_eq_true rfl, Nat.le_of_ble_eq_true rfl⟩) (q0 := 0) (ci := 8) (fs := fcM bM vM) (q := (RX8, TX8, 23)) rfl rfl rfl (As := []) (rest := [.int (1 : Int32)]) rfl rfl hl.1 (Nat.le_of_ble_eq_true rfl) dX8_fulls_2 (k1 := 0) (n1 := 0) rfl rfl ⟨Nat.le_refl _, Nat.le_refl _⟩ (fun H locs hP hD hS => ?_)
    refine lv_ishl hx hb dX8_fulls_5 ?_
    have e3 := Option.some.inj hf
    exact k_iret hx hb hr hlocks hK hP hD hS e3 dX8_fulls_6
  rw [hH, hlo] at hW
  exact hW
def f_X8_lays_L35 (x1_1 : Int32) (self3 : Int32 → Vs → Option (Vs)) (self18 : Int32 → Vs → Option (Vs)) (x2_16 : Int32) (vM_17 : Vs) : Option (Vs) :=
  o1 (f_X8_faults vM_17) (fun (r21 : Int32) => if r21 ≤ x2_16 then self3 (x1_1 + (1 : Int32)) vM_17 else o1 (f_X8_bends vM_17 x2_16) (fun (vM_24 : Vs) => o1 (f_X8_bitsAt_bent vM_24) (fun (r26 : Int32) => gd (inb (((256 : Int32) * x2_16) + x1_1) 14592) (bn (sI vM_24 10 ((((256 : Int32) * x2_16) + x1_1)).toNatClampNeg r26) (fun (vM_29 : Vs) => self18 (x2_16 + (1 : Int32)) vM_29)))))
def f_X8_lays_L2 (self3 : Int32 → Vs → Option (Vs)) (x1_1 : Int32) (vM_2 : Vs) : Option (Vs) :=
  o1 (f_X8_fulls vM_2) (fun (r6 : Int32) => if r6 ≤ x1_1 then some (vM_2) else o1 (f_X8_asksFull vM_2 x1_1) (fun (vM_10 : Vs) => o1 (f_X8_bitsAt_clean vM_10) (fun (r12 : Int32) => gd (inb ((14336 : Int32) + x1_1) 14592) (bn (sI vM_10 10 (((14336 : Int32) + x1_1)).toNatClampNeg r12) (fun (vM_15 : Vs) => lp (f_X8_lays_L35 x1_1 self3) (fun _ _ => none) FU (0 : Int32) vM_15)))))
def f_X8_lays (vM : Vs) : Option (Vs) :=
  lp f_X8_lays_L2 (fun _ _ => none) FU (0 : Int32) vM
abbrev wsX8_lays : List Cond := .code yX8_lays cX8_lays 3 none :: UW
abbrev rmX8_lays : Room := { frames := 5, cells := 0, slots := 0, locals := 113 }
set_option maxHeartbeats 4000000 in
set_option maxRecDepth 100000 in
theorem c_X8_lays (l : Launch) (g : Gx) (bM : Nat → Nat) (vM : Vs) (vM1 : Vs) (hf : f_X8_lays vM = some vM1) : CtV l yX8_lays wsX8_lays rmX8_lays g [.ref (bM 0)] (cM g bM vM) (cM g bM vM1) 0 0 := by
  unfold CtV
  intro sz
  refine Met.ofW (cc := cX8_lays) (maxL := 3) (ret := none) (by decide) rfl ?_
  intro p e s m args below meth c s₁ B hml hv
  obtain ⟨rfl, hsz, hP, hK, hD0, hG⟩ := hv
  have hx := B.exec
  have hb := B.bytes
  have hr := B.returns
  have hts := atoms_spec (ws := wsX8_lays) B.pre
  have hown : s.vm.findClass RX8 = some m.cls := findClass_of_methodNamed B.named
  have hlocks := B.notSynchronized
  subst hsz
  have hD := hD0.self (sz := s.heap.size)
  generalize hAe : va_A (cM g bM vM) s.heap.size = A at hD hG ⊢
  have hA : ∀ q : Nat, s.heap.size ≤ q → A q := fun q h => by rw [← hAe]; exact Or.inr h
  clear hAe hD0
  have hS : va_S A s.heap s.heap [] := va_S.rf
  have hl := lv_entry ([.ref (bM 0)]) (n := 3) (Nat.le_of_ble_eq_true rfl)
  rw [lg_entry_eq]
  generalize (lg_sl ([.ref (bM 0)]) ++ List.replicate (3 - (lg_sl ([.ref (bM 0)])).length) Slot.unset).toArray = ls at hl ⊢
  have hl : lv_has ls 3 [(0, .ref (bM 0))] := hl
  have htu : ∀ w ∈ UW, w.before _ s = true := fun w h => hts w (List.mem_cons_of_mem _ h)
  have k_5_82 := htu _ mw_5_82
  have k_5_79 := htu _ mw_5_79
  have k_5_80 := htu _ mw_5_80
  unfold f_X8_lays at hf
  obtain ⟨H, hH⟩ : ∃ z, z = s.heap := ⟨_, rfl⟩
  obtain ⟨locs, hlo⟩ : ∃ z : List Loc, z = [] := ⟨_, rfl⟩
  have hS : va_S A s.heap H locs := by rw [hH, hlo]; exact hS
  rw [← hH] at hP
  have hW : W p l e (headSpec wsX8_lays rmX8_lays).room s m ([.ref (bM 0)] : List Value).toArray below meth c H locs 0 0 (MQ below (qV g A (cM g bM vM1)) ([.ref (bM 0)] : List Value).toArray s 0 0 A) (F0 m 0 ls []) := by
    refine lv_iconst (v := (0 : Int32)) hx hb dX8_lays_0 (by decide) ?_
    refine lv_istore_n (lv' := [(1, .int (0 : Int32)), (0, .ref (bM 0))]) hx hb dX8_lays_1 rfl hl (by decide) rfl (fun ls hl => ?_)
    have hL4 : ∀ (x1_1 : Int32) (vM_2 : Vs), lp f_X8_lays_L2 (fun _ _ => none) FU x1_1 vM_2 = some vM1 → ∀ (H : Heap) (locs : List Loc), va_P g.1 vwCl (cM g bM vM_2) H → va_D A (cM g bM vM_2) → va_S A s.heap H locs → ∀ ls : Array Slot, lv_has ls 3 [(0, .ref (bM 0)), (1, .int x1_1)] → W p l e (headSpec wsX8_lays rmX8_lays).room s m ([.ref (bM 0)] : List Value).toArray below meth c H locs 0 0 (MQ below (qV g A (cM g bM vM1)) ([.ref (bM 0)] : List Value).toArray s 0 0 A) (F0 m 2 ls []) := by
      refine lp_ind (T := Int32 → Vs → Option (Vs)) (fun self3 => ∀ (x1_1 : Int32) (vM_2 : Vs), self3 x1_1 vM_2 = some vM1 → ∀ (H : Heap) (locs : List Loc), va_P g.1 vwCl (cM g bM vM_2) H → va_D A (cM g bM vM_2) → va_S A s.heap H locs → ∀ ls : Array Slot, lv_has ls 3 [(0, .ref (bM 0)), (1, .int x1_1)] → W p l e (headSpec wsX8_lays rmX8_lays).room s m ([.ref (bM 0)] : List Value).toArray below meth c H locs 0 0 (MQ below (qV g A (cM g bM vM1)) ([.ref (bM 0)] : List Value).toArray s 0 0 A) (F0 m 2 ls [])) ?_ ?_ FU
      · intro x1_1 vM_2 hf; cases hf
      · intro self3 ih5 x1_1 vM_2 hf H locs hP hD hS ls hl
        unfold f_X8_lays_L2 at hf
        refine lv_iload_n hx hb dX8_lays_2 rfl (lv_at hl 1 rfl) ?_
        refine lv_aload_n hx hb dX8_lays_3 rfl (lv_at hl 0 rfl) ?_
        obtain ⟨r6, hg7, hf⟩ := o1_at hf
        refine k_viW ⟨hx, hb, hml, hown, htu⟩ hK hP hD hS hA hG (c_X8_fulls l g bM vM_2 r6 hg7) (cwV 0 htu (gU_V mw_6_178 hcX8_fulls) rfl rfl rfl hdX8_fulls ⟨Nat.le_of_ble_eq_true rfl, Nat.le_of_ble_eq_true rfl⟩) (q0 := 0) (ci := 8) (fs := fcM bM vM_2) (q := (RX8, TX8, 23)) rfl rfl rfl (As := []) (rest := [.int x1_1]) rfl rfl hl.1 (Nat.le_of_ble_eq_true rfl) dX8_lays_4 (k1 := 0) (n1 := 0) rfl rfl ⟨Nat.le_refl _, Nat.le_refl _⟩ (fun H locs hP hD hS => ?_)
        refine lv_icmp_ge (tgt := 80) hx hb dX8_lays_7 (by decide) (fun c8 => ?_) (fun c8 => ?_)
        · have hf := it_t hf c8
          have e9 := Option.some.inj hf
          rw [e9] at hP hD
          exact k_vret hx hb hr hlocks hK hP hD hS dX8_lays_80
        · have hf := it_f hf c8
          refine lv_aload_n hx hb dX8_lays_10 rfl (lv_at hl 0 rfl) ?_
          refine lv_iload_n hx hb dX8_lays_11 rfl (lv_at hl 1 rfl) ?_
          obtain ⟨vM_10, hg11, hf⟩ := o1_at hf
          refine k_vvW ⟨hx, hb, hml, hown, htu⟩ hK hP hD hS hA hG (c_X8_asksFull l g bM vM_2 x1_1 vM_10 hg11) (cwV 1 htu (gU_V mw_6_182 hcX8_asksFull) rfl rfl rfl hdX8_asksFull ⟨Nat.le_of_ble_eq_true rfl, Nat.le_of_ble_eq_true rfl⟩) (q0 := 0) (ci := 8) (fs := fcM bM vM_2) (q := (RX8, TX8, 23)) rfl rfl rfl (As := [.int x1_1]) (rest := []) rfl rfl hl.1 (Nat.le_of_ble_eq_true rfl) dX8_lays_12 (k1 := 0) (n1 := 0) rfl rfl ⟨Nat.le_refl _, Nat.le_refl _⟩ (fun H locs hP hD hS => ?_)
          refine lv_aload_n hx hb dX8_lays_15 rfl (lv_at hl 0 rfl) ?_
          refine va_get (D := g.1) (ci := 8) (fs := fcM bM vM_10) (v := .ref (bM 11)) (C := RX8) (T := TX8) (N := 23) hx hb htu hinX8 hown hK hP 0 rfl rfl 10 (by decide) k_5_82 (fun _ h9 => h9) rfl dX8_lays_16 ?_
          refine lv_sipush (v := (14336 : Int32)) hx hb dX8_lays_19 (by decide) ?_
          refine lv_iload_n hx hb dX8_lays_22 rfl (lv_at hl 1 rfl) ?_
          refine lv_iadd hx hb dX8_lays_23 ?_
          refine lv_aload_n hx hb dX8_lays_24 rfl (lv_at hl 0 rfl) ?_
          refine lv_aload_n hx hb dX8_lays_25 rfl (lv_at hl 0 rfl) ?_
          refine va_get (D := g.1) (ci := 8) (fs := fcM bM vM_10) (v := .ref (bM 8)) (C := RX8) (T := TX8) (N := 23) hx hb htu hinX8 hown hK hP 0 rfl rfl 7 (by decide) k_5_79 (fun _ h9 => h9) rfl dX8_lays_26 ?_
          obtain ⟨r12, hg13, hf⟩ := o1_at hf
          refine k_viW ⟨hx, hb, hml, hown, htu⟩ hK hP hD hS hA hG (c_X8_bitsAt_clean l g bM vM_10 r12 hg13) (cwV 1 htu (gU_V mw_6_186 hcX8_bitsAt) rfl rfl rfl hdX8_bitsAt ⟨Nat.le_of_ble_eq_true rfl, Nat.le_of_ble_eq_true rfl⟩) (q0 := 0) (ci := 8) (fs := fcM bM vM_10) (q := (RX8, TX8, 23)) rfl rfl rfl (As := [.ref (bM 8)]) (rest := [.int ((14336 : Int32) + x1_1), .ref (bM 11)]) rfl rfl hl.1 (Nat.le_of_ble_eq_true rfl) dX8_lays_29 (k1 := 0) (n1 := 0) rfl rfl ⟨Nat.le_refl _, Nat.le_refl _⟩ (fun H locs hP hD hS => ?_)
          obtain ⟨h14, hf⟩ := gd_in hf
          refine va_iast (D := g.1) (f := (vM_10.2.1 10)) hx hb hK hP hD hS 8 0 rfl rfl h14 dX8_lays_32 (fun H locs hP hD hS => ?_)
          obtain ⟨vM_15, evM_15⟩ : ∃ z, z = sI vM_10 10 (((14336 : Int32) + x1_1)).toNatClampNeg r12 := ⟨_, rfl⟩
          have hf := bn_at hf evM_15
          have hP : va_P g.1 vwCl (cM g bM vM_15) H := by rw [evM_15]; exact hP
          have hD : va_D A (cM g bM vM_15) := by rw [evM_15]; exact hD
          refine lv_iconst (v := (0 : Int32)) hx hb dX8_lays_33 (by decide) ?_
          refine lv_istore_n (lv' := [(2, .int (0 : Int32)), (0, .ref (bM 0)), (1, .int x1_1)]) hx hb dX8_lays_34 rfl hl (by decide) rfl (fun ls hl => ?_)
          have hL19 : ∀ (x2_16 : Int32) (vM_17 : Vs), lp (f_X8_lays_L35 x1_1 self3) (fun _ _ => none) FU x2_16 vM_17 = some vM1 → ∀ (H : Heap) (locs : List Loc), va_P g.1 vwCl (cM g bM vM_17) H → va_D A (cM g bM vM_17) → va_S A s.heap H locs → ∀ ls : Array Slot, lv_has ls 3 [(0, .ref (bM 0)), (1, .int x1_1), (2, .int x2_16)] → W p l e (headSpec wsX8_lays rmX8_lays).room s m ([.ref (bM 0)] : List Value).toArray below meth c H locs 0 0 (MQ below (qV g A (cM g bM vM1)) ([.ref (bM 0)] : List Value).toArray s 0 0 A) (F0 m 35 ls []) := by
            refine lp_ind (T := Int32 → Vs → Option (Vs)) (fun self18 => ∀ (x2_16 : Int32) (vM_17 : Vs), self18 x2_16 vM_17 = some vM1 → ∀ (H : Heap) (locs : List Loc), va_P g.1 vwCl (cM g bM vM_17) H → va_D A (cM g bM vM_17) → va_S A s.heap H locs → ∀ ls : Array Slot, lv_has ls 3 [(0, .ref (bM 0)), (1, .int x1_1), (2, .int x2_16)] → W p l e (headSpec wsX8_lays rmX8_lays).room s m ([.ref (bM 0)] : List Value).toArray below meth c H locs 0 0 (MQ below (qV g A (cM g bM vM1)) ([.ref (bM 0)] : List Value).toArray s 0 0 A) (F0 m 35 ls [])) ?_ ?_ FU
            · intro x2_16 vM_17 hf; cases hf
            · intro self18 ih20 x2_16 vM_17 hf H locs hP hD hS ls hl
              unfold f_X8_lays_L35 at hf
              refine lv_iload_n hx hb dX8_lays_35 rfl (lv_at hl 2 rfl) ?_
              refine lv_aload_n hx hb dX8_lays_36 rfl (lv_at hl 0 rfl) ?_
              obtain ⟨r21, hg22, hf⟩ := o1_at hf
              refine k_viW ⟨hx, hb, hml, hown, htu⟩ hK hP hD hS hA hG (c_X8_faults l g bM vM_17 r21 hg22) (cwV 0 htu (gU_V mw_6_44 hcX8_faults) rfl rfl rfl hdX8_faults ⟨Nat.le_of_ble_eq_true rfl, Nat.le_of_ble_eq_true rfl⟩) (q0 := 0) (ci := 8) (fs := fcM bM vM_17) (q := (RX8, TX8, 23)) rfl rfl rfl (As := []) (rest := [.int x2_16]) rfl rfl hl.1 (Nat.le_of_ble_eq_true rfl) dX8_lays_37 (k1 := 0) (n1 := 0) rfl rfl ⟨Nat.le_refl _, Nat.le_refl _⟩ (fun H locs hP hD hS => ?_)
              refine lv_icmp_ge (tgt := 74) hx hb dX8_lays_40 (by decide) (fun c23 => ?_) (fun c23 => ?_)
              · have hf := it_t hf c23
                refine lv_iinc (v := (x1_1 + (1 : Int32))) (lv' := [(1, .int (x1_1 + (1 : Int32))), (0, .ref (bM 0)), (2, .int x2_16)]) hx hb dX8_lays_74 hl (k := 1) rfl rfl (by decide) rfl (fun ls hl => ?_)
                refine lv_goto (tgt := 2) hx hb dX8_lays_77 (by decide) ?_
                exact ih5 (x1_1 + (1 : Int32)) vM_17 hf H locs hP hD hS _ (lv_sub hl [1, 0] rfl)
              · have hf := it_f hf c23
                refine lv_aload_n hx hb dX8_lays_43 rfl (lv_at hl 0 rfl) ?_
                refine lv_iload_n hx hb dX8_lays_44 rfl (lv_at hl 2 rfl) ?_
                obtain ⟨vM_24, hg25, hf⟩ := o1_at hf
                refine k_vvW ⟨hx, hb, hml, hown, htu⟩ hK hP hD hS hA hG (c_X8_bends l g bM vM_17 x2_16 vM_24 hg25) (cwV 1 htu (gU_V mw_6_102 hcX8_bends) rfl rfl rfl hdX8_bends ⟨Nat.le_of_ble_eq_true rfl, Nat.le_of_ble_eq_true rfl⟩) (q0 := 0) (ci := 8) (fs := fcM bM vM_17) (q := (RX8, TX8, 23)) rfl rfl rfl (As := [.int x2_16]) (rest := []) rfl rfl hl.1 (Nat.le_of_ble_eq_true rfl) dX8_lays_45 (k1 := 0) (n1 := 0) rfl rfl ⟨Nat.le_refl _, Nat.le_refl _⟩ (fun H locs hP hD hS => ?_)
                refine lv_aload_n hx hb dX8_lays_48 rfl (lv_at hl 0 rfl) ?_
                refine va_get (D := g.1) (ci := 8) (fs := fcM bM vM_24) (v := .ref (bM 11)) (C := RX8) (T := TX8) (N := 23) hx hb htu hinX8 hown hK hP 0 rfl rfl 10 (by decide) k_5_82 (fun _ h9 => h9) rfl dX8_lays_49 ?_
                refine lv_sipush (v := (256 : Int32)) hx hb dX8_lays_52 (by decide) ?_
                refine lv_iload_n hx hb dX8_lays_55 rfl (lv_at hl 2 rfl) ?_
                refine lv_imul hx hb dX8_lays_56 ?_
                refine lv_iload_n hx hb dX8_lays_57 rfl (lv_at hl 1 rfl) ?_
                refine lv_iadd hx hb dX8_lays_58 ?_
                refine lv_aload_n hx hb dX8_lays_59 rfl (lv_at hl 0 rfl) ?_
                refine lv_aload_n hx hb dX8_lays_60 rfl (lv_at hl 0 rfl) ?_
                refine va_get (D := g.1) (ci := 8) (fs := fcM bM vM_24) (v := .ref (bM 9)) (C := RX8) (T := TX8) (N := 23) hx hb htu hinX8 hown hK hP 0 rfl rfl 8 (by decide) k_5_80 (fun _ h9 => h9) rfl dX8_lays_61 ?_
                obtain ⟨r26, hg27, hf⟩ := o1_at hf
                refine k_viW ⟨hx, hb, hml, hown, htu⟩ hK hP hD hS hA hG (c_X8_bitsAt_bent l g bM vM_24 r26 hg27) (cwV 1 htu (gU_V mw_6_186 hcX8_bitsAt) rfl rfl rfl hdX8_bitsAt ⟨Nat.le_of_ble_eq_true rfl, Nat.le_of_ble_eq_true rfl⟩) (q0 := 0) (ci := 8) (fs := fcM bM vM_24) (q := (RX8, TX8, 23)) rfl rfl rfl (As := [.ref (bM 9)]) (rest := [.int (((256 : Int32) * x2_16) + x1_1), .ref (bM 11)]) rfl rfl hl.1 (Nat.le_of_ble_eq_true rfl) dX8_lays_64 (k1 := 0) (n1 := 0) rfl rfl ⟨Nat.le_refl _, Nat.le_refl _⟩ (fun H locs hP hD hS => ?_)
                obtain ⟨h28, hf⟩ := gd_in hf
                refine va_iast (D := g.1) (f := (vM_24.2.1 10)) hx hb hK hP hD hS 8 0 rfl rfl h28 dX8_lays_67 (fun H locs hP hD hS => ?_)
                obtain ⟨vM_29, evM_29⟩ : ∃ z, z = sI vM_24 10 ((((256 : Int32) * x2_16) + x1_1)).toNatClampNeg r26 := ⟨_, rfl⟩
                have hf := bn_at hf evM_29
                have hP : va_P g.1 vwCl (cM g bM vM_29) H := by rw [evM_29]; exact hP
                have hD : va_D A (cM g bM vM_29) := by rw [evM_29]; exact hD
                refine lv_iinc (v := (x2_16 + (1 : Int32))) (lv' := [(2, .int (x2_16 + (1 : Int32))), (0, .ref (bM 0)), (1, .int x1_1)]) hx hb dX8_lays_68 hl (k := 2) rfl rfl (by decide) rfl (fun ls hl => ?_)
                refine lv_goto (tgt := 35) hx hb dX8_lays_71 (by decide) ?_
                exact ih20 (x2_16 + (1 : Int32)) vM_29 hf H locs hP hD hS _ (lv_sub hl [1, 2, 0] rfl)
          exact hL19 (0 : Int32) vM_15 hf H locs hP hD hS _ (lv_sub hl [1, 2, 0] rfl)
    exact hL4 (0 : Int32) vM hf H locs hP hD hS _ (lv_sub hl [1, 0] rfl)
  rw [hH, hlo] at hW
  exact hW
def f_X8_between_L2 (vM : Vs) (x1 : Int32) (x2 : Int32) (self2 : Int32 → Option (Int32)) (x3_1 : Int32) : Option (Int32) :=
  o1 (f_X8_fulls vM) (fun (r5 : Int32) => if r5 ≤ x3_1 then some ((-1 : Int32)) else gd (inb (((256 : Int32) * x1) + x3_1) 14592) (gd (inb (((256 : Int32) * x2) + x3_1) 14592) (if (vM.2.1 10 ((((256 : Int32) * x1) + x3_1)).toNatClampNeg) = (vM.2.1 10 ((((256 : Int32) * x2) + x3_1)).toNatClampNeg) then self2 (x3_1 + (1 : Int32)) else some (x3_1))))
def f_X8_between (vM : Vs) (x1 : Int32) (x2 : Int32) : Option (Int32) :=
  lp (f_X8_between_L2 vM x1 x2) (fun _ => none) FU (0 : Int32)
abbrev wsX8_between : List Cond := .code yX8_between cX8_between 4 (some .int) :: UW
abbrev rmX8_between : Room := { frames := 3, cells := 0, slots := 0, locals := 61 }
set_option maxHeartbeats 4000000 in
set_option maxRecDepth 100000 in
theorem c_X8_between (l : Launch) (g : Gx) (bM : Nat → Nat) (vM : Vs) (x1 : Int32) (x2 : Int32) (r : Int32) (hf : f_X8_between vM x1 x2 = some r) : CtI l yX8_between wsX8_between rmX8_between g [.ref (bM 0), .int x1, .int x2] (cM g bM vM) (cM g bM vM) r 0 0 := by
  unfold CtI
  intro sz
  refine Met.ofW (cc := cX8_between) (maxL := 4) (ret := (some .int)) (by decide) rfl ?_
  intro p e s m args below meth c s₁ B hml hv
  obtain ⟨rfl, hsz, hP, hK, hD0, hG⟩ := hv
  have hx := B.exec
  have hb := B.bytes
  have hr := B.returns
  have hts := atoms_spec (ws := wsX8_between) B.pre
  have hown : s.vm.findClass RX8 = some m.cls := findClass_of_methodNamed B.named
  have hlocks := B.notSynchronized
  subst hsz
  have hD := hD0.self (sz := s.heap.size)
  generalize hAe : va_A (cM g bM vM) s.heap.size = A at hD hG ⊢
  have hA : ∀ q : Nat, s.heap.size ≤ q → A q := fun q h => by rw [← hAe]; exact Or.inr h
  clear hAe hD0
  have hS : va_S A s.heap s.heap [] := va_S.rf
  have hl := lv_entry ([.ref (bM 0), .int x1, .int x2]) (n := 4) (Nat.le_of_ble_eq_true rfl)
  rw [lg_entry_eq]
  generalize (lg_sl ([.ref (bM 0), .int x1, .int x2]) ++ List.replicate (4 - (lg_sl ([.ref (bM 0), .int x1, .int x2])).length) Slot.unset).toArray = ls at hl ⊢
  have hl : lv_has ls 4 [(0, .ref (bM 0)), (1, .int x1), (2, .int x2)] := hl
  have htu : ∀ w ∈ UW, w.before _ s = true := fun w h => hts w (List.mem_cons_of_mem _ h)
  have k_5_82 := htu _ mw_5_82
  unfold f_X8_between at hf
  obtain ⟨H, hH⟩ : ∃ z, z = s.heap := ⟨_, rfl⟩
  obtain ⟨locs, hlo⟩ : ∃ z : List Loc, z = [] := ⟨_, rfl⟩
  have hS : va_S A s.heap H locs := by rw [hH, hlo]; exact hS
  rw [← hH] at hP
  have hW : W p l e (headSpec wsX8_between rmX8_between).room s m ([.ref (bM 0), .int x1, .int x2] : List Value).toArray below meth c H locs 0 0 (MQ below (qI g A (cM g bM vM) r) ([.ref (bM 0), .int x1, .int x2] : List Value).toArray s 0 0 A) (F0 m 0 ls []) := by
    refine lv_iconst (v := (0 : Int32)) hx hb dX8_between_0 (by decide) ?_
    refine lv_istore_n (lv' := [(3, .int (0 : Int32)), (0, .ref (bM 0)), (1, .int x1), (2, .int x2)]) hx hb dX8_between_1 rfl hl (by decide) rfl (fun ls hl => ?_)
    have hL3 : ∀ (x3_1 : Int32), lp (f_X8_between_L2 vM x1 x2) (fun _ => none) FU x3_1 = some r → ∀ (H : Heap) (locs : List Loc), va_P g.1 vwCl (cM g bM vM) H → va_D A (cM g bM vM) → va_S A s.heap H locs → ∀ ls : Array Slot, lv_has ls 4 [(0, .ref (bM 0)), (1, .int x1), (2, .int x2), (3, .int x3_1)] → W p l e (headSpec wsX8_between rmX8_between).room s m ([.ref (bM 0), .int x1, .int x2] : List Value).toArray below meth c H locs 0 0 (MQ below (qI g A (cM g bM vM) r) ([.ref (bM 0), .int x1, .int x2] : List Value).toArray s 0 0 A) (F0 m 2 ls []) := by
      refine lp_ind (T := Int32 → Option (Int32)) (fun self2 => ∀ (x3_1 : Int32), self2 x3_1 = some r → ∀ (H : Heap) (locs : List Loc), va_P g.1 vwCl (cM g bM vM) H → va_D A (cM g bM vM) → va_S A s.heap H locs → ∀ ls : Array Slot, lv_has ls 4 [(0, .ref (bM 0)), (1, .int x1), (2, .int x2), (3, .int x3_1)] → W p l e (headSpec wsX8_between rmX8_between).room s m ([.ref (bM 0), .int x1, .int x2] : List Value).toArray below meth c H locs 0 0 (MQ below (qI g A (cM g bM vM) r) ([.ref (bM 0), .int x1, .int x2] : List Value).toArray s 0 0 A) (F0 m 2 ls [])) ?_ ?_ FU
      · intro x3_1 hf; cases hf
      · intro self2 ih4 x3_1 hf H locs hP hD hS ls hl
        unfold f_X8_between_L2 at hf
        refine lv_iload_n hx hb dX8_between_2 rfl (lv_at hl 3 rfl) ?_
        refine lv_aload_n hx hb dX8_between_3 rfl (lv_at hl 0 rfl) ?_
        obtain ⟨r5, hg6, hf⟩ := o1_at hf
        refine k_viW ⟨hx, hb, hml, hown, htu⟩ hK hP hD hS hA hG (c_X8_fulls l g bM vM r5 hg6) (cwV 0 htu (gU_V mw_6_178 hcX8_fulls) rfl rfl rfl hdX8_fulls ⟨Nat.le_of_ble_eq_true rfl, Nat.le_of_ble_eq_true rfl⟩) (q0 := 0) (ci := 8) (fs := fcM bM vM) (q := (RX8, TX8, 23)) rfl rfl rfl (As := []) (rest := [.int x3_1]) rfl rfl hl.1 (Nat.le_of_ble_eq_true rfl) dX8_between_4 (k1 := 0) (n1 := 0) rfl rfl ⟨Nat.le_refl _, Nat.le_refl _⟩ (fun H locs hP hD hS => ?_)
        refine lv_icmp_ge (tgt := 45) hx hb dX8_between_7 (by decide) (fun c7 => ?_) (fun c7 => ?_)
        · have hf := it_t hf c7
          refine lv_iconst (v := (-1 : Int32)) hx hb dX8_between_45 (by decide) ?_
          have e8 := Option.some.inj hf
          exact k_iret hx hb hr hlocks hK hP hD hS e8 dX8_between_46
        · have hf := it_f hf c7
          refine lv_aload_n hx hb dX8_between_10 rfl (lv_at hl 0 rfl) ?_
          refine va_get (D := g.1) (ci := 8) (fs := fcM bM vM) (v := .ref (bM 11)) (C := RX8) (T := TX8) (N := 23) hx hb htu hinX8 hown hK hP 0 rfl rfl 10 (by decide) k_5_82 (fun _ h9 => h9) rfl dX8_between_11 ?_
          refine lv_sipush (v := (256 : Int32)) hx hb dX8_between_14 (by decide) ?_
          refine lv_iload_n hx hb dX8_between_17 rfl (lv_at hl 1 rfl) ?_
          refine lv_imul hx hb dX8_between_18 ?_
          refine lv_iload_n hx hb dX8_between_19 rfl (lv_at hl 3 rfl) ?_
          refine lv_iadd hx hb dX8_between_20 ?_
          obtain ⟨h9, hf⟩ := gd_in hf
          refine va_iald (D := g.1) (f := (vM.2.1 10)) hx hb hK hP 8 0 rfl rfl h9 dX8_between_21 ?_
          refine lv_aload_n hx hb dX8_between_22 rfl (lv_at hl 0 rfl) ?_
          refine va_get (D := g.1) (ci := 8) (fs := fcM bM vM) (v := .ref (bM 11)) (C := RX8) (T := TX8) (N := 23) hx hb htu hinX8 hown hK hP 0 rfl rfl 10 (by decide) k_5_82 (fun _ h9 => h9) rfl dX8_between_23 ?_
          refine lv_sipush (v := (256 : Int32)) hx hb dX8_between_26 (by decide) ?_
          refine lv_iload_n hx hb dX8_between_29 rfl (lv_at hl 2 rfl) ?_
          refine lv_imul hx hb dX8_between_30 ?_
          refine lv_iload_n hx hb dX8_between_31 rfl (lv_at hl 3 rfl) ?_
          refine lv_iadd hx hb dX8_between_32 ?_
          obtain ⟨h10, hf⟩ := gd_in hf
          refine va_iald (D := g.1) (f := (vM.2.1 10)) hx hb hK hP 8 0 rfl rfl h10 dX8_between_33 ?_
          refine lv_icmp_eq (tgt := 39) hx hb dX8_between_34 (by decide) (fun c11 => ?_) (fun c11 => ?_)
          · have hf := it_t hf c11
            refine lv_iinc (v := (x3_1 + (1 : Int32))) (lv' := [(3, .int (x3_1 + (1 : Int32))), (0, .ref (bM 0)), (1, .int x1), (2, .int x2)]) hx hb dX8_between_39 hl (k := 3) rfl rfl (by decide) rfl (fun ls hl => ?_)
            refine lv_goto (tgt := 2) hx hb dX8_between_42 (by decide) ?_
            exact ih4 (x3_1 + (1 : Int32)) hf H locs hP hD hS _ (lv_sub hl [1, 2, 3, 0] rfl)
          · have hf := it_f hf c11
            refine lv_iload_n hx hb dX8_between_37 rfl (lv_at hl 3 rfl) ?_
            have e12 := Option.some.inj hf
            exact k_iret hx hb hr hlocks hK hP hD hS e12 dX8_between_38
    exact hL3 (0 : Int32) hf H locs hP hD hS _ (lv_sub hl [1, 2, 3, 0] rfl)
  rw [hH, hlo] at hW
  exact hW
def f_X8_isHidden (vM : Vs) (x1 : Int32) : Option (Int32) :=
  o1 (f_X8_between vM x1 (56 : Int32)) (fun (r1 : Int32) => jn (fun (t3 : Int32) => gd (isB t3) (some (t3))) (fun k4 => if r1 = (-1 : Int32) then k4 (1 : Int32) else k4 (0 : Int32)))
abbrev wsX8_isHidden : List Cond := .code yX8_isHidden cX8_isHidden 2 (some .boolean) :: UW
abbrev rmX8_isHidden : Room := { frames := 4, cells := 0, slots := 0, locals := 84 }
set_option maxHeartbeats 4000000 in
set_option maxRecDepth 100000 in
theorem c_X8_isHidden (l : Launch) (g : Gx) (bM : Nat → Nat) (vM : Vs) (x1 : Int32) (r : Int32) (hf : f_X8_isHidden vM x1 = some r) : CtI l yX8_isHidden wsX8_isHidden rmX8_isHidden g [.ref (bM 0), .int x1] (cM g bM vM) (cM g bM vM) r 0 0 := by
  unfold CtI
  intro sz
  refine Met.ofW (cc := cX8_isHidden) (maxL := 2) (ret := (some .boolean)) (by decide) rfl ?_
  intro p e s m args below meth c s₁ B hml hv
  obtain ⟨rfl, hsz, hP, hK, hD0, hG⟩ := hv
  have hx := B.exec
  have hb := B.bytes
  have hr := B.returns
  have hts := atoms_spec (ws := wsX8_isHidden) B.pre
  have hown : s.vm.findClass RX8 = some m.cls := findClass_of_methodNamed B.named
  have hlocks := B.notSynchronized
  subst hsz
  have hD := hD0.self (sz := s.heap.size)
  generalize hAe : va_A (cM g bM vM) s.heap.size = A at hD hG ⊢
  have hA : ∀ q : Nat, s.heap.size ≤ q → A q := fun q h => by rw [← hAe]; exact Or.inr h
  clear hAe hD0
  have hS : va_S A s.heap s.heap [] := va_S.rf
  have hl := lv_entry ([.ref (bM 0), .int x1]) (n := 2) (Nat.le_of_ble_eq_true rfl)
  rw [lg_entry_eq]
  generalize (lg_sl ([.ref (bM 0), .int x1]) ++ List.replicate (2 - (lg_sl ([.ref (bM 0), .int x1])).length) Slot.unset).toArray = ls at hl ⊢
  have hl : lv_has ls 2 [(0, .ref (bM 0)), (1, .int x1)] := hl
  have htu : ∀ w ∈ UW, w.before _ s = true := fun w h => hts w (List.mem_cons_of_mem _ h)
  unfold f_X8_isHidden at hf
  obtain ⟨H, hH⟩ : ∃ z, z = s.heap := ⟨_, rfl⟩
  obtain ⟨locs, hlo⟩ : ∃ z : List Loc, z = [] := ⟨_, rfl⟩
  have hS : va_S A s.heap H locs := by rw [hH, hlo]; exact hS
  rw [← hH] at hP
  have hW : W p l e (headSpec wsX8_isHidden rmX8_isHidden).room s m ([.ref (bM 0), .int x1] : List Value).toArray below meth c H locs 0 0 (MQ below (qI g A (cM g bM vM) r) ([.ref (bM 0), .int x1] : List Value).toArray s 0 0 A) (F0 m 0 ls []) := by
    refine lv_aload_n hx hb dX8_isHidden_0 rfl (lv_at hl 0 rfl) ?_
    refine lv_iload_n hx hb dX8_isHidden_1 rfl (lv_at hl 1 rfl) ?_
    refine lv_bipush (v := (56 : Int32)) hx hb dX8_isHidden_2 (by decide) ?_
    obtain ⟨r1, hg2, hf⟩ := o1_at hf
    refine k_viW ⟨hx, hb, hml, hown, htu⟩ hK hP hD hS hA hG (c_X8_between l g bM vM x1 (56 : Int32) r1 hg2) (cwV 2 htu (gU_V mw_6_190 hcX8_between) rfl rfl rfl hdX8_between ⟨Nat.le_of_ble_eq_true rfl, Nat.le_of_ble_eq_true rfl⟩) (q0 := 0) (ci := 8) (fs := fcM bM vM) (q := (RX8, TX8, 23)) rfl rfl rfl (As := [.int x1, .int (56 : Int32)]) (rest := []) rfl rfl hl.1 (Nat.le_of_ble_eq_true rfl) dX8_isHidden_4 (k1 := 0) (n1 := 0) rfl rfl ⟨Nat.le_refl _, Nat.le_refl _⟩ (fun H locs hP hD hS => ?_)
    refine lv_iconst (v := (-1 : Int32)) hx hb dX8_isHidden_7 (by decide) ?_
    obtain ⟨k4, hk8, hf⟩ := jn_at hf
    have hJ5 : ∀ (t3 : Int32), k4 t3 = some r → ∀ (H : Heap) (locs : List Loc), va_P g.1 vwCl (cM g bM vM) H → va_D A (cM g bM vM) → va_S A s.heap H locs → ∀ ls : Array Slot, lv_has ls 2 [] → W p l e (headSpec wsX8_isHidden rmX8_isHidden).room s m ([.ref (bM 0), .int x1] : List Value).toArray below meth c H locs 0 0 (MQ below (qI g A (cM g bM vM) r) ([.ref (bM 0), .int x1] : List Value).toArray s 0 0 A) (F0 m 16 ls [.int t3]) := by
      intro t3 hf H locs hP hD hS ls hl
      rw [hk8] at hf
      dsimp only at hf
      clear hk8
      obtain ⟨h6, hf⟩ := gd_isB hf
      have e7 := Option.some.inj hf
      exact k_zret hx hb hr hlocks hK hP hD hS e7 h6 dX8_isHidden_16
    refine lv_icmp_ne (tgt := 15) hx hb dX8_isHidden_8 (by decide) (fun c9 => ?_) (fun c9 => ?_)
    · have hf := it_f hf c9
      refine lv_iconst (v := (0 : Int32)) hx hb dX8_isHidden_15 (by decide) ?_
      exact hJ5 (0 : Int32) hf H locs hP hD hS _ (lv_sub hl [] rfl)
    · have hf := it_t hf c9
      refine lv_iconst (v := (1 : Int32)) hx hb dX8_isHidden_11 (by decide) ?_
      refine lv_goto (tgt := 16) hx hb dX8_isHidden_12 (by decide) ?_
      exact hJ5 (1 : Int32) hf H locs hP hD hS _ (lv_sub hl [] rfl)
  rw [hH, hlo] at hW
  exact hW
def f_X8_four_L3 (x1 : Int32) (self3 : Int32 → Vs → Option (Vs)) (x2_1 : Int32) (vM_2 : Vs) : Option (Vs) :=
  if x2_1 < 0 then some (vM_2) else gd (inb (vM_2.1 12) 800) (bn (sI vM_2 11 ((vM_2.1 12)).toNatClampNeg ((x1 >>> (x2_1 &&& 31)) &&& (255 : Int32))) (fun (vM_9 : Vs) => bn (sF vM_9 12 ((vM_9.1 12) + (1 : Int32))) (fun (vM_10 : Vs) => self3 (x2_1 + (-8 : Int32)) vM_10)))
def f_X8_four (vM : Vs) (x1 : Int32) : Option (Vs) :=
  lp (f_X8_four_L3 x1) (fun _ _ => none) FU (24 : Int32) vM
abbrev wsX8_four : List Cond := .code yX8_four cX8_four 3 none :: UW
abbrev rmX8_four : Room := { frames := 0, cells := 0, slots := 0, locals := 0 }
set_option maxHeartbeats 4000000 in
set_option maxRecDepth 100000 in
theorem c_X8_four (l : Launch) (g : Gx) (bM : Nat → Nat) (vM : Vs) (x1 : Int32) (vM1 : Vs) (hf : f_X8_four vM x1 = some vM1) : CtV l yX8_four wsX8_four rmX8_four g [.ref (bM 0), .int x1] (cM g bM vM) (cM g bM vM1) 0 0 := by
  unfold CtV
  intro sz
  refine Met.ofW (cc := cX8_four) (maxL := 3) (ret := none) (by decide) rfl ?_
  intro p e s m args below meth c s₁ B hml hv
  obtain ⟨rfl, hsz, hP, hK, hD0, hG⟩ := hv
  have hx := B.exec
  have hb := B.bytes
  have hr := B.returns
  have hts := atoms_spec (ws := wsX8_four) B.pre
  have hown : s.vm.findClass RX8 = some m.cls := findClass_of_methodNamed B.named
  have hlocks := B.notSynchronized
  subst hsz
  have hD := hD0.self (sz := s.heap.size)
  generalize hAe : va_A (cM g bM vM) s.heap.size = A at hD hG ⊢
  have hA : ∀ q : Nat, s.heap.size ≤ q → A q := fun q h => by rw [← hAe]; exact Or.inr h
  clear hAe hD0
  have hS : va_S A s.heap s.heap [] := va_S.rf
  have hl := lv_entry ([.ref (bM 0), .int x1]) (n := 3) (Nat.le_of_ble_eq_true rfl)
  rw [lg_entry_eq]
  generalize (lg_sl ([.ref (bM 0), .int x1]) ++ List.replicate (3 - (lg_sl ([.ref (bM 0), .int x1])).length) Slot.unset).toArray = ls at hl ⊢
  have hl : lv_has ls 3 [(0, .ref (bM 0)), (1, .int x1)] := hl
  have htu : ∀ w ∈ UW, w.before _ s = true := fun w h => hts w (List.mem_cons_of_mem _ h)
  have k_5_83 := htu _ mw_5_83
  have k_5_84 := htu _ mw_5_84
  unfold f_X8_four at hf
  obtain ⟨H, hH⟩ : ∃ z, z = s.heap := ⟨_, rfl⟩
  obtain ⟨locs, hlo⟩ : ∃ z : List Loc, z = [] := ⟨_, rfl⟩
  have hS : va_S A s.heap H locs := by rw [hH, hlo]; exact hS
  rw [← hH] at hP
  have hW : W p l e (headSpec wsX8_four rmX8_four).room s m ([.ref (bM 0), .int x1] : List Value).toArray below meth c H locs 0 0 (MQ below (qV g A (cM g bM vM1)) ([.ref (bM 0), .int x1] : List Value).toArray s 0 0 A) (F0 m 0 ls []) := by
    refine lv_bipush (v := (24 : Int32)) hx hb dX8_four_0 (by decide) ?_
    refine lv_istore_n (lv' := [(2, .int (24 : Int32)), (0, .ref (bM 0)), (1, .int x1)]) hx hb dX8_four_2 rfl hl (by decide) rfl (fun ls hl => ?_)
    have hL4 : ∀ (x2_1 : Int32) (vM_2 : Vs), lp (f_X8_four_L3 x1) (fun _ _ => none) FU x2_1 vM_2 = some vM1 → ∀ (H : Heap) (locs : List Loc), va_P g.1 vwCl (cM g bM vM_2) H → va_D A (cM g bM vM_2) → va_S A s.heap H locs → ∀ ls : Array Slot, lv_has ls 3 [(0, .ref (bM 0)), (1, .int x1), (2, .int x2_1)] → W p l e (headSpec wsX8_four rmX8_four).room s m ([.ref (bM 0), .int x1] : List Value).toArray below meth c H locs 0 0 (MQ below (qV g A (cM g bM vM1)) ([.ref (bM 0), .int x1] : List Value).toArray s 0 0 A) (F0 m 3 ls []) := by
      refine lp_ind (T := Int32 → Vs → Option (Vs)) (fun self3 => ∀ (x2_1 : Int32) (vM_2 : Vs), self3 x2_1 vM_2 = some vM1 → ∀ (H : Heap) (locs : List Loc), va_P g.1 vwCl (cM g bM vM_2) H → va_D A (cM g bM vM_2) → va_S A s.heap H locs → ∀ ls : Array Slot, lv_has ls 3 [(0, .ref (bM 0)), (1, .int x1), (2, .int x2_1)] → W p l e (headSpec wsX8_four rmX8_four).room s m ([.ref (bM 0), .int x1] : List Value).toArray below meth c H locs 0 0 (MQ below (qV g A (cM g bM vM1)) ([.ref (bM 0), .int x1] : List Value).toArray s 0 0 A) (F0 m 3 ls [])) ?_ ?_ FU
      · intro x2_1 vM_2 hf; cases hf
      · intro self3 ih5 x2_1 vM_2 hf H locs hP hD hS ls hl
        unfold f_X8_four_L3 at hf
        refine lv_iload_n hx hb dX8_four_3 rfl (lv_at hl 2 rfl) ?_
        refine lv_if_lt (tgt := 39) hx hb dX8_four_4 (by decide) (fun c6 => ?_) (fun c6 => ?_)
        · have hf := it_t hf c6
          have e7 := Option.some.inj hf
          rw [e7] at hP hD
          exact k_vret hx hb hr hlocks hK hP hD hS dX8_four_39
        · have hf := it_f hf c6
          refine lv_aload_n hx hb dX8_four_7 rfl (lv_at hl 0 rfl) ?_
          refine va_get (D := g.1) (ci := 8) (fs := fcM bM vM_2) (v := .ref (bM 12)) (C := RX8) (T := TX8) (N := 23) hx hb htu hinX8 hown hK hP 0 rfl rfl 11 (by decide) k_5_83 (fun _ h9 => h9) rfl dX8_four_8 ?_
          refine lv_aload_n hx hb dX8_four_11 rfl (lv_at hl 0 rfl) ?_
          refine va_get (D := g.1) (ci := 8) (fs := fcM bM vM_2) (v := .int (vM_2.1 12)) (C := RX8) (T := TX8) (N := 23) hx hb htu hinX8 hown hK hP 0 rfl rfl 12 (by decide) k_5_84 (fun _ h9 => h9) rfl dX8_four_12 ?_
          refine lv_iload_n hx hb dX8_four_15 rfl (lv_at hl 1 rfl) ?_
          refine lv_iload_n hx hb dX8_four_16 rfl (lv_at hl 2 rfl) ?_
          refine lv_ishr hx hb dX8_four_17 ?_
          refine lv_sipush (v := (255 : Int32)) hx hb dX8_four_18 (by decide) ?_
          refine lv_iand hx hb dX8_four_21 ?_
          obtain ⟨h8, hf⟩ := gd_in hf
          refine va_iast (D := g.1) (f := (vM_2.2.1 11)) hx hb hK hP hD hS 9 0 rfl rfl h8 dX8_four_22 (fun H locs hP hD hS => ?_)
          obtain ⟨vM_9, evM_9⟩ : ∃ z, z = sI vM_2 11 ((vM_2.1 12)).toNatClampNeg ((x1 >>> (x2_1 &&& 31)) &&& (255 : Int32)) := ⟨_, rfl⟩
          have hf := bn_at hf evM_9
          have hP : va_P g.1 vwCl (cM g bM vM_9) H := by rw [evM_9]; exact hP
          have hD : va_D A (cM g bM vM_9) := by rw [evM_9]; exact hD
          refine lv_aload_n hx hb dX8_four_23 rfl (lv_at hl 0 rfl) ?_
          refine lv_dup hx hb dX8_four_24 rfl ?_
          refine va_get (D := g.1) (ci := 8) (fs := fcM bM vM_9) (v := .int (vM_9.1 12)) (C := RX8) (T := TX8) (N := 23) hx hb htu hinX8 hown hK hP 0 rfl rfl 12 (by decide) k_5_84 (fun _ h9 => h9) rfl dX8_four_25 ?_
          refine lv_iconst (v := (1 : Int32)) hx hb dX8_four_28 (by decide) ?_
          refine lv_iadd hx hb dX8_four_29 ?_
          refine va_put (D := g.1) (ci := 8) (fs := fcM bM vM_9) (v := .int ((vM_9.1 12) + (1 : Int32))) (ty := .int) (C := RX8) (T := TX8) (N := 23) hx hb htu hinX8 tyX8 tyX8_ok nmX8 hown hK hP hD hS 0 rfl rfl 12 (by decide) k_5_84 (fun _ h9 => h9) rfl (by decide +kernel) rfl rfl (Nat.le_of_ble_eq_true rfl) dX8_four_30 (fun H locs hP hD hS => ?_)
          obtain ⟨vM_10, evM_10⟩ : ∃ z, z = sF vM_9 12 ((vM_9.1 12) + (1 : Int32)) := ⟨_, rfl⟩
          have hf := bn_at hf evM_10
          have hP : va_P g.1 vwCl (cM g bM vM_10) H := by rw [evM_10]; exact hP
          have hD : va_D A (cM g bM vM_10) := by rw [evM_10]; exact hD
          refine lv_iinc (v := (x2_1 + (-8 : Int32))) (lv' := [(2, .int (x2_1 + (-8 : Int32))), (0, .ref (bM 0)), (1, .int x1)]) hx hb dX8_four_33 hl (k := 2) rfl rfl (by decide) rfl (fun ls hl => ?_)
          refine lv_goto (tgt := 3) hx hb dX8_four_36 (by decide) ?_
          exact ih5 (x2_1 + (-8 : Int32)) vM_10 hf H locs hP hD hS _ (lv_sub hl [1, 2, 0] rfl)
    exact hL4 (24 : Int32) vM hf H locs hP hD hS _ (lv_sub hl [1, 2, 0] rfl)
  rw [hH, hlo] at hW
  exact hW
def f_X8_append (vM : Vs) (x1 : Int32) (x2 : Int32) (x3 : Int32) (x4 : Int32) (x5 : Int32) : Option (Int32 × Vs) :=
  bn (sF vM 0 (0 : Int32)) (fun (vM_1 : Vs) => if ((vM_1.1 12) + (20 : Int32)) ≤ (800 : Int32) then o1 (f_X8_four vM_1 x1) (fun (vM_3 : Vs) => o1 (f_X8_four vM_3 x2) (fun (vM_5 : Vs) => o1 (f_X8_four vM_5 x3) (fun (vM_7 : Vs) => o1 (f_X8_four vM_7 x4) (fun (vM_9 : Vs) => o1 (f_X8_four vM_9 x5) (fun (vM_11 : Vs) => some ((vM_11.1 12), vM_11)))))) else some ((-1 : Int32), vM_1))
abbrev wsX8_append : List Cond := .code yX8_append cX8_append 6 (some .int) :: UW
abbrev rmX8_append : Room := { frames := 1, cells := 0, slots := 0, locals := 22 }
set_option maxHeartbeats 4000000 in
set_option maxRecDepth 100000 in
theorem c_X8_append (l : Launch) (g : Gx) (bM : Nat → Nat) (vM : Vs) (x1 : Int32) (x2 : Int32) (x3 : Int32) (x4 : Int32) (x5 : Int32) (r : Int32) (vM1 : Vs) (hf : f_X8_append vM x1 x2 x3 x4 x5 = some (r, vM1)) : CtI l yX8_append wsX8_append rmX8_append g [.ref (bM 0), .int x1, .int x2, .int x3, .int x4, .int x5] (cM g bM vM) (cM g bM vM1) r 0 0 := by
  unfold CtI
  intro sz
  refine Met.ofW (cc := cX8_append) (maxL := 6) (ret := (some .int)) (by decide) rfl ?_
  intro p e s m args below meth c s₁ B hml hv
  obtain ⟨rfl, hsz, hP, hK, hD0, hG⟩ := hv
  have hx := B.exec
  have hb := B.bytes
  have hr := B.returns
  have hts := atoms_spec (ws := wsX8_append) B.pre
  have hown : s.vm.findClass RX8 = some m.cls := findClass_of_methodNamed B.named
  have hlocks := B.notSynchronized
  subst hsz
  have hD := hD0.self (sz := s.heap.size)
  generalize hAe : va_A (cM g bM vM) s.heap.size = A at hD hG ⊢
  have hA : ∀ q : Nat, s.heap.size ≤ q → A q := fun q h => by rw [← hAe]; exact Or.inr h
  clear hAe hD0
  have hS : va_S A s.heap s.heap [] := va_S.rf
  have hl := lv_entry ([.ref (bM 0), .int x1, .int x2, .int x3, .int x4, .int x5]) (n := 6) (Nat.le_of_ble_eq_true rfl)
  rw [lg_entry_eq]
  generalize (lg_sl ([.ref (bM 0), .int x1, .int x2, .int x3, .int x4, .int x5]) ++ List.replicate (6 - (lg_sl ([.ref (bM 0), .int x1, .int x2, .int x3, .int x4, .int x5])).length) Slot.unset).toArray = ls at hl ⊢
  have hl : lv_has ls 6 [(0, .ref (bM 0)), (1, .int x1), (2, .int x2), (3, .int x3), (4, .int x4), (5, .int x5)] := hl
  have htu : ∀ w ∈ UW, w.before _ s = true := fun w h => hts w (List.mem_cons_of_mem _ h)
  have k_5_72 := htu _ mw_5_72
  have k_5_84 := htu _ mw_5_84
  unfold f_X8_append at hf
  obtain ⟨H, hH⟩ : ∃ z, z = s.heap := ⟨_, rfl⟩
  obtain ⟨locs, hlo⟩ : ∃ z : List Loc, z = [] := ⟨_, rfl⟩
  have hS : va_S A s.heap H locs := by rw [hH, hlo]; exact hS
  rw [← hH] at hP
  have hW : W p l e (headSpec wsX8_append rmX8_append).room s m ([.ref (bM 0), .int x1, .int x2, .int x3, .int x4, .int x5] : List Value).toArray below meth c H locs 0 0 (MQ below (qI g A (cM g bM vM1) r) ([.ref (bM 0), .int x1, .int x2, .int x3, .int x4, .int x5] : List Value).toArray s 0 0 A) (F0 m 0 ls []) := by
    refine lv_aload_n hx hb dX8_append_0 rfl (lv_at hl 0 rfl) ?_
    refine lv_iconst (v := (0 : Int32)) hx hb dX8_append_1 (by decide) ?_
    refine va_put (D := g.1) (ci := 8) (fs := fcM bM vM) (v := .int (0 : Int32)) (ty := .int) (C := RX8) (T := TX8) (N := 23) hx hb htu hinX8 tyX8 tyX8_ok nmX8 hown hK hP hD hS 0 rfl rfl 0 (by decide) k_5_72 (fun _ h9 => h9) rfl (by decide +kernel) rfl rfl (Nat.le_of_ble_eq_true rfl) dX8_append_2 (fun H locs hP hD hS => ?_)
    obtain ⟨vM_1, evM_1⟩ : ∃ z, z = sF vM 0 (0 : Int32) := ⟨_, rfl⟩
    have hf := bn_at hf evM_1
    have hP : va_P g.1 vwCl (cM g bM vM_1) H := by rw [evM_1]; exact hP
    have hD : va_D A (cM g bM vM_1) := by rw [evM_1]; exact hD
    refine lv_aload_n hx hb dX8_append_5 rfl (lv_at hl 0 rfl) ?_
    refine va_get (D := g.1) (ci := 8) (fs := fcM bM vM_1) (v := .int (vM_1.1 12)) (C := RX8) (T := TX8) (N := 23) hx hb htu hinX8 hown hK hP 0 rfl rfl 12 (by decide) k_5_84 (fun _ h9 => h9) rfl dX8_append_6 ?_
    refine lv_bipush (v := (20 : Int32)) hx hb dX8_append_9 (by decide) ?_
    refine lv_iadd hx hb dX8_append_11 ?_
    refine lv_sipush (v := (800 : Int32)) hx hb dX8_append_12 (by decide) ?_
    refine lv_icmp_le (tgt := 20) hx hb dX8_append_15 (by decide) (fun c2 => ?_) (fun c2 => ?_)
    · have hf := it_t hf c2
      refine lv_aload_n hx hb dX8_append_20 rfl (lv_at hl 0 rfl) ?_
      refine lv_iload_n hx hb dX8_append_21 rfl (lv_at hl 1 rfl) ?_
      obtain ⟨vM_3, hg4, hf⟩ := o1_at hf
      refine k_vvW ⟨hx, hb, hml, hown, htu⟩ hK hP hD hS hA hG (c_X8_four l g bM vM_1 x1 vM_3 hg4) (cwV 1 htu (gU_V mw_5_151 hcX8_four) rfl rfl rfl hdX8_four ⟨Nat.le_of_ble_eq_true rfl, Nat.le_of_ble_eq_true rfl⟩) (q0 := 0) (ci := 8) (fs := fcM bM vM_1) (q := (RX8, TX8, 23)) rfl rfl rfl (As := [.int x1]) (rest := []) rfl rfl hl.1 (Nat.le_of_ble_eq_true rfl) dX8_append_22 (k1 := 0) (n1 := 0) rfl rfl ⟨Nat.le_refl _, Nat.le_refl _⟩ (fun H locs hP hD hS => ?_)
      refine lv_aload_n hx hb dX8_append_25 rfl (lv_at hl 0 rfl) ?_
      refine lv_iload_n hx hb dX8_append_26 rfl (lv_at hl 2 rfl) ?_
      obtain ⟨vM_5, hg6, hf⟩ := o1_at hf
      refine k_vvW ⟨hx, hb, hml, hown, htu⟩ hK hP hD hS hA hG (c_X8_four l g bM vM_3 x2 vM_5 hg6) (cwV 1 htu (gU_V mw_5_151 hcX8_four) rfl rfl rfl hdX8_four ⟨Nat.le_of_ble_eq_true rfl, Nat.le_of_ble_eq_true rfl⟩) (q0 := 0) (ci := 8) (fs := fcM bM vM_3) (q := (RX8, TX8, 23)) rfl rfl rfl (As := [.int x2]) (rest := []) rfl rfl hl.1 (Nat.le_of_ble_eq_true rfl) dX8_append_27 (k1 := 0) (n1 := 0) rfl rfl ⟨Nat.le_refl _, Nat.le_refl _⟩ (fun H locs hP hD hS => ?_)
      refine lv_aload_n hx hb dX8_append_30 rfl (lv_at hl 0 rfl) ?_
      refine lv_iload_n hx hb dX8_append_31 rfl (lv_at hl 3 rfl) ?_
      obtain ⟨vM_7, hg8, hf⟩ := o1_at hf
      refine k_vvW ⟨hx, hb, hml, hown, htu⟩ hK hP hD hS hA hG (c_X8_four l g bM vM_5 x3 vM_7 hg8) (cwV 1 htu (gU_V mw_5_151 hcX8_four) rfl rfl rfl hdX8_four ⟨Nat.le_of_ble_eq_true rfl, Nat.le_of_ble_eq_true rfl⟩) (q0 := 0) (ci := 8) (fs := fcM bM vM_5) (q := (RX8, TX8, 23)) rfl rfl rfl (As := [.int x3]) (rest := []) rfl rfl hl.1 (Nat.le_of_ble_eq_true rfl) dX8_append_32 (k1 := 0) (n1 := 0) rfl rfl ⟨Nat.le_refl _, Nat.le_refl _⟩ (fun H locs hP hD hS => ?_)
      refine lv_aload_n hx hb dX8_append_35 rfl (lv_at hl 0 rfl) ?_
      refine lv_iload hx hb dX8_append_36 (lv_at hl 4 rfl) ?_
      obtain ⟨vM_9, hg10, hf⟩ := o1_at hf
      refine k_vvW ⟨hx, hb, hml, hown, htu⟩ hK hP hD hS hA hG (c_X8_four l g bM vM_7 x4 vM_9 hg10) (cwV 1 htu (gU_V mw_5_151 hcX8_four) rfl rfl rfl hdX8_four ⟨Nat.le_of_ble_eq_true rfl, Nat.le_of_ble_eq_true rfl⟩) (q0 := 0) (ci := 8) (fs := fcM bM vM_7) (q := (RX8, TX8, 23)) rfl rfl rfl (As := [.int x4]) (rest := []) rfl rfl hl.1 (Nat.le_of_ble_eq_true rfl) dX8_append_38 (k1 := 0) (n1 := 0) rfl rfl ⟨Nat.le_refl _, Nat.le_refl _⟩ (fun H locs hP hD hS => ?_)
      refine lv_aload_n hx hb dX8_append_41 rfl (lv_at hl 0 rfl) ?_
      refine lv_iload hx hb dX8_append_42 (lv_at hl 5 rfl) ?_
      obtain ⟨vM_11, hg12, hf⟩ := o1_at hf
      refine k_vvW ⟨hx, hb, hml, hown, htu⟩ hK hP hD hS hA hG (c_X8_four l g bM vM_9 x5 vM_11 hg12) (cwV 1 htu (gU_V mw_5_151 hcX8_four) rfl rfl rfl hdX8_four ⟨Nat.le_of_ble_eq_true rfl, Nat.le_of_ble_eq_true rfl⟩) (q0 := 0) (ci := 8) (fs := fcM bM vM_9) (q := (RX8, TX8, 23)) rfl rfl rfl (As := [.int x5]) (rest := []) rfl rfl hl.1 (Nat.le_of_ble_eq_true rfl) dX8_append_44 (k1 := 0) (n1 := 0) rfl rfl ⟨Nat.le_refl _, Nat.le_refl _⟩ (fun H locs hP hD hS => ?_)
      refine lv_aload_n hx hb dX8_append_47 rfl (lv_at hl 0 rfl) ?_
      refine va_get (D := g.1) (ci := 8) (fs := fcM bM vM_11) (v := .int (vM_11.1 12)) (C := RX8) (T := TX8) (N := 23) hx hb htu hinX8 hown hK hP 0 rfl rfl 12 (by decide) k_5_84 (fun _ h9 => h9) rfl dX8_append_48 ?_
      obtain ⟨e13, e14⟩ := kp_2 hf
      rw [e14] at hP hD
      exact k_iret hx hb hr hlocks hK hP hD hS e13 dX8_append_51
    · have hf := it_f hf c2
      refine lv_iconst (v := (-1 : Int32)) hx hb dX8_append_18 (by decide) ?_
      obtain ⟨e15, e16⟩ := kp_2 hf
      rw [e16] at hP hD
      exact k_iret hx hb hr hlocks hK hP hD hS e15 dX8_append_19
  rw [hH, hlo] at hW
  exact hW
def f_X8_errorOffset (vM : Vs) : Option (Int32 × Vs) :=
  bn (sF vM 0 (0 : Int32)) (fun (vM_1 : Vs) => some ((vM_1.1 16), vM_1))
abbrev wsX8_errorOffset : List Cond := .code yX8_errorOffset cX8_errorOffset 1 (some .int) :: UW
abbrev rmX8_errorOffset : Room := { frames := 0, cells := 0, slots := 0, locals := 0 }
set_option maxHeartbeats 4000000 in
set_option maxRecDepth 100000 in
theorem c_X8_errorOffset (l : Launch) (g : Gx) (bM : Nat → Nat) (vM : Vs) (r : Int32) (vM1 : Vs) (hf : f_X8_errorOffset vM = some (r, vM1)) : CtI l yX8_errorOffset wsX8_errorOffset rmX8_errorOffset g [.ref (bM 0)] (cM g bM vM) (cM g bM vM1) r 0 0 := by
  unfold CtI
  intro sz
  refine Met.ofW (cc := cX8_errorOffset) (maxL := 1) (ret := (some .int)) (by decide) rfl ?_
  intro p e s m args below meth c s₁ B hml hv
  obtain ⟨rfl, hsz, hP, hK, hD0, hG⟩ := hv
  have hx := B.exec
  have hb := B.bytes
  have hr := B.returns
  have hts := atoms_spec (ws := wsX8_errorOffset) B.pre
  have hown : s.vm.findClass RX8 = some m.cls := findClass_of_methodNamed B.named
  have hlocks := B.notSynchronized
  subst hsz
  have hD := hD0.self (sz := s.heap.size)
  generalize hAe : va_A (cM g bM vM) s.heap.size = A at hD hG ⊢
  have hA : ∀ q : Nat, s.heap.size ≤ q → A q := fun q h => by rw [← hAe]; exact Or.inr h
  clear hAe hD0
  have hS : va_S A s.heap s.heap [] := va_S.rf
  have hl := lv_entry ([.ref (bM 0)]) (n := 1) (Nat.le_of_ble_eq_true rfl)
  rw [lg_entry_eq]
  generalize (lg_sl ([.ref (bM 0)]) ++ List.replicate (1 - (lg_sl ([.ref (bM 0)])).length) Slot.unset).toArray = ls at hl ⊢
  have hl : lv_has ls 1 [(0, .ref (bM 0))] := hl
  have htu : ∀ w ∈ UW, w.before _ s = true := fun w h => hts w (List.mem_cons_of_mem _ h)
  have k_5_72 := htu _ mw_5_72
  have k_5_88 := htu _ mw_5_88
  unfold f_X8_errorOffset at hf
  obtain ⟨H, hH⟩ : ∃ z, z = s.heap := ⟨_, rfl⟩
  obtain ⟨locs, hlo⟩ : ∃ z : List Loc, z = [] := ⟨_, rfl⟩
  have hS : va_S A s.heap H locs := by rw [hH, hlo]; exact hS
  rw [← hH] at hP
  have hW : W p l e (headSpec wsX8_errorOffset rmX8_errorOffset).room s m ([.ref (bM 0)] : List Value).toArray below meth c H locs 0 0 (MQ below (qI g A (cM g bM vM1) r) ([.ref (bM 0)] : List Value).toArray s 0 0 A) (F0 m 0 ls []) := by
    refine lv_aload_n hx hb dX8_errorOffset_0 rfl (lv_at hl 0 rfl) ?_
    refine lv_iconst (v := (0 : Int32)) hx hb dX8_errorOffset_1 (by decide) ?_
    refine va_put (D := g.1) (ci := 8) (fs := fcM bM vM) (v := .int (0 : Int32)) (ty := .int) (C := RX8) (T := TX8) (N := 23) hx hb htu hinX8 tyX8 tyX8_ok nmX8 hown hK hP hD hS 0 rfl rfl 0 (by decide) k_5_72 (fun _ h9 => h9) rfl (by decide +kernel) rfl rfl (Nat.le_of_ble_eq_true rfl) dX8_errorOffset_2 (fun H locs hP hD hS => ?_)
    obtain ⟨vM_1, evM_1⟩ : ∃ z, z = sF vM 0 (0 : Int32) := ⟨_, rfl⟩
    have hf := bn_at hf evM_1
    have hP : va_P g.1 vwCl (cM g bM vM_1) H := by rw [evM_1]; exact hP
    have hD : va_D A (cM g bM vM_1) := by rw [evM_1]; exact hD
    refine lv_aload_n hx hb dX8_errorOffset_5 rfl (lv_at hl 0 rfl) ?_
    refine va_get (D := g.1) (ci := 8) (fs := fcM bM vM_1) (v := .int (vM_1.1 16)) (C := RX8) (T := TX8) (N := 23) hx hb htu hinX8 hown hK hP 0 rfl rfl 16 (by decide) k_5_88 (fun _ h9 => h9) rfl dX8_errorOffset_6 ?_
    obtain ⟨e2, e3⟩ := kp_2 hf
    rw [e3] at hP hD
    exact k_iret hx hb hr hlocks hK hP hD hS e2 dX8_errorOffset_9
  rw [hH, hlo] at hW
  exact hW
def f_X8_fails (vM : Vs) (x1 : Int32) (x2 : Int32) : Option (Int32 × Vs) :=
  if (vM.1 15) = 0 then bn (sF vM 15 x1) (fun (vM_2 : Vs) => bn (sF vM_2 16 x2) (fun (vM_3 : Vs) => gd (isB (0 : Int32)) (some ((0 : Int32), vM_3)))) else gd (isB (0 : Int32)) (some ((0 : Int32), vM))
abbrev wsX8_fails : List Cond := .code yX8_fails cX8_fails 3 (some .boolean) :: UW
abbrev rmX8_fails : Room := { frames := 0, cells := 0, slots := 0, locals := 0 }
set_option maxHeartbeats 4000000 in
set_option maxRecDepth 100000 in
theorem c_X8_fails (l : Launch) (g : Gx) (bM : Nat → Nat) (vM : Vs) (x1 : Int32) (x2 : Int32) (r : Int32) (vM1 : Vs) (hf : f_X8_fails vM x1 x2 = some (r, vM1)) : CtI l yX8_fails wsX8_fails rmX8_fails g [.ref (bM 0), .int x1, .int x2] (cM g bM vM) (cM g bM vM1) r 0 0 := by
  unfold CtI
  intro sz
  refine Met.ofW (cc := cX8_fails) (maxL := 3) (ret := (some .boolean)) (by decide) rfl ?_
  intro p e s m args below meth c s₁ B hml hv
  obtain ⟨rfl, hsz, hP, hK, hD0, hG⟩ := hv
  have hx := B.exec
  have hb := B.bytes
  have hr := B.returns
  have hts := atoms_spec (ws := wsX8_fails) B.pre
  have hown : s.vm.findClass RX8 = some m.cls := findClass_of_methodNamed B.named
  have hlocks := B.notSynchronized
  subst hsz
  have hD := hD0.self (sz := s.heap.size)
  generalize hAe : va_A (cM g bM vM) s.heap.size = A at hD hG ⊢
  have hA : ∀ q : Nat, s.heap.size ≤ q → A q := fun q h => by rw [← hAe]; exact Or.inr h
  clear hAe hD0
  have hS : va_S A s.heap s.heap [] := va_S.rf
  have hl := lv_entry ([.ref (bM 0), .int x1, .int x2]) (n := 3) (Nat.le_of_ble_eq_true rfl)
  rw [lg_entry_eq]
  generalize (lg_sl ([.ref (bM 0), .int x1, .int x2]) ++ List.replicate (3 - (lg_sl ([.ref (bM 0), .int x1, .int x2])).length) Slot.unset).toArray = ls at hl ⊢
  have hl : lv_has ls 3 [(0, .ref (bM 0)), (1, .int x1), (2, .int x2)] := hl
  have htu : ∀ w ∈ UW, w.before _ s = true := fun w h => hts w (List.mem_cons_of_mem _ h)
  have k_5_87 := htu _ mw_5_87
  have k_5_88 := htu _ mw_5_88
  unfold f_X8_fails at hf
  obtain ⟨H, hH⟩ : ∃ z, z = s.heap := ⟨_, rfl⟩
  obtain ⟨locs, hlo⟩ : ∃ z : List Loc, z = [] := ⟨_, rfl⟩
  have hS : va_S A s.heap H locs := by rw [hH, hlo]; exact hS
  rw [← hH] at hP
  have hW : W p l e (headSpec wsX8_fails rmX8_fails).room s m ([.ref (bM 0), .int x1, .int x2] : List Value).toArray below meth c H locs 0 0 (MQ below (qI g A (cM g bM vM1) r) ([.ref (bM 0), .int x1, .int x2] : List Value).toArray s 0 0 A) (F0 m 0 ls []) := by
    refine lv_aload_n hx hb dX8_fails_0 rfl (lv_at hl 0 rfl) ?_
    refine va_get (D := g.1) (ci := 8) (fs := fcM bM vM) (v := .int (vM.1 15)) (C := RX8) (T := TX8) (N := 23) hx hb htu hinX8 hown hK hP 0 rfl rfl 15 (by decide) k_5_87 (fun _ h9 => h9) rfl dX8_fails_1 ?_
    refine lv_if_eq (tgt := 9) hx hb dX8_fails_4 (by decide) (fun c1 => ?_) (fun c1 => ?_)
    · have hf := it_t hf c1
      refine lv_aload_n hx hb dX8_fails_9 rfl (lv_at hl 0 rfl) ?_
      refine lv_iload_n hx hb dX8_fails_10 rfl (lv_at hl 1 rfl) ?_
      refine va_put (D := g.1) (ci := 8) (fs := fcM bM vM) (v := .int x1) (ty := .int) (C := RX8) (T := TX8) (N := 23) hx hb htu hinX8 tyX8 tyX8_ok nmX8 hown hK hP hD hS 0 rfl rfl 15 (by decide) k_5_87 (fun _ h9 => h9) rfl (by decide +kernel) rfl rfl (Nat.le_of_ble_eq_true rfl) dX8_fails_11 (fun H locs hP hD hS => ?_)
      obtain ⟨vM_2, evM_2⟩ : ∃ z, z = sF vM 15 x1 := ⟨_, rfl⟩
      have hf := bn_at hf evM_2
      have hP : va_P g.1 vwCl (cM g bM vM_2) H := by rw [evM_2]; exact hP
      have hD : va_D A (cM g bM vM_2) := by rw [evM_2]; exact hD
      refine lv_aload_n hx hb dX8_fails_14 rfl (lv_at hl 0 rfl) ?_
      refine lv_iload_n hx hb dX8_fails_15 rfl (lv_at hl 2 rfl) ?_
      refine va_put (D := g.1) (ci := 8) (fs := fcM bM vM_2) (v := .int x2) (ty := .int) (C := RX8) (T := TX8) (N := 23) hx hb htu hinX8 tyX8 tyX8_ok nmX8 hown hK hP hD hS 0 rfl rfl 16 (by decide) k_5_88 (fun _ h9 => h9) rfl (by decide +kernel) rfl rfl (Nat.le_of_ble_eq_true rfl) dX8_fails_16 (fun H locs hP hD hS => ?_)
      obtain ⟨vM_3, evM_3⟩ : ∃ z, z = sF vM_2 16 x2 := ⟨_, rfl⟩
      have hf := bn_at hf evM_3
      have hP : va_P g.1 vwCl (cM g bM vM_3) H := by rw [evM_3]; exact hP
      have hD : va_D A (cM g bM vM_3) := by rw [evM_3]; exact hD
      refine lv_iconst (v := (0 : Int32)) hx hb dX8_fails_19 (by decide) ?_
      obtain ⟨h4, hf⟩ := gd_isB hf
      obtain ⟨e5, e6⟩ := kp_2 hf
      rw [e6] at hP hD
      exact k_zret hx hb hr hlocks hK hP hD hS e5 h4 dX8_fails_20
    · have hf := it_f hf c1
      refine lv_iconst (v := (0 : Int32)) hx hb dX8_fails_7 (by decide) ?_
      obtain ⟨h7, hf⟩ := gd_isB hf
      obtain ⟨e8, e9⟩ := kp_2 hf
      rw [e9] at hP hD
      exact k_zret hx hb hr hlocks hK hP hD hS e8 h7 dX8_fails_8
  rw [hH, hlo] at hW
  exact hW
