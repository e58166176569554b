def f_X8_isTest (vM : Vs) (x1 : Int32) : Option (Int32 × Vs) :=
  o1 (f_X8_tests vM) (fun (r1 : Int32) => o1 (f_X8_isIn x1 (0 : Int32) (r1 - (1 : Int32))) (fun (r3 : Int32) => o2 (f_X8_right vM r3 (1 : Int32)) (fun (r5 : Int32) (vM_6 : Vs) => gd (isB r5) (some (r5, vM_6)))))
abbrev wsX8_isTest : List Cond := .code yX8_isTest cX8_isTest 2 (some .boolean) :: UW
abbrev rmX8_isTest : Room := { frames := 2, cells := 0, slots := 0, locals := 41 }
set_option maxHeartbeats 4000000 in
set_option maxRecDepth 100000 in
theorem c_X8_isTest (l : Launch) (g : Gx) (bM : Nat → Nat) (vM : Vs) (x1 : Int32) (r : Int32) (vM1 : Vs) (hf : f_X8_isTest vM x1 = some (r, vM1)) : CtI l yX8_isTest wsX8_isTest rmX8_isTest g [.ref (bM 0), .int x1] (cM g bM vM) (cM g bM vM1) r 0 0 := by
  unfold CtI
  intro sz
  refine Met.ofW (cc := cX8_isTest) (maxL := 2) (ret := (some .boolean)) (by decide) rfl ?_
  intro p e s m args below meth c s₁ B hml hv
  obtain ⟨rfl, hsz, hP, hK, hD0, hG⟩ := hv
  have hx := B.exec
  have hb := B.bytes
  have hr := B.returns
  have hts := atoms_spec (ws := wsX8_isTest) B.pre
  have hown : s.vm.findClass RX8 = some m.cls := findClass_of_methodNamed B.named
  have hlocks := B.notSynchronized
  subst hsz
  have hD := hD0.self (sz := s.heap.size)
  generalize hAe : va_A (cM g bM vM) s.heap.size = A at hD hG ⊢
  have hA : ∀ q : Nat, s.heap.size ≤ q → A q := fun q h => by rw [← hAe]; exact Or.inr h
  clear hAe hD0
  have hS : va_S A s.heap s.heap [] := va_S.rf
  have hl := lv_entry ([.ref (bM 0), .int x1]) (n := 2) (Nat.le_of_ble_eq_true rfl)
  rw [lg_entry_eq]
  generalize (lg_sl ([.ref (bM 0), .int x1]) ++ List.replicate (2 - (lg_sl ([.ref (bM 0), .int x1])).length) Slot.unset).toArray = ls at hl ⊢
  have hl : lv_has ls 2 [(0, .ref (bM 0)), (1, .int x1)] := hl
  have htu : ∀ w ∈ UW, w.before _ s = true := fun w h => hts w (List.mem_cons_of_mem _ h)
  unfold f_X8_isTest at hf
  obtain ⟨H, hH⟩ : ∃ z, z = s.heap := ⟨_, rfl⟩
  obtain ⟨locs, hlo⟩ : ∃ z : List Loc, z = [] := ⟨_, rfl⟩
  have hS : va_S A s.heap H locs := by rw [hH, hlo]; exact hS
  rw [← hH] at hP
  have hW : W p l e (headSpec wsX8_isTest rmX8_isTest).room s m ([.ref (bM 0), .int x1] : List Value).toArray below meth c H locs 0 0 (MQ below (qI g A (cM g bM vM1) r) ([.ref (bM 0), .int x1] : List Value).toArray s 0 0 A) (F0 m 0 ls []) := by
    refine lv_aload_n hx hb dX8_isTest_0 rfl (lv_at hl 0 rfl) ?_
    refine lv_iload_n hx hb dX8_isTest_1 rfl (lv_at hl 1 rfl) ?_
    refine lv_iconst (v := (0 : Int32)) hx hb dX8_isTest_2 (by decide) ?_
    refine lv_aload_n hx hb dX8_isTest_3 rfl (lv_at hl 0 rfl) ?_
    obtain ⟨r1, hg2, hf⟩ := o1_at hf
    refine k_viW ⟨hx, hb, hml, hown, htu⟩ hK hP hD hS hA hG (c_X8_tests l g bM vM r1 hg2) (cwV 0 htu (gU_V mw_6_48 hcX8_tests) rfl rfl rfl hdX8_tests ⟨Nat.le_of_ble_eq_true rfl, Nat.le_of_ble_eq_true rfl⟩) (q0 := 0) (ci := 8) (fs := fcM bM vM) (q := (RX8, TX8, 23)) rfl rfl rfl (As := []) (rest := [.int (0 : Int32), .int x1, .ref (bM 0)]) rfl rfl hl.1 (Nat.le_of_ble_eq_true rfl) dX8_isTest_4 (k1 := 0) (n1 := 0) rfl rfl ⟨Nat.zero_le _, Nat.zero_le _⟩ (fun H locs hP hD hS => ?_)
    refine lv_iconst (v := (1 : Int32)) hx hb dX8_isTest_7 (by decide) ?_
    refine lv_isub hx hb dX8_isTest_8 ?_
    obtain ⟨r3, hg4, hf⟩ := o1_at hf
    refine k_si0 ⟨hx, hb, hml, hown, htu⟩ hK hP hD hS hA hG (c_X8_isIn l g x1 (0 : Int32) (r1 - (1 : Int32)) r3 hg4) (va_cwS 3 htu (gU_S mw_5_163 hcX8_isIn) rfl rfl rfl hdX8_isIn ⟨Nat.le_of_ble_eq_true rfl, Nat.le_of_ble_eq_true rfl⟩) (As := [.int x1, .int (0 : Int32), .int (r1 - (1 : Int32))]) (rest := [.ref (bM 0)]) rfl rfl hl.1 (Nat.le_of_ble_eq_true rfl) dX8_isTest_9 (k1 := 0) (n1 := 0) rfl rfl ⟨Nat.zero_le _, Nat.zero_le _⟩ (fun H locs hP hD hS => ?_)
    refine lv_iconst (v := (1 : Int32)) hx hb dX8_isTest_12 (by decide) ?_
    obtain ⟨r5, vM_6, hg7, hf⟩ := o2_at hf
    refine k_viW ⟨hx, hb, hml, hown, htu⟩ hK hP hD hS hA hG (c_X8_right l g bM vM r3 (1 : Int32) r5 vM_6 hg7) (cwV 2 htu (gU_V mw_5_166 hcX8_right) rfl rfl rfl hdX8_right ⟨Nat.le_of_ble_eq_true rfl, Nat.le_of_ble_eq_true rfl⟩) (q0 := 0) (ci := 8) (fs := fcM bM vM) (q := (RX8, TX8, 23)) rfl rfl rfl (As := [.int r3, .int (1 : Int32)]) (rest := []) rfl rfl hl.1 (Nat.le_of_ble_eq_true rfl) dX8_isTest_13 (k1 := 0) (n1 := 0) rfl rfl ⟨Nat.zero_le _, Nat.zero_le _⟩ (fun H locs hP hD hS => ?_)
    obtain ⟨h8, hf⟩ := gd_isB hf
    obtain ⟨e9, e10⟩ := kp_2 hf
    rw [e10] at hP hD
    exact k_zret hx hb hr hlocks hK hP hD hS e9 h8 dX8_isTest_16
  rw [hH, hlo] at hW
  exact hW
def f_X8_seenAt (vM : Vs) (x1 : Int32) (x2 : Int32) : Option (Int32) :=
  o1 (f_X8_get vM (((310 : Int32) + ((6 : Int32) * x1)) + x2)) (fun (r1 : Int32) => some (r1))
abbrev wsX8_seenAt : List Cond := .code yX8_seenAt cX8_seenAt 3 (some .int) :: UW
abbrev rmX8_seenAt : Room := { frames := 1, cells := 0, slots := 0, locals := 21 }
set_option maxHeartbeats 4000000 in
set_option maxRecDepth 100000 in
theorem c_X8_seenAt (l : Launch) (g : Gx) (bM : Nat → Nat) (vM : Vs) (x1 : Int32) (x2 : Int32) (r : Int32) (hf : f_X8_seenAt vM x1 x2 = some r) : CtI l yX8_seenAt wsX8_seenAt rmX8_seenAt g [.ref (bM 0), .int x1, .int x2] (cM g bM vM) (cM g bM vM) r 0 0 := by
  unfold CtI
  intro sz
  refine Met.ofW (cc := cX8_seenAt) (maxL := 3) (ret := (some .int)) (by decide) rfl ?_
  intro p e s m args below meth c s₁ B hml hv
  obtain ⟨rfl, hsz, hP, hK, hD0, hG⟩ := hv
  have hx := B.exec
  have hb := B.bytes
  have hr := B.returns
  have hts := atoms_spec (ws := wsX8_seenAt) B.pre
  have hown : s.vm.findClass RX8 = some m.cls := findClass_of_methodNamed B.named
  have hlocks := B.notSynchronized
  subst hsz
  have hD := hD0.self (sz := s.heap.size)
  generalize hAe : va_A (cM g bM vM) s.heap.size = A at hD hG ⊢
  have hA : ∀ q : Nat, s.heap.size ≤ q → A q := fun q h => by rw [← hAe]; exact Or.inr h
  clear hAe hD0
  have hS : va_S A s.heap s.heap [] := va_S.rf
  have hl := lv_entry ([.ref (bM 0), .int x1, .int x2]) (n := 3) (Nat.le_of_ble_eq_true rfl)
  rw [lg_entry_eq]
  generalize (lg_sl ([.ref (bM 0), .int x1, .int x2]) ++ List.replicate (3 - (lg_sl ([.ref (bM 0), .int x1, .int x2])).length) Slot.unset).toArray = ls at hl ⊢
  have hl : lv_has ls 3 [(0, .ref (bM 0)), (1, .int x1), (2, .int x2)] := hl
  have htu : ∀ w ∈ UW, w.before _ s = true := fun w h => hts w (List.mem_cons_of_mem _ h)
  unfold f_X8_seenAt at hf
  obtain ⟨H, hH⟩ : ∃ z, z = s.heap := ⟨_, rfl⟩
  obtain ⟨locs, hlo⟩ : ∃ z : List Loc, z = [] := ⟨_, rfl⟩
  have hS : va_S A s.heap H locs := by rw [hH, hlo]; exact hS
  rw [← hH] at hP
  have hW : W p l e (headSpec wsX8_seenAt rmX8_seenAt).room s m ([.ref (bM 0), .int x1, .int x2] : List Value).toArray below meth c H locs 0 0 (MQ below (qI g A (cM g bM vM) r) ([.ref (bM 0), .int x1, .int x2] : List Value).toArray s 0 0 A) (F0 m 0 ls []) := by
    refine lv_aload_n hx hb dX8_seenAt_0 rfl (lv_at hl 0 rfl) ?_
    refine lv_sipush (v := (310 : Int32)) hx hb dX8_seenAt_1 (by decide) ?_
    refine lv_bipush (v := (6 : Int32)) hx hb dX8_seenAt_4 (by decide) ?_
    refine lv_iload_n hx hb dX8_seenAt_6 rfl (lv_at hl 1 rfl) ?_
    refine lv_imul hx hb dX8_seenAt_7 ?_
    refine lv_iadd hx hb dX8_seenAt_8 ?_
    refine lv_iload_n hx hb dX8_seenAt_9 rfl (lv_at hl 2 rfl) ?_
    refine lv_iadd hx hb dX8_seenAt_10 ?_
    obtain ⟨r1, hg2, hf⟩ := o1_at hf
    refine k_viW ⟨hx, hb, hml, hown, htu⟩ hK hP hD hS hA hG (c_X8_get l g bM vM (((310 : Int32) + ((6 : Int32) * x1)) + x2) r1 hg2) (cwV 1 htu (gU_V mw_6_20 hcX8_get) rfl rfl rfl hdX8_get ⟨Nat.le_of_ble_eq_true rfl, Nat.le_of_ble_eq_true rfl⟩) (q0 := 0) (ci := 8) (fs := fcM bM vM) (q := (RX8, TX8, 23)) rfl rfl rfl (As := [.int (((310 : Int32) + ((6 : Int32) * x1)) + x2)]) (rest := []) rfl rfl hl.1 (Nat.le_of_ble_eq_true rfl) dX8_seenAt_11 (k1 := 0) (n1 := 0) rfl rfl ⟨Nat.zero_le _, Nat.zero_le _⟩ (fun H locs hP hD hS => ?_)
    have e3 := Option.some.inj hf
    exact k_iret hx hb hr hlocks hK hP hD hS e3 dX8_seenAt_14
  rw [hH, hlo] at hW
  exact hW
def f_X8_seenMany_L14 (vM : Vs) (x2_2 : Int32) (self3 : Int32 → Int32 → Option (Int32)) (self12 : Int32 → Int32 → Option (Int32)) (x1_10 : Int32) (x3_11 : Int32) : Option (Int32) :=
  o1 (f_X8_outputs vM) (fun (r15 : Int32) => if r15 ≤ x3_11 then self3 x1_10 (x2_2 + (1 : Int32)) else o1 (f_X8_seenAt vM x2_2 x3_11) (fun (r18 : Int32) => jn (fun (t20 : Int32) => self12 (x1_10 + t20) (x3_11 + (1 : Int32))) (fun k21 => if r18 = (2 : Int32) then k21 (0 : Int32) else k21 (1 : Int32))))
def f_X8_seenMany_L4 (vM : Vs) (self3 : Int32 → Int32 → Option (Int32)) (x1_1 : Int32) (x2_2 : Int32) : Option (Int32) :=
  o1 (f_X8_tests vM) (fun (r6 : Int32) => if r6 ≤ x2_2 then some (x1_1) else lp (f_X8_seenMany_L14 vM x2_2 self3) (fun _ _ => none) FU x1_1 (0 : Int32))
def f_X8_seenMany (vM : Vs) : Option (Int32) :=
  lp (f_X8_seenMany_L4 vM) (fun _ _ => none) FU (0 : Int32) (0 : Int32)
abbrev wsX8_seenMany : List Cond := .code yX8_seenMany cX8_seenMany 4 (some .int) :: UW
abbrev rmX8_seenMany : Room := { frames := 2, cells := 0, slots := 0, locals := 43 }
set_option maxHeartbeats 4000000 in
set_option maxRecDepth 100000 in
theorem c_X8_seenMany (l : Launch) (g : Gx) (bM : Nat → Nat) (vM : Vs) (r : Int32) (hf : f_X8_seenMany vM = some r) : CtI l yX8_seenMany wsX8_seenMany rmX8_seenMany g [.ref (bM 0)] (cM g bM vM) (cM g bM vM) r 0 0 := by
  unfold CtI
  intro sz
  refine Met.ofW (cc := cX8_seenMany) (maxL := 4) (ret := (some .int)) (by decide) rfl ?_
  intro p e s m args below meth c s₁ B hml hv
  obtain ⟨rfl, hsz, hP, hK, hD0, hG⟩ := hv
  have hx := B.exec
  have hb := B.bytes
  have hr := B.returns
  have hts := atoms_spec (ws := wsX8_seenMany) B.pre
  have hown : s.vm.findClass RX8 = some m.cls := findClass_of_methodNamed B.named
  have hlocks := B.notSynchronized
  subst hsz
  have hD := hD0.self (sz := s.heap.size)
  generalize hAe : va_A (cM g bM vM) s.heap.size = A at hD hG ⊢
  have hA : ∀ q : Nat, s.heap.size ≤ q → A q := fun q h => by rw [← hAe]; exact Or.inr h
  clear hAe hD0
  have hS : va_S A s.heap s.heap [] := va_S.rf
  have hl := lv_entry ([.ref (bM 0)]) (n := 4) (Nat.le_of_ble_eq_true rfl)
  rw [lg_entry_eq]
  generalize (lg_sl ([.ref (bM 0)]) ++ List.replicate (4 - (lg_sl ([.ref (bM 0)])).length) Slot.unset).toArray = ls at hl ⊢
  have hl : lv_has ls 4 [(0, .ref (bM 0))] := hl
  have htu : ∀ w ∈ UW, w.before _ s = true := fun w h => hts w (List.mem_cons_of_mem _ h)
  unfold f_X8_seenMany at hf
  obtain ⟨H, hH⟩ : ∃ z, z = s.heap := ⟨_, rfl⟩
  obtain ⟨locs, hlo⟩ : ∃ z : List Loc, z = [] := ⟨_, rfl⟩
  have hS : va_S A s.heap H locs := by rw [hH, hlo]; exact hS
  rw [← hH] at hP
  have hW : W p l e (headSpec wsX8_seenMany rmX8_seenMany).room s m ([.ref (bM 0)] : List Value).toArray below meth c H locs 0 0 (MQ below (qI g A (cM g bM vM) r) ([.ref (bM 0)] : List Value).toArray s 0 0 A) (F0 m 0 ls []) := by
    refine lv_iconst (v := (0 : Int32)) hx hb dX8_seenMany_0 (by decide) ?_
    refine lv_istore_n (lv' := [(1, .int (0 : Int32)), (0, .ref (bM 0))]) hx hb dX8_seenMany_1 rfl hl (by decide) rfl (fun ls hl => ?_)
    refine lv_iconst (v := (0 : Int32)) hx hb dX8_seenMany_2 (by decide) ?_
    refine lv_istore_n (lv' := [(2, .int (0 : Int32)), (1, .int (0 : Int32)), (0, .ref (bM 0))]) hx hb dX8_seenMany_3 rfl hl (by decide) rfl (fun ls hl => ?_)
    have hL4 : ∀ (x1_1 : Int32) (x2_2 : Int32), lp (f_X8_seenMany_L4 vM) (fun _ _ => none) FU x1_1 x2_2 = some r → ∀ (H : Heap) (locs : List Loc), va_P g.1 vwCl (cM g bM vM) H → va_D A (cM g bM vM) → va_S A s.heap H locs → ∀ ls : Array Slot, lv_has ls 4 [(0, .ref (bM 0)), (1, .int x1_1), (2, .int x2_2)] → W p l e (headSpec wsX8_seenMany rmX8_seenMany).room s m ([.ref (bM 0)] : List Value).toArray below meth c H locs 0 0 (MQ below (qI g A (cM g bM vM) r) ([.ref (bM 0)] : List Value).toArray s 0 0 A) (F0 m 4 ls []) := by
      refine lp_ind (T := Int32 → Int32 → Option (Int32)) (fun self3 => ∀ (x1_1 : Int32) (x2_2 : Int32), self3 x1_1 x2_2 = some r → ∀ (H : Heap) (locs : List Loc), va_P g.1 vwCl (cM g bM vM) H → va_D A (cM g bM vM) → va_S A s.heap H locs → ∀ ls : Array Slot, lv_has ls 4 [(0, .ref (bM 0)), (1, .int x1_1), (2, .int x2_2)] → W p l e (headSpec wsX8_seenMany rmX8_seenMany).room s m ([.ref (bM 0)] : List Value).toArray below meth c H locs 0 0 (MQ below (qI g A (cM g bM vM) r) ([.ref (bM 0)] : List Value).toArray s 0 0 A) (F0 m 4 ls [])) ?_ ?_ FU
      · intro x1_1 x2_2 hf; cases hf
      · intro self3 ih5 x1_1 x2_2 hf H locs hP hD hS ls hl
        unfold f_X8_seenMany_L4 at hf
        refine lv_iload_n hx hb dX8_seenMany_4 rfl (lv_at hl 2 rfl) ?_
        refine lv_aload_n hx hb dX8_seenMany_5 rfl (lv_at hl 0 rfl) ?_
        obtain ⟨r6, hg7, hf⟩ := o1_at hf
        refine k_viW ⟨hx, hb, hml, hown, htu⟩ hK hP hD hS hA hG (c_X8_tests l g bM vM r6 hg7) (cwV 0 htu (gU_V mw_6_48 hcX8_tests) rfl rfl rfl hdX8_tests ⟨Nat.le_of_ble_eq_true rfl, Nat.le_of_ble_eq_true rfl⟩) (q0 := 0) (ci := 8) (fs := fcM bM vM) (q := (RX8, TX8, 23)) rfl rfl rfl (As := []) (rest := [.int x2_2]) rfl rfl hl.1 (Nat.le_of_ble_eq_true rfl) dX8_seenMany_6 (k1 := 0) (n1 := 0) rfl rfl ⟨Nat.zero_le _, Nat.zero_le _⟩ (fun H locs hP hD hS => ?_)
        refine lv_icmp_ge (tgt := 52) hx hb dX8_seenMany_9 (by decide) (fun c8 => ?_) (fun c8 => ?_)
        · have hf := it_t hf c8
          refine lv_iload_n hx hb dX8_seenMany_52 rfl (lv_at hl 1 rfl) ?_
          have e9 := Option.some.inj hf
          exact k_iret hx hb hr hlocks hK hP hD hS e9 dX8_seenMany_53
        · have hf := it_f hf c8
          refine lv_iconst (v := (0 : Int32)) hx hb dX8_seenMany_12 (by decide) ?_
          refine lv_istore_n (lv' := [(3, .int (0 : Int32)), (0, .ref (bM 0)), (1, .int x1_1), (2, .int x2_2)]) hx hb dX8_seenMany_13 rfl hl (by decide) rfl (fun ls hl => ?_)
          have hL13 : ∀ (x1_10 : Int32) (x3_11 : Int32), lp (f_X8_seenMany_L14 vM x2_2 self3) (fun _ _ => none) FU x1_10 x3_11 = some r → ∀ (H : Heap) (locs : List Loc), va_P g.1 vwCl (cM g bM vM) H → va_D A (cM g bM vM) → va_S A s.heap H locs → ∀ ls : Array Slot, lv_has ls 4 [(0, .ref (bM 0)), (1, .int x1_10), (2, .int x2_2), (3, .int x3_11)] → W p l e (headSpec wsX8_seenMany rmX8_seenMany).room s m ([.ref (bM 0)] : List Value).toArray below meth c H locs 0 0 (MQ below (qI g A (cM g bM vM) r) ([.ref (bM 0)] : List Value).toArray s 0 0 A) (F0 m 14 ls []) := by
            refine lp_ind (T := Int32 → Int32 → Option (Int32)) (fun self12 => ∀ (x1_10 : Int32) (x3_11 : Int32), self12 x1_10 x3_11 = some r → ∀ (H : Heap) (locs : List Loc), va_P g.1 vwCl (cM g bM vM) H → va_D A (cM g bM vM) → va_S A s.heap H locs → ∀ ls : Array Slot, lv_has ls 4 [(0, .ref (bM 0)), (1, .int x1_10), (2, .int x2_2), (3, .int x3_11)] → W p l e (headSpec wsX8_seenMany rmX8_seenMany).room s m ([.ref (bM 0)] : List Value).toArray below meth c H locs 0 0 (MQ below (qI g A (cM g bM vM) r) ([.ref (bM 0)] : List Value).toArray s 0 0 A) (F0 m 14 ls [])) ?_ ?_ FU
            · intro x1_10 x3_11 hf; cases hf
            · intro self12 ih14 x1_10 x3_11 hf H locs hP hD hS ls hl
              unfold f_X8_seenMany_L14 at hf
              refine lv_iload_n hx hb dX8_seenMany_14 rfl (lv_at hl 3 rfl) ?_
              refine lv_aload_n hx hb dX8_seenMany_15 rfl (lv_at hl 0 rfl) ?_
              obtain ⟨r15, hg16, hf⟩ := o1_at hf
              refine k_viW ⟨hx, hb, hml, hown, htu⟩ hK hP hD hS hA hG (c_X8_outputs l g bM vM r15 hg16) (cwV 0 htu (gU_V mw_6_40 hcX8_outputs) rfl rfl rfl hdX8_outputs ⟨Nat.le_of_ble_eq_true rfl, Nat.le_of_ble_eq_true rfl⟩) (q0 := 0) (ci := 8) (fs := fcM bM vM) (q := (RX8, TX8, 23)) rfl rfl rfl (As := []) (rest := [.int x3_11]) rfl rfl hl.1 (Nat.le_of_ble_eq_true rfl) dX8_seenMany_16 (k1 := 0) (n1 := 0) rfl rfl ⟨Nat.zero_le _, Nat.zero_le _⟩ (fun H locs hP hD hS => ?_)
              refine lv_icmp_ge (tgt := 46) hx hb dX8_seenMany_19 (by decide) (fun c17 => ?_) (fun c17 => ?_)
              · have hf := it_t hf c17
                refine lv_iinc (v := (x2_2 + (1 : Int32))) (lv' := [(2, .int (x2_2 + (1 : Int32))), (0, .ref (bM 0)), (1, .int x1_10), (3, .int x3_11)]) hx hb dX8_seenMany_46 hl (k := 2) rfl rfl (by decide) rfl (fun ls hl => ?_)
                refine lv_goto (tgt := 4) hx hb dX8_seenMany_49 (by decide) ?_
                exact ih5 x1_10 (x2_2 + (1 : Int32)) hf H locs hP hD hS _ (lv_sub hl [1, 2, 0] rfl)
              · have hf := it_f hf c17
                refine lv_iload_n hx hb dX8_seenMany_22 rfl (lv_at hl 1 rfl) ?_
                refine lv_aload_n hx hb dX8_seenMany_23 rfl (lv_at hl 0 rfl) ?_
                refine lv_iload_n hx hb dX8_seenMany_24 rfl (lv_at hl 2 rfl) ?_
                refine lv_iload_n hx hb dX8_seenMany_25 rfl (lv_at hl 3 rfl) ?_
                obtain ⟨r18, hg19, hf⟩ := o1_at hf
                refine k_viW ⟨hx, hb, hml, hown, htu⟩ hK hP hD hS hA hG (c_X8_seenAt l g bM vM x2_2 x3_11 r18 hg19) (cwV 2 htu (gU_V mw_6_56 hcX8_seenAt) rfl rfl rfl hdX8_seenAt ⟨Nat.le_of_ble_eq_true rfl, Nat.le_of_ble_eq_true rfl⟩) (q0 := 0) (ci := 8) (fs := fcM bM vM) (q := (RX8, TX8, 23)) rfl rfl rfl (As := [.int x2_2, .int x3_11]) (rest := [.int x1_10]) rfl rfl hl.1 (Nat.le_of_ble_eq_true rfl) dX8_seenMany_26 (k1 := 0) (n1 := 0) rfl rfl ⟨Nat.zero_le _, Nat.zero_le _⟩ (fun H locs hP hD hS => ?_)
                refine lv_iconst (v := (2 : Int32)) hx hb dX8_seenMany_29 (by decide) ?_
                obtain ⟨k21, hk23, hf⟩ := jn_at hf
                have hJ22 : ∀ (t20 : Int32), k21 t20 = some r → ∀ (H : Heap) (locs : List Loc), va_P g.1 vwCl (cM g bM vM) H → va_D A (cM g bM vM) → va_S A s.heap H locs → ∀ ls : Array Slot, lv_has ls 4 [(0, .ref (bM 0)), (2, .int x2_2), (3, .int x3_11)] → W p l e (headSpec wsX8_seenMany rmX8_seenMany).room s m ([.ref (bM 0)] : List Value).toArray below meth c H locs 0 0 (MQ below (qI g A (cM g bM vM) r) ([.ref (bM 0)] : List Value).toArray s 0 0 A) (F0 m 38 ls [.int t20, .int x1_10]) := by
                  intro t20 hf H locs hP hD hS ls hl
                  rw [hk23] at hf
                  dsimp only at hf
                  clear hk23
                  refine lv_iadd hx hb dX8_seenMany_38 ?_
                  refine lv_istore_n (lv' := [(1, .int (x1_10 + t20)), (0, .ref (bM 0)), (2, .int x2_2), (3, .int x3_11)]) hx hb dX8_seenMany_39 rfl hl (by decide) rfl (fun ls hl => ?_)
                  refine lv_iinc (v := (x3_11 + (1 : Int32))) (lv' := [(3, .int (x3_11 + (1 : Int32))), (1, .int (x1_10 + t20)), (0, .ref (bM 0)), (2, .int x2_2)]) hx hb dX8_seenMany_40 hl (k := 3) rfl rfl (by decide) rfl (fun ls hl => ?_)
                  refine lv_goto (tgt := 14) hx hb dX8_seenMany_43 (by decide) ?_
                  exact ih14 (x1_10 + t20) (x3_11 + (1 : Int32)) hf H locs hP hD hS _ (lv_sub hl [2, 1, 3, 0] rfl)
                refine lv_icmp_eq (tgt := 37) hx hb dX8_seenMany_30 (by decide) (fun c24 => ?_) (fun c24 => ?_)
                · have hf := it_t hf c24
                  refine lv_iconst (v := (0 : Int32)) hx hb dX8_seenMany_37 (by decide) ?_
                  exact hJ22 (0 : Int32) hf H locs hP hD hS _ (lv_sub hl [0, 2, 3] rfl)
                · have hf := it_f hf c24
                  refine lv_iconst (v := (1 : Int32)) hx hb dX8_seenMany_33 (by decide) ?_
                  refine lv_goto (tgt := 38) hx hb dX8_seenMany_34 (by decide) ?_
                  exact hJ22 (1 : Int32) hf H locs hP hD hS _ (lv_sub hl [0, 2, 3] rfl)
          exact hL13 x1_1 (0 : Int32) hf H locs hP hD hS _ (lv_sub hl [1, 2, 3, 0] rfl)
    exact hL4 (0 : Int32) (0 : Int32) hf H locs hP hD hS _ (lv_sub hl [2, 1, 0] rfl)
  rw [hH, hlo] at hW
  exact hW
def f_X8_told_L91 (self45 : Int32 → Int32 → Vs → Option (Int32 × Vs)) (x2_42 : Int32) (x3_43 : Int32) (vM_44 : Vs) : Option (Int32 × Vs) :=
  o1 (f_X8_wires vM_44) (fun (r48 : Int32) => if r48 ≤ x3_43 then some (x2_42, vM_44) else o2 (f_X8_levelOf vM_44 x3_43) (fun (r53 : Int32) (vM_54 : Vs) => jn (fun (t56 : Int32) (vM_57 : Vs) => self45 t56 (x3_43 + (1 : Int32)) vM_57) (fun k58 => if r53 ≤ x2_42 then k58 x2_42 vM_54 else o2 (f_X8_levelOf vM_54 x3_43) (fun (r62 : Int32) (vM_63 : Vs) => k58 r62 vM_63))))
def f_X8_told (vM : Vs) (x1 : Int32) : Option (Int32 × Vs) :=
  if x1 = (0 : Int32) then o1 (f_X8_inputs vM) (fun (r2 : Int32) => some (r2, vM)) else if x1 = (1 : Int32) then o1 (f_X8_wires vM) (fun (r7 : Int32) => some (r7, vM)) else if x1 = (2 : Int32) then o1 (f_X8_outputs vM) (fun (r12 : Int32) => some (r12, vM)) else if x1 = (3 : Int32) then o1 (f_X8_faults vM) (fun (r17 : Int32) => some (r17, vM)) else if x1 = (4 : Int32) then o1 (f_X8_get vM (3 : Int32)) (fun (r22 : Int32) => some (r22, vM)) else if x1 = (5 : Int32) then o1 (f_X8_tests vM) (fun (r27 : Int32) => some (r27, vM)) else if x1 = (6 : Int32) then o1 (f_X8_seenMany vM) (fun (r32 : Int32) => some (r32, vM)) else if x1 = (7 : Int32) then o2 (f_X8_foundMany vM) (fun (r37 : Int32) (vM_38 : Vs) => some (r37, vM_38)) else lp f_X8_told_L91 (fun _ _ _ => none) FU (0 : Int32) (0 : Int32) vM
abbrev wsX8_told : List Cond := .code yX8_told cX8_told 4 (some .int) :: UW
abbrev rmX8_told : Room := { frames := 7, cells := 0, slots := 0, locals := 164 }
set_option maxHeartbeats 4000000 in
set_option maxRecDepth 100000 in
theorem c_X8_told (l : Launch) (g : Gx) (bM : Nat → Nat) (vM : Vs) (x1 : Int32) (r : Int32) (vM1 : Vs) (hf : f_X8_told vM x1 = some (r, vM1)) : CtI l yX8_told wsX8_told rmX8_told g [.ref (bM 0), .int x1] (cM g bM vM) (cM g bM vM1) r 0 0 := by
  unfold CtI
  intro sz
  refine Met.ofW (cc := cX8_told) (maxL := 4) (ret := (some .int)) (by decide) rfl ?_
  intro p e s m args below meth c s₁ B hml hv
  obtain ⟨rfl, hsz, hP, hK, hD0, hG⟩ := hv
  have hx := B.exec
  have hb := B.bytes
  have hr := B.returns
  have hts := atoms_spec (ws := wsX8_told) B.pre
  have hown : s.vm.findClass RX8 = some m.cls := findClass_of_methodNamed B.named
  have hlocks := B.notSynchronized
  subst hsz
  have hD := hD0.self (sz := s.heap.size)
  generalize hAe : va_A (cM g bM vM) s.heap.size = A at hD hG ⊢
  have hA : ∀ q : Nat, s.heap.size ≤ q → A q := fun q h => by rw [← hAe]; exact Or.inr h
  clear hAe hD0
  have hS : va_S A s.heap s.heap [] := va_S.rf
  have hl := lv_entry ([.ref (bM 0), .int x1]) (n := 4) (Nat.le_of_ble_eq_true rfl)
  rw [lg_entry_eq]
  generalize (lg_sl ([.ref (bM 0), .int x1]) ++ List.replicate (4 - (lg_sl ([.ref (bM 0), .int x1])).length) Slot.unset).toArray = ls at hl ⊢
  have hl : lv_has ls 4 [(0, .ref (bM 0)), (1, .int x1)] := hl
  have htu : ∀ w ∈ UW, w.before _ s = true := fun w h => hts w (List.mem_cons_of_mem _ h)
  unfold f_X8_told at hf
  obtain ⟨H, hH⟩ : ∃ z, z = s.heap := ⟨_, rfl⟩
  obtain ⟨locs, hlo⟩ : ∃ z : List Loc, z = [] := ⟨_, rfl⟩
  have hS : va_S A s.heap H locs := by rw [hH, hlo]; exact hS
  rw [← hH] at hP
  have hW : W p l e (headSpec wsX8_told rmX8_told).room s m ([.ref (bM 0), .int x1] : List Value).toArray below meth c H locs 0 0 (MQ below (qI g A (cM g bM vM1) r) ([.ref (bM 0), .int x1] : List Value).toArray s 0 0 A) (F0 m 0 ls []) := by
    refine lv_iconst (v := (0 : Int32)) hx hb dX8_told_0 (by decide) ?_
    refine lv_istore_n (lv' := [(2, .int (0 : Int32)), (0, .ref (bM 0)), (1, .int x1)]) hx hb dX8_told_1 rfl hl (by decide) rfl (fun ls hl => ?_)
    refine lv_iload_n hx hb dX8_told_2 rfl (lv_at hl 2 rfl) ?_
    by_cases c1 : x1 = (0 : Int32)
    · have hf := it_t hf c1
      refine lv_tableIn (off := 45) (tgt := 48) hx hb dX8_told_3 (by rw [c1]; decide) (by rw [c1]; decide) (by rw [c1]; rfl) (by decide) ?_
      refine lv_aload_n hx hb dX8_told_48 rfl (lv_at hl 1 rfl) ?_
      obtain ⟨r2, hg3, hf⟩ := o1_at hf
      refine k_viW ⟨hx, hb, hml, hown, htu⟩ hK hP hD hS hA hG (c_X8_inputs l g bM vM r2 hg3) (cwV 0 htu (gU_V mw_6_36 hcX8_inputs) rfl rfl rfl hdX8_inputs ⟨Nat.le_of_ble_eq_true rfl, Nat.le_of_ble_eq_true rfl⟩) (q0 := 0) (ci := 8) (fs := fcM bM vM) (q := (RX8, TX8, 23)) rfl rfl rfl (As := []) (rest := []) rfl rfl hl.1 (Nat.le_of_ble_eq_true rfl) dX8_told_49 (k1 := 0) (n1 := 0) rfl rfl ⟨Nat.zero_le _, Nat.zero_le _⟩ (fun H locs hP hD hS => ?_)
      obtain ⟨e4, e5⟩ := kp_2 hf
      rw [e5] at hP hD
      exact k_iret hx hb hr hlocks hK hP hD hS e4 dX8_told_52
    · have hf := it_f hf c1
      by_cases c6 : x1 = (1 : Int32)
      · have hf := it_t hf c6
        refine lv_tableIn (off := 50) (tgt := 53) hx hb dX8_told_3 (by rw [c6]; decide) (by rw [c6]; decide) (by rw [c6]; rfl) (by decide) ?_
        refine lv_aload_n hx hb dX8_told_53 rfl (lv_at hl 1 rfl) ?_
        obtain ⟨r7, hg8, hf⟩ := o1_at hf
        refine k_viW ⟨hx, hb, hml, hown, htu⟩ hK hP hD hS hA hG (c_X8_wires l g bM vM r7 hg8) (cwV 0 htu (gU_V mw_6_24 hcX8_wires) rfl rfl rfl hdX8_wires ⟨Nat.le_of_ble_eq_true rfl, Nat.le_of_ble_eq_true rfl⟩) (q0 := 0) (ci := 8) (fs := fcM bM vM) (q := (RX8, TX8, 23)) rfl rfl rfl (As := []) (rest := []) rfl rfl hl.1 (Nat.le_of_ble_eq_true rfl) dX8_told_54 (k1 := 0) (n1 := 0) rfl rfl ⟨Nat.zero_le _, Nat.zero_le _⟩ (fun H locs hP hD hS => ?_)
        obtain ⟨e9, e10⟩ := kp_2 hf
        rw [e10] at hP hD
        exact k_iret hx hb hr hlocks hK hP hD hS e9 dX8_told_57
      · have hf := it_f hf c6
        by_cases c11 : x1 = (2 : Int32)
        · have hf := it_t hf c11
          refine lv_tableIn (off := 55) (tgt := 58) hx hb dX8_told_3 (by rw [c11]; decide) (by rw [c11]; decide) (by rw [c11]; rfl) (by decide) ?_
          refine lv_aload_n hx hb dX8_told_58 rfl (lv_at hl 1 rfl) ?_
          obtain ⟨r12, hg13, hf⟩ := o1_at hf
          refine k_viW ⟨hx, hb, hml, hown, htu⟩ hK hP hD hS hA hG (c_X8_outputs l g bM vM r12 hg13) (cwV 0 htu (gU_V mw_6_40 hcX8_outputs) rfl rfl rfl hdX8_outputs ⟨Nat.le_of_ble_eq_true rfl, Nat.le_of_ble_eq_true rfl⟩) (q0 := 0) (ci := 8) (fs := fcM bM vM) (q := (RX8, TX8, 23)) rfl rfl rfl (As := []) (rest := []) rfl rfl hl.1 (Nat.le_of_ble_eq_true rfl) dX8_told_59 (k1 := 0) (n1 := 0) rfl rfl ⟨Nat.zero_le _, Nat.zero_le _⟩ (fun H locs hP hD hS => ?_)
          obtain ⟨e14, e15⟩ := kp_2 hf
          rw [e15] at hP hD
          exact k_iret hx hb hr hlocks hK hP hD hS e14 dX8_told_62
        · have hf := it_f hf c11
          by_cases c16 : x1 = (3 : Int32)
          · have hf := it_t hf c16
            refine lv_tableIn (off := 60) (tgt := 63) hx hb dX8_told_3 (by rw [c16]; decide) (by rw [c16]; decide) (by rw [c16]; rfl) (by decide) ?_
            refine lv_aload_n hx hb dX8_told_63 rfl (lv_at hl 1 rfl) ?_
            obtain ⟨r17, hg18, hf⟩ := o1_at hf
            refine k_viW ⟨hx, hb, hml, hown, htu⟩ hK hP hD hS hA hG (c_X8_faults l g bM vM r17 hg18) (cwV 0 htu (gU_V mw_6_44 hcX8_faults) rfl rfl rfl hdX8_faults ⟨Nat.le_of_ble_eq_true rfl, Nat.le_of_ble_eq_true rfl⟩) (q0 := 0) (ci := 8) (fs := fcM bM vM) (q := (RX8, TX8, 23)) rfl rfl rfl (As := []) (rest := []) rfl rfl hl.1 (Nat.le_of_ble_eq_true rfl) dX8_told_64 (k1 := 0) (n1 := 0) rfl rfl ⟨Nat.zero_le _, Nat.zero_le _⟩ (fun H locs hP hD hS => ?_)
            obtain ⟨e19, e20⟩ := kp_2 hf
            rw [e20] at hP hD
            exact k_iret hx hb hr hlocks hK hP hD hS e19 dX8_told_67
          · have hf := it_f hf c16
            by_cases c21 : x1 = (4 : Int32)
            · have hf := it_t hf c21
              refine lv_tableIn (off := 65) (tgt := 68) hx hb dX8_told_3 (by rw [c21]; decide) (by rw [c21]; decide) (by rw [c21]; rfl) (by decide) ?_
              refine lv_aload_n hx hb dX8_told_68 rfl (lv_at hl 1 rfl) ?_
              refine lv_iconst (v := (3 : Int32)) hx hb dX8_told_69 (by decide) ?_
              obtain ⟨r22, hg23, hf⟩ := o1_at hf
              refine k_viW ⟨hx, hb, hml, hown, htu⟩ hK hP hD hS hA hG (c_X8_get l g bM vM (3 : Int32) r22 hg23) (cwV 1 htu (gU_V mw_6_20 hcX8_get) rfl rfl rfl hdX8_get ⟨Nat.le_of_ble_eq_true rfl, Nat.le_of_ble_eq_true rfl⟩) (q0 := 0) (ci := 8) (fs := fcM bM vM) (q := (RX8, TX8, 23)) rfl rfl rfl (As := [.int (3 : Int32)]) (rest := []) rfl rfl hl.1 (Nat.le_of_ble_eq_true rfl) dX8_told_70 (k1 := 0) (n1 := 0) rfl rfl ⟨Nat.zero_le _, Nat.zero_le _⟩ (fun H locs hP hD hS => ?_)
              obtain ⟨e24, e25⟩ := kp_2 hf
              rw [e25] at hP hD
              exact k_iret hx hb hr hlocks hK hP hD hS e24 dX8_told_73
            · have hf := it_f hf c21
              by_cases c26 : x1 = (5 : Int32)
              · have hf := it_t hf c26
                refine lv_tableIn (off := 71) (tgt := 74) hx hb dX8_told_3 (by rw [c26]; decide) (by rw [c26]; decide) (by rw [c26]; rfl) (by decide) ?_
                refine lv_aload_n hx hb dX8_told_74 rfl (lv_at hl 1 rfl) ?_
                obtain ⟨r27, hg28, hf⟩ := o1_at hf
                refine k_viW ⟨hx, hb, hml, hown, htu⟩ hK hP hD hS hA hG (c_X8_tests l g bM vM r27 hg28) (cwV 0 htu (gU_V mw_6_48 hcX8_tests) rfl rfl rfl hdX8_tests ⟨Nat.le_of_ble_eq_true rfl, Nat.le_of_ble_eq_true rfl⟩) (q0 := 0) (ci := 8) (fs := fcM bM vM) (q := (RX8, TX8, 23)) rfl rfl rfl (As := []) (rest := []) rfl rfl hl.1 (Nat.le_of_ble_eq_true rfl) dX8_told_75 (k1 := 0) (n1 := 0) rfl rfl ⟨Nat.zero_le _, Nat.zero_le _⟩ (fun H locs hP hD hS => ?_)
                obtain ⟨e29, e30⟩ := kp_2 hf
                rw [e30] at hP hD
                exact k_iret hx hb hr hlocks hK hP hD hS e29 dX8_told_78
              · have hf := it_f hf c26
                by_cases c31 : x1 = (6 : Int32)
                · have hf := it_t hf c31
                  refine lv_tableIn (off := 76) (tgt := 79) hx hb dX8_told_3 (by rw [c31]; decide) (by rw [c31]; decide) (by rw [c31]; rfl) (by decide) ?_
                  refine lv_aload_n hx hb dX8_told_79 rfl (lv_at hl 1 rfl) ?_
                  obtain ⟨r32, hg33, hf⟩ := o1_at hf
                  refine k_viW ⟨hx, hb, hml, hown, htu⟩ hK hP hD hS hA hG (c_X8_seenMany l g bM vM r32 hg33) (cwV 0 htu (gU_V mw_6_52 hcX8_seenMany) rfl rfl rfl hdX8_seenMany ⟨Nat.le_of_ble_eq_true rfl, Nat.le_of_ble_eq_true rfl⟩) (q0 := 0) (ci := 8) (fs := fcM bM vM) (q := (RX8, TX8, 23)) rfl rfl rfl (As := []) (rest := []) rfl rfl hl.1 (Nat.le_of_ble_eq_true rfl) dX8_told_80 (k1 := 0) (n1 := 0) rfl rfl ⟨Nat.zero_le _, Nat.zero_le _⟩ (fun H locs hP hD hS => ?_)
                  obtain ⟨e34, e35⟩ := kp_2 hf
                  rw [e35] at hP hD
                  exact k_iret hx hb hr hlocks hK hP hD hS e34 dX8_told_83
                · have hf := it_f hf c31
                  by_cases c36 : x1 = (7 : Int32)
                  · have hf := it_t hf c36
                    refine lv_tableIn (off := 81) (tgt := 84) hx hb dX8_told_3 (by rw [c36]; decide) (by rw [c36]; decide) (by rw [c36]; rfl) (by decide) ?_
                    refine lv_aload_n hx hb dX8_told_84 rfl (lv_at hl 1 rfl) ?_
                    obtain ⟨r37, vM_38, hg39, hf⟩ := o2_at hf
                    refine k_viW ⟨hx, hb, hml, hown, htu⟩ hK hP hD hS hA hG (c_X8_foundMany l g bM vM r37 vM_38 hg39) (cwV 0 htu (gU_V mw_6_60 hcX8_foundMany) rfl rfl rfl hdX8_foundMany ⟨Nat.le_of_ble_eq_true rfl, Nat.le_of_ble_eq_true rfl⟩) (q0 := 0) (ci := 8) (fs := fcM bM vM) (q := (RX8, TX8, 23)) rfl rfl rfl (As := []) (rest := []) rfl rfl hl.1 (Nat.le_of_ble_eq_true rfl) dX8_told_85 (k1 := 0) (n1 := 0) rfl rfl ⟨Nat.zero_le _, Nat.zero_le _⟩ (fun H locs hP hD hS => ?_)
                    obtain ⟨e40, e41⟩ := kp_2 hf
                    rw [e41] at hP hD
                    exact k_iret hx hb hr hlocks hK hP hD hS e40 dX8_told_88
                  · have hf := it_f hf c36
                    refine lv_tableOut (tgt := 89) hx hb dX8_told_3 (by
                      have zc1 : ¬ (x1).toInt = 0 := fun h9 => c1 (Int32.toInt_inj.mp (h9.trans (by decide)))
                      have zc6 : ¬ (x1).toInt = 1 := fun h9 => c6 (Int32.toInt_inj.mp (h9.trans (by decide)))
                      have zc11 : ¬ (x1).toInt = 2 := fun h9 => c11 (Int32.toInt_inj.mp (h9.trans (by decide)))
                      have zc16 : ¬ (x1).toInt = 3 := fun h9 => c16 (Int32.toInt_inj.mp (h9.trans (by decide)))
                      have zc21 : ¬ (x1).toInt = 4 := fun h9 => c21 (Int32.toInt_inj.mp (h9.trans (by decide)))
                      have zc26 : ¬ (x1).toInt = 5 := fun h9 => c26 (Int32.toInt_inj.mp (h9.trans (by decide)))
                      have zc31 : ¬ (x1).toInt = 6 := fun h9 => c31 (Int32.toInt_inj.mp (h9.trans (by decide)))
                      have zc36 : ¬ (x1).toInt = 7 := fun h9 => c36 (Int32.toInt_inj.mp (h9.trans (by decide)))
                      omega) (by decide) ?_
                    refine lv_iconst (v := (0 : Int32)) hx hb dX8_told_89 (by decide) ?_
                    refine lv_istore_n (lv' := [(3, .int (0 : Int32)), (2, .int (0 : Int32)), (0, .ref (bM 0)), (1, .int x1)]) hx hb dX8_told_90 rfl hl (by decide) rfl (fun ls hl => ?_)
                    have hL46 : ∀ (x2_42 : Int32) (x3_43 : Int32) (vM_44 : Vs), lp f_X8_told_L91 (fun _ _ _ => none) FU x2_42 x3_43 vM_44 = some (r, vM1) → ∀ (H : Heap) (locs : List Loc), va_P g.1 vwCl (cM g bM vM_44) H → va_D A (cM g bM vM_44) → va_S A s.heap H locs → ∀ ls : Array Slot, lv_has ls 4 [(0, .ref (bM 0)), (2, .int x2_42), (3, .int x3_43)] → W p l e (headSpec wsX8_told rmX8_told).room s m ([.ref (bM 0), .int x1] : List Value).toArray below meth c H locs 0 0 (MQ below (qI g A (cM g bM vM1) r) ([.ref (bM 0), .int x1] : List Value).toArray s 0 0 A) (F0 m 91 ls []) := by
                      refine lp_ind (T := Int32 → Int32 → Vs → Option (Int32 × Vs)) (fun self45 => ∀ (x2_42 : Int32) (x3_43 : Int32) (vM_44 : Vs), self45 x2_42 x3_43 vM_44 = some (r, vM1) → ∀ (H : Heap) (locs : List Loc), va_P g.1 vwCl (cM g bM vM_44) H → va_D A (cM g bM vM_44) → va_S A s.heap H locs → ∀ ls : Array Slot, lv_has ls 4 [(0, .ref (bM 0)), (2, .int x2_42), (3, .int x3_43)] → W p l e (headSpec wsX8_told rmX8_told).room s m ([.ref (bM 0), .int x1] : List Value).toArray below meth c H locs 0 0 (MQ below (qI g A (cM g bM vM1) r) ([.ref (bM 0), .int x1] : List Value).toArray s 0 0 A) (F0 m 91 ls [])) ?_ ?_ FU
                      · intro x2_42 x3_43 vM_44 hf; cases hf
                      · intro self45 ih47 x2_42 x3_43 vM_44 hf H locs hP hD hS ls hl
                        unfold f_X8_told_L91 at hf
                        refine lv_iload_n hx hb dX8_told_91 rfl (lv_at hl 2 rfl) ?_
                        refine lv_aload_n hx hb dX8_told_92 rfl (lv_at hl 0 rfl) ?_
                        obtain ⟨r48, hg49, hf⟩ := o1_at hf
                        refine k_viW ⟨hx, hb, hml, hown, htu⟩ hK hP hD hS hA hG (c_X8_wires l g bM vM_44 r48 hg49) (cwV 0 htu (gU_V mw_6_24 hcX8_wires) rfl rfl rfl hdX8_wires ⟨Nat.le_of_ble_eq_true rfl, Nat.le_of_ble_eq_true rfl⟩) (q0 := 0) (ci := 8) (fs := fcM bM vM_44) (q := (RX8, TX8, 23)) rfl rfl rfl (As := []) (rest := [.int x3_43]) rfl rfl hl.1 (Nat.le_of_ble_eq_true rfl) dX8_told_93 (k1 := 0) (n1 := 0) rfl rfl ⟨Nat.zero_le _, Nat.zero_le _⟩ (fun H locs hP hD hS => ?_)
                        refine lv_icmp_ge (tgt := 124) hx hb dX8_told_96 (by decide) (fun c50 => ?_) (fun c50 => ?_)
                        · have hf := it_t hf c50
                          refine lv_iload_n hx hb dX8_told_124 rfl (lv_at hl 1 rfl) ?_
                          obtain ⟨e51, e52⟩ := kp_2 hf
                          rw [e52] at hP hD
                          exact k_iret hx hb hr hlocks hK hP hD hS e51 dX8_told_125
                        · have hf := it_f hf c50
                          refine lv_aload_n hx hb dX8_told_99 rfl (lv_at hl 0 rfl) ?_
                          refine lv_iload_n hx hb dX8_told_100 rfl (lv_at hl 2 rfl) ?_
                          obtain ⟨r53, vM_54, hg55, hf⟩ := o2_at hf
                          refine k_viW ⟨hx, hb, hml, hown, htu⟩ hK hP hD hS hA hG (c_X8_levelOf l g bM vM_44 x3_43 r53 vM_54 hg55) (cwV 1 htu (gU_V mw_6_110 hcX8_levelOf) rfl rfl rfl hdX8_levelOf ⟨Nat.le_of_ble_eq_true rfl, Nat.le_of_ble_eq_true rfl⟩) (q0 := 0) (ci := 8) (fs := fcM bM vM_44) (q := (RX8, TX8, 23)) rfl rfl rfl (As := [.int x3_43]) (rest := []) rfl rfl hl.1 (Nat.le_of_ble_eq_true rfl) dX8_told_101 (k1 := 0) (n1 := 0) rfl rfl ⟨Nat.zero_le _, Nat.zero_le _⟩ (fun H locs hP hD hS => ?_)
                          refine lv_iload_n hx hb dX8_told_104 rfl (lv_at hl 1 rfl) ?_
                          obtain ⟨k58, hk60, hf⟩ := jn_at hf
                          have hJ59 : ∀ (t56 : Int32) (vM_57 : Vs), k58 t56 vM_57 = some (r, vM1) → ∀ (H : Heap) (locs : List Loc), va_P g.1 vwCl (cM g bM vM_57) H → va_D A (cM g bM vM_57) → va_S A s.heap H locs → ∀ ls : Array Slot, lv_has ls 4 [(0, .ref (bM 0)), (3, .int x3_43)] → W p l e (headSpec wsX8_told rmX8_told).room s m ([.ref (bM 0), .int x1] : List Value).toArray below meth c H locs 0 0 (MQ below (qI g A (cM g bM vM1) r) ([.ref (bM 0), .int x1] : List Value).toArray s 0 0 A) (F0 m 117 ls [.int t56]) := by
                            intro t56 vM_57 hf H locs hP hD hS ls hl
                            rw [hk60] at hf
                            dsimp only at hf
                            clear hk60
                            refine lv_istore_n (lv' := [(2, .int t56), (0, .ref (bM 0)), (3, .int x3_43)]) hx hb dX8_told_117 rfl hl (by decide) rfl (fun ls hl => ?_)
                            refine lv_iinc (v := (x3_43 + (1 : Int32))) (lv' := [(3, .int (x3_43 + (1 : Int32))), (2, .int t56), (0, .ref (bM 0))]) hx hb dX8_told_118 hl (k := 2) rfl rfl (by decide) rfl (fun ls hl => ?_)
                            refine lv_goto (tgt := 91) hx hb dX8_told_121 (by decide) ?_
                            exact ih47 t56 (x3_43 + (1 : Int32)) vM_57 hf H locs hP hD hS _ (lv_sub hl [2, 1, 0] rfl)
                          refine lv_icmp_le (tgt := 116) hx hb dX8_told_105 (by decide) (fun c61 => ?_) (fun c61 => ?_)
                          · have hf := it_t hf c61
                            refine lv_iload_n hx hb dX8_told_116 rfl (lv_at hl 1 rfl) ?_
                            exact hJ59 x2_42 vM_54 hf H locs hP hD hS _ (lv_sub hl [0, 2] rfl)
                          · have hf := it_f hf c61
                            refine lv_aload_n hx hb dX8_told_108 rfl (lv_at hl 0 rfl) ?_
                            refine lv_iload_n hx hb dX8_told_109 rfl (lv_at hl 2 rfl) ?_
                            obtain ⟨r62, vM_63, hg64, hf⟩ := o2_at hf
                            refine k_viW ⟨hx, hb, hml, hown, htu⟩ hK hP hD hS hA hG (c_X8_levelOf l g bM vM_54 x3_43 r62 vM_63 hg64) (cwV 1 htu (gU_V mw_6_110 hcX8_levelOf) rfl rfl rfl hdX8_levelOf ⟨Nat.le_of_ble_eq_true rfl, Nat.le_of_ble_eq_true rfl⟩) (q0 := 0) (ci := 8) (fs := fcM bM vM_54) (q := (RX8, TX8, 23)) rfl rfl rfl (As := [.int x3_43]) (rest := []) rfl rfl hl.1 (Nat.le_of_ble_eq_true rfl) dX8_told_110 (k1 := 0) (n1 := 0) rfl rfl ⟨Nat.zero_le _, Nat.zero_le _⟩ (fun H locs hP hD hS => ?_)
                            refine lv_goto (tgt := 117) hx hb dX8_told_113 (by decide) ?_
                            exact hJ59 r62 vM_63 hf H locs hP hD hS _ (lv_sub hl [0, 2] rfl)
                    exact hL46 (0 : Int32) (0 : Int32) vM hf H locs hP hD hS _ (lv_sub hl [2, 1, 0] rfl)
  rw [hH, hlo] at hW
  exact hW
def f_X8_state (vM : Vs) (x1 : Int32) : Option (Int32 × Vs) :=
  bn (sF vM 0 (0 : Int32)) (fun (vM_1 : Vs) => o1 (f_X8_isIn x1 (0 : Int32) (8 : Int32)) (fun (r2 : Int32) => o2 (f_X8_right vM_1 r2 (1 : Int32)) (fun (r4 : Int32) (vM_5 : Vs) => jn (fun (t7 : Int32) (vM_8 : Vs) => some (t7, vM_8)) (fun k9 => if r4 = 0 then k9 (0 : Int32) vM_5 else o2 (f_X8_told vM_5 x1) (fun (r15 : Int32) (vM_16 : Vs) => k9 r15 vM_16)))))
abbrev wsX8_state : List Cond := .code yX8_state cX8_state 2 (some .int) :: UW
abbrev rmX8_state : Room := { frames := 8, cells := 0, slots := 0, locals := 187 }
set_option maxHeartbeats 4000000 in
set_option maxRecDepth 100000 in
theorem c_X8_state (l : Launch) (g : Gx) (bM : Nat → Nat) (vM : Vs) (x1 : Int32) (r : Int32) (vM1 : Vs) (hf : f_X8_state vM x1 = some (r, vM1)) : CtI l yX8_state wsX8_state rmX8_state g [.ref (bM 0), .int x1] (cM g bM vM) (cM g bM vM1) r 0 0 := by
  unfold CtI
  intro sz
  refine Met.ofW (cc := cX8_state) (maxL := 2) (ret := (some .int)) (by decide) rfl ?_
  intro p e s m args below meth c s₁ B hml hv
  obtain ⟨rfl, hsz, hP, hK, hD0, hG⟩ := hv
  have hx := B.exec
  have hb := B.bytes
  have hr := B.returns
  have hts := atoms_spec (ws := wsX8_state) B.pre
  have hown : s.vm.findClass RX8 = some m.cls := findClass_of_methodNamed B.named
  have hlocks := B.notSynchronized
  subst hsz
  have hD := hD0.self (sz := s.heap.size)
  generalize hAe : va_A (cM g bM vM) s.heap.size = A at hD hG ⊢
  have hA : ∀ q : Nat, s.heap.size ≤ q → A q := fun q h => by rw [← hAe]; exact Or.inr h
  clear hAe hD0
  have hS : va_S A s.heap s.heap [] := va_S.rf
  have hl := lv_entry ([.ref (bM 0), .int x1]) (n := 2) (Nat.le_of_ble_eq_true rfl)
  rw [lg_entry_eq]
  generalize (lg_sl ([.ref (bM 0), .int x1]) ++ List.replicate (2 - (lg_sl ([.ref (bM 0), .int x1])).length) Slot.unset).toArray = ls at hl ⊢
  have hl : lv_has ls 2 [(0, .ref (bM 0)), (1, .int x1)] := hl
  have htu : ∀ w ∈ UW, w.before _ s = true := fun w h => hts w (List.mem_cons_of_mem _ h)
  have k_5_72 := htu _ mw_5_72
  unfold f_X8_state at hf
  obtain ⟨H, hH⟩ : ∃ z, z = s.heap := ⟨_, rfl⟩
  obtain ⟨locs, hlo⟩ : ∃ z : List Loc, z = [] := ⟨_, rfl⟩
  have hS : va_S A s.heap H locs := by rw [hH, hlo]; exact hS
  rw [← hH] at hP
  have hW : W p l e (headSpec wsX8_state rmX8_state).room s m ([.ref (bM 0), .int x1] : List Value).toArray below meth c H locs 0 0 (MQ below (qI g A (cM g bM vM1) r) ([.ref (bM 0), .int x1] : List Value).toArray s 0 0 A) (F0 m 0 ls []) := by
    refine lv_aload_n hx hb dX8_state_0 rfl (lv_at hl 0 rfl) ?_
    refine lv_iconst (v := (0 : Int32)) hx hb dX8_state_1 (by decide) ?_
    refine va_put (D := g.1) (ci := 8) (fs := fcM bM vM) (v := .int (0 : Int32)) (ty := .int) (C := RX8) (T := TX8) (N := 23) hx hb htu hinX8 tyX8 tyX8_ok nmX8 hown hK hP hD hS 0 rfl rfl 0 (by decide) k_5_72 (fun _ h9 => h9) rfl (by decide +kernel) rfl rfl (Nat.le_of_ble_eq_true rfl) dX8_state_2 (fun H locs hP hD hS => ?_)
    obtain ⟨vM_1, evM_1⟩ : ∃ z, z = sF vM 0 (0 : Int32) := ⟨_, rfl⟩
    have hf := bn_at hf evM_1
    have hP : va_P g.1 vwCl (cM g bM vM_1) H := by rw [evM_1]; exact hP
    have hD : va_D A (cM g bM vM_1) := by rw [evM_1]; exact hD
    refine lv_aload_n hx hb dX8_state_5 rfl (lv_at hl 0 rfl) ?_
    refine lv_iload_n hx hb dX8_state_6 rfl (lv_at hl 1 rfl) ?_
    refine lv_iconst (v := (0 : Int32)) hx hb dX8_state_7 (by decide) ?_
    refine lv_bipush (v := (8 : Int32)) hx hb dX8_state_8 (by decide) ?_
    obtain ⟨r2, hg3, hf⟩ := o1_at hf
    refine k_si0 ⟨hx, hb, hml, hown, htu⟩ hK hP hD hS hA hG (c_X8_isIn l g x1 (0 : Int32) (8 : Int32) r2 hg3) (va_cwS 3 htu (gU_S mw_5_163 hcX8_isIn) rfl rfl rfl hdX8_isIn ⟨Nat.le_of_ble_eq_true rfl, Nat.le_of_ble_eq_true rfl⟩) (As := [.int x1, .int (0 : Int32), .int (8 : Int32)]) (rest := [.ref (bM 0)]) rfl rfl hl.1 (Nat.le_of_ble_eq_true rfl) dX8_state_10 (k1 := 0) (n1 := 0) rfl rfl ⟨Nat.zero_le _, Nat.zero_le _⟩ (fun H locs hP hD hS => ?_)
    refine lv_iconst (v := (1 : Int32)) hx hb dX8_state_13 (by decide) ?_
    obtain ⟨r4, vM_5, hg6, hf⟩ := o2_at hf
    refine k_viW ⟨hx, hb, hml, hown, htu⟩ hK hP hD hS hA hG (c_X8_right l g bM vM_1 r2 (1 : Int32) r4 vM_5 hg6) (cwV 2 htu (gU_V mw_5_166 hcX8_right) rfl rfl rfl hdX8_right ⟨Nat.le_of_ble_eq_true rfl, Nat.le_of_ble_eq_true rfl⟩) (q0 := 0) (ci := 8) (fs := fcM bM vM_1) (q := (RX8, TX8, 23)) rfl rfl rfl (As := [.int r2, .int (1 : Int32)]) (rest := []) rfl rfl hl.1 (Nat.le_of_ble_eq_true rfl) dX8_state_14 (k1 := 0) (n1 := 0) rfl rfl ⟨Nat.zero_le _, Nat.zero_le _⟩ (fun H locs hP hD hS => ?_)
    obtain ⟨k9, hk13, hf⟩ := jn_at hf
    have hJ10 : ∀ (t7 : Int32) (vM_8 : Vs), k9 t7 vM_8 = some (r, vM1) → ∀ (H : Heap) (locs : List Loc), va_P g.1 vwCl (cM g bM vM_8) H → va_D A (cM g bM vM_8) → va_S A s.heap H locs → ∀ ls : Array Slot, lv_has ls 2 [] → W p l e (headSpec wsX8_state rmX8_state).room s m ([.ref (bM 0), .int x1] : List Value).toArray below meth c H locs 0 0 (MQ below (qI g A (cM g bM vM1) r) ([.ref (bM 0), .int x1] : List Value).toArray s 0 0 A) (F0 m 29 ls [.int t7]) := by
      intro t7 vM_8 hf H locs hP hD hS ls hl
      rw [hk13] at hf
      dsimp only at hf
      clear hk13
      obtain ⟨e11, e12⟩ := kp_2 hf
      rw [e12] at hP hD
      exact k_iret hx hb hr hlocks hK hP hD hS e11 dX8_state_29
    refine lv_if_eq (tgt := 28) hx hb dX8_state_17 (by decide) (fun c14 => ?_) (fun c14 => ?_)
    · have hf := it_t hf c14
      refine lv_iconst (v := (0 : Int32)) hx hb dX8_state_28 (by decide) ?_
      exact hJ10 (0 : Int32) vM_5 hf H locs hP hD hS _ (lv_sub hl [] rfl)
    · have hf := it_f hf c14
      refine lv_aload_n hx hb dX8_state_20 rfl (lv_at hl 0 rfl) ?_
      refine lv_iload_n hx hb dX8_state_21 rfl (lv_at hl 1 rfl) ?_
      obtain ⟨r15, vM_16, hg17, hf⟩ := o2_at hf
      refine k_viW ⟨hx, hb, hml, hown, htu⟩ hK hP hD hS hA hG (c_X8_told l g bM vM_5 x1 r15 vM_16 hg17) (cwV 1 htu (gU_V mw_6_32 hcX8_told) rfl rfl rfl hdX8_told ⟨Nat.le_of_ble_eq_true rfl, Nat.le_of_ble_eq_true rfl⟩) (q0 := 0) (ci := 8) (fs := fcM bM vM_5) (q := (RX8, TX8, 23)) rfl rfl rfl (As := [.int x1]) (rest := []) rfl rfl hl.1 (Nat.le_of_ble_eq_true rfl) dX8_state_22 (k1 := 0) (n1 := 0) rfl rfl ⟨Nat.zero_le _, Nat.zero_le _⟩ (fun H locs hP hD hS => ?_)
      refine lv_goto (tgt := 29) hx hb dX8_state_25 (by decide) ?_
      exact hJ10 r15 vM_16 hf H locs hP hD hS _ (lv_sub hl [] rfl)
  rw [hH, hlo] at hW
  exact hW
def f_X8_usesOf_L18 (vM : Vs) (x1 : Int32) (x3_4 : Int32) (self5 : Int32 → Int32 → Option (Int32)) (self14 : Int32 → Int32 → Option (Int32)) (x2_12 : Int32) (x4_13 : Int32) : Option (Int32) :=
  o1 (f_X8_have vM x3_4) (fun (r17 : Int32) => if r17 ≤ x4_13 then self5 x2_12 (x3_4 + (1 : Int32)) else o1 (f_X8_operandOf vM x3_4 x4_13) (fun (r20 : Int32) => jn (fun (t22 : Int32) => self14 (x2_12 + t22) (x4_13 + (1 : Int32))) (fun k23 => if r20 = x1 then k23 (1 : Int32) else k23 (0 : Int32))))
def f_X8_usesOf_L7 (vM : Vs) (x1 : Int32) (self5 : Int32 → Int32 → Option (Int32)) (x2_3 : Int32) (x3_4 : Int32) : Option (Int32) :=
  o1 (f_X8_wires vM) (fun (r8 : Int32) => if r8 ≤ x3_4 then some (x2_3) else lp (f_X8_usesOf_L18 vM x1 x3_4 self5) (fun _ _ => none) FU x2_3 (0 : Int32))
def f_X8_usesOf (vM : Vs) (x1 : Int32) : Option (Int32) :=
  o1 (f_X8_inputs vM) (fun (r1 : Int32) => lp (f_X8_usesOf_L7 vM x1) (fun _ _ => none) FU (0 : Int32) r1)
abbrev wsX8_usesOf : List Cond := .code yX8_usesOf cX8_usesOf 5 (some .int) :: UW
abbrev rmX8_usesOf : Room := { frames := 2, cells := 0, slots := 0, locals := 43 }
set_option maxHeartbeats 4000000 in
set_option maxRecDepth 100000 in
theorem c_X8_usesOf (l : Launch) (g : Gx) (bM : Nat → Nat) (vM : Vs) (x1 : Int32) (r : Int32) (hf : f_X8_usesOf vM x1 = some r) : CtI l yX8_usesOf wsX8_usesOf rmX8_usesOf g [.ref (bM 0), .int x1] (cM g bM vM) (cM g bM vM) r 0 0 := by
  unfold CtI
  intro sz
  refine Met.ofW (cc := cX8_usesOf) (maxL := 5) (ret := (some .int)) (by decide) rfl ?_
  intro p e s m args below meth c s₁ B hml hv
  obtain ⟨rfl, hsz, hP, hK, hD0, hG⟩ := hv
  have hx := B.exec
  have hb := B.bytes
  have hr := B.returns
  have hts := atoms_spec (ws := wsX8_usesOf) B.pre
  have hown : s.vm.findClass RX8 = some m.cls := findClass_of_methodNamed B.named
  have hlocks := B.notSynchronized
  subst hsz
  have hD := hD0.self (sz := s.heap.size)
  generalize hAe : va_A (cM g bM vM) s.heap.size = A at hD hG ⊢
  have hA : ∀ q : Nat, s.heap.size ≤ q → A q := fun q h => by rw [← hAe]; exact Or.inr h
  clear hAe hD0
  have hS : va_S A s.heap s.heap [] := va_S.rf
  have hl := lv_entry ([.ref (bM 0), .int x1]) (n := 5) (Nat.le_of_ble_eq_true rfl)
  rw [lg_entry_eq]
  generalize (lg_sl ([.ref (bM 0), .int x1]) ++ List.replicate (5 - (lg_sl ([.ref (bM 0), .int x1])).length) Slot.unset).toArray = ls at hl ⊢
  have hl : lv_has ls 5 [(0, .ref (bM 0)), (1, .int x1)] := hl
  have htu : ∀ w ∈ UW, w.before _ s = true := fun w h => hts w (List.mem_cons_of_mem _ h)
  unfold f_X8_usesOf at hf
  obtain ⟨H, hH⟩ : ∃ z, z = s.heap := ⟨_, rfl⟩
  obtain ⟨locs, hlo⟩ : ∃ z : List Loc, z = [] := ⟨_, rfl⟩
  have hS : va_S A s.heap H locs := by rw [hH, hlo]; exact hS
  rw [← hH] at hP
  have hW : W p l e (headSpec wsX8_usesOf rmX8_usesOf).room s m ([.ref (bM 0), .int x1] : List Value).toArray below meth c H locs 0 0 (MQ below (qI g A (cM g bM vM) r) ([.ref (bM 0), .int x1] : List Value).toArray s 0 0 A) (F0 m 0 ls []) := by
    refine lv_iconst (v := (0 : Int32)) hx hb dX8_usesOf_0 (by decide) ?_
    refine lv_istore_n (lv' := [(2, .int (0 : Int32)), (0, .ref (bM 0)), (1, .int x1)]) hx hb dX8_usesOf_1 rfl hl (by decide) rfl (fun ls hl => ?_)
    refine lv_aload_n hx hb dX8_usesOf_2 rfl (lv_at hl 1 rfl) ?_
    obtain ⟨r1, hg2, hf⟩ := o1_at hf
    refine k_viW ⟨hx, hb, hml, hown, htu⟩ hK hP hD hS hA hG (c_X8_inputs l g bM vM r1 hg2) (cwV 0 htu (gU_V mw_6_36 hcX8_inputs) rfl rfl rfl hdX8_inputs ⟨Nat.le_of_ble_eq_true rfl, Nat.le_of_ble_eq_true rfl⟩) (q0 := 0) (ci := 8) (fs := fcM bM vM) (q := (RX8, TX8, 23)) rfl rfl rfl (As := []) (rest := []) rfl rfl hl.1 (Nat.le_of_ble_eq_true rfl) dX8_usesOf_3 (k1 := 0) (n1 := 0) rfl rfl ⟨Nat.zero_le _, Nat.zero_le _⟩ (fun H locs hP hD hS => ?_)
    refine lv_istore_n (lv' := [(3, .int r1), (2, .int (0 : Int32)), (0, .ref (bM 0)), (1, .int x1)]) hx hb dX8_usesOf_6 rfl hl (by decide) rfl (fun ls hl => ?_)
    have hL6 : ∀ (x2_3 : Int32) (x3_4 : Int32), lp (f_X8_usesOf_L7 vM x1) (fun _ _ => none) FU x2_3 x3_4 = some r → ∀ (H : Heap) (locs : List Loc), va_P g.1 vwCl (cM g bM vM) H → va_D A (cM g bM vM) → va_S A s.heap H locs → ∀ ls : Array Slot, lv_has ls 5 [(0, .ref (bM 0)), (1, .int x1), (2, .int x2_3), (3, .int x3_4)] → W p l e (headSpec wsX8_usesOf rmX8_usesOf).room s m ([.ref (bM 0), .int x1] : List Value).toArray below meth c H locs 0 0 (MQ below (qI g A (cM g bM vM) r) ([.ref (bM 0), .int x1] : List Value).toArray s 0 0 A) (F0 m 7 ls []) := by
      refine lp_ind (T := Int32 → Int32 → Option (Int32)) (fun self5 => ∀ (x2_3 : Int32) (x3_4 : Int32), self5 x2_3 x3_4 = some r → ∀ (H : Heap) (locs : List Loc), va_P g.1 vwCl (cM g bM vM) H → va_D A (cM g bM vM) → va_S A s.heap H locs → ∀ ls : Array Slot, lv_has ls 5 [(0, .ref (bM 0)), (1, .int x1), (2, .int x2_3), (3, .int x3_4)] → W p l e (headSpec wsX8_usesOf rmX8_usesOf).room s m ([.ref (bM 0), .int x1] : List Value).toArray below meth c H locs 0 0 (MQ below (qI g A (cM g bM vM) r) ([.ref (bM 0), .int x1] : List Value).toArray s 0 0 A) (F0 m 7 ls [])) ?_ ?_ FU
      · intro x2_3 x3_4 hf; cases hf
      · intro self5 ih7 x2_3 x3_4 hf H locs hP hD hS ls hl
        unfold f_X8_usesOf_L7 at hf
        refine lv_iload_n hx hb dX8_usesOf_7 rfl (lv_at hl 3 rfl) ?_
        refine lv_aload_n hx hb dX8_usesOf_8 rfl (lv_at hl 0 rfl) ?_
        obtain ⟨r8, hg9, hf⟩ := o1_at hf
        refine k_viW ⟨hx, hb, hml, hown, htu⟩ hK hP hD hS hA hG (c_X8_wires l g bM vM r8 hg9) (cwV 0 htu (gU_V mw_6_24 hcX8_wires) rfl rfl rfl hdX8_wires ⟨Nat.le_of_ble_eq_true rfl, Nat.le_of_ble_eq_true rfl⟩) (q0 := 0) (ci := 8) (fs := fcM bM vM) (q := (RX8, TX8, 23)) rfl rfl rfl (As := []) (rest := [.int x3_4]) rfl rfl hl.1 (Nat.le_of_ble_eq_true rfl) dX8_usesOf_9 (k1 := 0) (n1 := 0) rfl rfl ⟨Nat.zero_le _, Nat.zero_le _⟩ (fun H locs hP hD hS => ?_)
        refine lv_icmp_ge (tgt := 59) hx hb dX8_usesOf_12 (by decide) (fun c10 => ?_) (fun c10 => ?_)
        · have hf := it_t hf c10
          refine lv_iload_n hx hb dX8_usesOf_59 rfl (lv_at hl 2 rfl) ?_
          have e11 := Option.some.inj hf
          exact k_iret hx hb hr hlocks hK hP hD hS e11 dX8_usesOf_60
        · have hf := it_f hf c10
          refine lv_iconst (v := (0 : Int32)) hx hb dX8_usesOf_15 (by decide) ?_
          refine lv_istore (lv' := [(4, .int (0 : Int32)), (0, .ref (bM 0)), (1, .int x1), (2, .int x2_3), (3, .int x3_4)]) hx hb dX8_usesOf_16 hl (by decide) rfl (fun ls hl => ?_)
          have hL15 : ∀ (x2_12 : Int32) (x4_13 : Int32), lp (f_X8_usesOf_L18 vM x1 x3_4 self5) (fun _ _ => none) FU x2_12 x4_13 = some r → ∀ (H : Heap) (locs : List Loc), va_P g.1 vwCl (cM g bM vM) H → va_D A (cM g bM vM) → va_S A s.heap H locs → ∀ ls : Array Slot, lv_has ls 5 [(0, .ref (bM 0)), (1, .int x1), (2, .int x2_12), (3, .int x3_4), (4, .int x4_13)] → W p l e (headSpec wsX8_usesOf rmX8_usesOf).room s m ([.ref (bM 0), .int x1] : List Value).toArray below meth c H locs 0 0 (MQ below (qI g A (cM g bM vM) r) ([.ref (bM 0), .int x1] : List Value).toArray s 0 0 A) (F0 m 18 ls []) := by
            refine lp_ind (T := Int32 → Int32 → Option (Int32)) (fun self14 => ∀ (x2_12 : Int32) (x4_13 : Int32), self14 x2_12 x4_13 = some r → ∀ (H : Heap) (locs : List Loc), va_P g.1 vwCl (cM g bM vM) H → va_D A (cM g bM vM) → va_S A s.heap H locs → ∀ ls : Array Slot, lv_has ls 5 [(0, .ref (bM 0)), (1, .int x1), (2, .int x2_12), (3, .int x3_4), (4, .int x4_13)] → W p l e (headSpec wsX8_usesOf rmX8_usesOf).room s m ([.ref (bM 0), .int x1] : List Value).toArray below meth c H locs 0 0 (MQ below (qI g A (cM g bM vM) r) ([.ref (bM 0), .int x1] : List Value).toArray s 0 0 A) (F0 m 18 ls [])) ?_ ?_ FU
            · intro x2_12 x4_13 hf; cases hf
            · intro self14 ih16 x2_12 x4_13 hf H locs hP hD hS ls hl
              unfold f_X8_usesOf_L18 at hf
              refine lv_iload hx hb dX8_usesOf_18 (lv_at hl 4 rfl) ?_
              refine lv_aload_n hx hb dX8_usesOf_20 rfl (lv_at hl 0 rfl) ?_
              refine lv_iload_n hx hb dX8_usesOf_21 rfl (lv_at hl 3 rfl) ?_
              obtain ⟨r17, hg18, hf⟩ := o1_at hf
              refine k_viW ⟨hx, hb, hml, hown, htu⟩ hK hP hD hS hA hG (c_X8_have l g bM vM x3_4 r17 hg18) (cwV 1 htu (gU_V mw_6_91 hcX8_have) rfl rfl rfl hdX8_have ⟨Nat.le_of_ble_eq_true rfl, Nat.le_of_ble_eq_true rfl⟩) (q0 := 0) (ci := 8) (fs := fcM bM vM) (q := (RX8, TX8, 23)) rfl rfl rfl (As := [.int x3_4]) (rest := [.int x4_13]) rfl rfl hl.1 (Nat.le_of_ble_eq_true rfl) dX8_usesOf_22 (k1 := 0) (n1 := 0) rfl rfl ⟨Nat.zero_le _, Nat.zero_le _⟩ (fun H locs hP hD hS => ?_)
              refine lv_icmp_ge (tgt := 53) hx hb dX8_usesOf_25 (by decide) (fun c19 => ?_) (fun c19 => ?_)
              · have hf := it_t hf c19
                refine lv_iinc (v := (x3_4 + (1 : Int32))) (lv' := [(3, .int (x3_4 + (1 : Int32))), (0, .ref (bM 0)), (1, .int x1), (2, .int x2_12), (4, .int x4_13)]) hx hb dX8_usesOf_53 hl (k := 3) rfl rfl (by decide) rfl (fun ls hl => ?_)
                refine lv_goto (tgt := 7) hx hb dX8_usesOf_56 (by decide) ?_
                exact ih7 x2_12 (x3_4 + (1 : Int32)) hf H locs hP hD hS _ (lv_sub hl [1, 2, 3, 0] rfl)
              · have hf := it_f hf c19
                refine lv_iload_n hx hb dX8_usesOf_28 rfl (lv_at hl 2 rfl) ?_
                refine lv_aload_n hx hb dX8_usesOf_29 rfl (lv_at hl 0 rfl) ?_
                refine lv_iload_n hx hb dX8_usesOf_30 rfl (lv_at hl 3 rfl) ?_
                refine lv_iload hx hb dX8_usesOf_31 (lv_at hl 4 rfl) ?_
                obtain ⟨r20, hg21, hf⟩ := o1_at hf
                refine k_viW ⟨hx, hb, hml, hown, htu⟩ hK hP hD hS hA hG (c_X8_operandOf l g bM vM x3_4 x4_13 r20 hg21) (cwV 2 htu (gU_V mw_6_84 hcX8_operandOf) rfl rfl rfl hdX8_operandOf ⟨Nat.le_of_ble_eq_true rfl, Nat.le_of_ble_eq_true rfl⟩) (q0 := 0) (ci := 8) (fs := fcM bM vM) (q := (RX8, TX8, 23)) rfl rfl rfl (As := [.int x3_4, .int x4_13]) (rest := [.int x2_12]) rfl rfl hl.1 (Nat.le_of_ble_eq_true rfl) dX8_usesOf_33 (k1 := 0) (n1 := 0) rfl rfl ⟨Nat.zero_le _, Nat.zero_le _⟩ (fun H locs hP hD hS => ?_)
                refine lv_iload_n hx hb dX8_usesOf_36 rfl (lv_at hl 1 rfl) ?_
                obtain ⟨k23, hk25, hf⟩ := jn_at hf
                have hJ24 : ∀ (t22 : Int32), k23 t22 = some r → ∀ (H : Heap) (locs : List Loc), va_P g.1 vwCl (cM g bM vM) H → va_D A (cM g bM vM) → va_S A s.heap H locs → ∀ ls : Array Slot, lv_has ls 5 [(0, .ref (bM 0)), (1, .int x1), (3, .int x3_4), (4, .int x4_13)] → W p l e (headSpec wsX8_usesOf rmX8_usesOf).room s m ([.ref (bM 0), .int x1] : List Value).toArray below meth c H locs 0 0 (MQ below (qI g A (cM g bM vM) r) ([.ref (bM 0), .int x1] : List Value).toArray s 0 0 A) (F0 m 45 ls [.int t22, .int x2_12]) := by
                  intro t22 hf H locs hP hD hS ls hl
                  rw [hk25] at hf
                  dsimp only at hf
                  clear hk25
                  refine lv_iadd hx hb dX8_usesOf_45 ?_
                  refine lv_istore_n (lv' := [(2, .int (x2_12 + t22)), (0, .ref (bM 0)), (1, .int x1), (3, .int x3_4), (4, .int x4_13)]) hx hb dX8_usesOf_46 rfl hl (by decide) rfl (fun ls hl => ?_)
                  refine lv_iinc (v := (x4_13 + (1 : Int32))) (lv' := [(4, .int (x4_13 + (1 : Int32))), (2, .int (x2_12 + t22)), (0, .ref (bM 0)), (1, .int x1), (3, .int x3_4)]) hx hb dX8_usesOf_47 hl (k := 4) rfl rfl (by decide) rfl (fun ls hl => ?_)
                  refine lv_goto (tgt := 18) hx hb dX8_usesOf_50 (by decide) ?_
                  exact ih16 (x2_12 + t22) (x4_13 + (1 : Int32)) hf H locs hP hD hS _ (lv_sub hl [2, 3, 1, 4, 0] rfl)
                refine lv_icmp_ne (tgt := 44) hx hb dX8_usesOf_37 (by decide) (fun c26 => ?_) (fun c26 => ?_)
                · have hf := it_f hf c26
                  refine lv_iconst (v := (0 : Int32)) hx hb dX8_usesOf_44 (by decide) ?_
                  exact hJ24 (0 : Int32) hf H locs hP hD hS _ (lv_sub hl [0, 1, 3, 4] rfl)
                · have hf := it_t hf c26
                  refine lv_iconst (v := (1 : Int32)) hx hb dX8_usesOf_40 (by decide) ?_
                  refine lv_goto (tgt := 45) hx hb dX8_usesOf_41 (by decide) ?_
                  exact hJ24 (1 : Int32) hf H locs hP hD hS _ (lv_sub hl [0, 1, 3, 4] rfl)
          exact hL15 x2_3 (0 : Int32) hf H locs hP hD hS _ (lv_sub hl [1, 2, 3, 4, 0] rfl)
    exact hL6 (0 : Int32) r1 hf H locs hP hD hS _ (lv_sub hl [2, 3, 1, 0] rfl)
  rw [hH, hlo] at hW
  exact hW
def f_X8_outputOf_L2 (vM : Vs) (x1 : Int32) (self2 : Int32 → Option (Int32)) (x2_1 : Int32) : Option (Int32) :=
  o1 (f_X8_outputs vM) (fun (r5 : Int32) => if r5 ≤ x2_1 then some ((-1 : Int32)) else o1 (f_X8_get vM ((152 : Int32) + x2_1)) (fun (r9 : Int32) => if r9 = x1 then some (x2_1) else self2 (x2_1 + (1 : Int32))))
def f_X8_outputOf (vM : Vs) (x1 : Int32) : Option (Int32) :=
  lp (f_X8_outputOf_L2 vM x1) (fun _ => none) FU (0 : Int32)
abbrev wsX8_outputOf : List Cond := .code yX8_outputOf cX8_outputOf 3 (some .int) :: UW
abbrev rmX8_outputOf : Room := { frames := 2, cells := 0, slots := 0, locals := 41 }
set_option maxHeartbeats 4000000 in
set_option maxRecDepth 100000 in
theorem c_X8_outputOf (l : Launch) (g : Gx) (bM : Nat → Nat) (vM : Vs) (x1 : Int32) (r : Int32) (hf : f_X8_outputOf vM x1 = some r) : CtI l yX8_outputOf wsX8_outputOf rmX8_outputOf g [.ref (bM 0), .int x1] (cM g bM vM) (cM g bM vM) r 0 0 := by
  unfold CtI
  intro sz
  refine Met.ofW (cc := cX8_outputOf) (maxL := 3) (ret := (some .int)) (by decide) rfl ?_
  intro p e s m args below meth c s₁ B hml hv
  obtain ⟨rfl, hsz, hP, hK, hD0, hG⟩ := hv
  have hx := B.exec
  have hb := B.bytes
  have hr := B.returns
  have hts := atoms_spec (ws := wsX8_outputOf) B.pre
  have hown : s.vm.findClass RX8 = some m.cls := findClass_of_methodNamed B.named
  have hlocks := B.notSynchronized
  subst hsz
  have hD := hD0.self (sz := s.heap.size)
  generalize hAe : va_A (cM g bM vM) s.heap.size = A at hD hG ⊢
  have hA : ∀ q : Nat, s.heap.size ≤ q → A q := fun q h => by rw [← hAe]; exact Or.inr h
  clear hAe hD0
  have hS : va_S A s.heap s.heap [] := va_S.rf
  have hl := lv_entry ([.ref (bM 0), .int x1]) (n := 3) (Nat.le_of_ble_eq_true rfl)
  rw [lg_entry_eq]
  generalize (lg_sl ([.ref (bM 0), .int x1]) ++ List.replicate (3 - (lg_sl ([.ref (bM 0), .int x1])).length) Slot.unset).toArray = ls at hl ⊢
  have hl : lv_has ls 3 [(0, .ref (bM 0)), (1, .int x1)] := hl
  have htu : ∀ w ∈ UW, w.before _ s = true := fun w h => hts w (List.mem_cons_of_mem _ h)
  unfold f_X8_outputOf at hf
  obtain ⟨H, hH⟩ : ∃ z, z = s.heap := ⟨_, rfl⟩
  obtain ⟨locs, hlo⟩ : ∃ z : List Loc, z = [] := ⟨_, rfl⟩
  have hS : va_S A s.heap H locs := by rw [hH, hlo]; exact hS
  rw [← hH] at hP
  have hW : W p l e (headSpec wsX8_outputOf rmX8_outputOf).room s m ([.ref (bM 0), .int x1] : List Value).toArray below meth c H locs 0 0 (MQ below (qI g A (cM g bM vM) r) ([.ref (bM 0), .int x1] : List Value).toArray s 0 0 A) (F0 m 0 ls []) := by
    refine lv_iconst (v := (0 : Int32)) hx hb dX8_outputOf_0 (by decide) ?_
    refine lv_istore_n (lv' := [(2, .int (0 : Int32)), (0, .ref (bM 0)), (1, .int x1)]) hx hb dX8_outputOf_1 rfl hl (by decide) rfl (fun ls hl => ?_)
    have hL3 : ∀ (x2_1 : Int32), lp (f_X8_outputOf_L2 vM x1) (fun _ => none) FU x2_1 = some r → ∀ (H : Heap) (locs : List Loc), va_P g.1 vwCl (cM g bM vM) H → va_D A (cM g bM vM) → va_S A s.heap H locs → ∀ ls : Array Slot, lv_has ls 3 [(0, .ref (bM 0)), (1, .int x1), (2, .int x2_1)] → W p l e (headSpec wsX8_outputOf rmX8_outputOf).room s m ([.ref (bM 0), .int x1] : List Value).toArray below meth c H locs 0 0 (MQ below (qI g A (cM g bM vM) r) ([.ref (bM 0), .int x1] : List Value).toArray s 0 0 A) (F0 m 2 ls []) := by
      refine lp_ind (T := Int32 → Option (Int32)) (fun self2 => ∀ (x2_1 : Int32), self2 x2_1 = some r → ∀ (H : Heap) (locs : List Loc), va_P g.1 vwCl (cM g bM vM) H → va_D A (cM g bM vM) → va_S A s.heap H locs → ∀ ls : Array Slot, lv_has ls 3 [(0, .ref (bM 0)), (1, .int x1), (2, .int x2_1)] → W p l e (headSpec wsX8_outputOf rmX8_outputOf).room s m ([.ref (bM 0), .int x1] : List Value).toArray below meth c H locs 0 0 (MQ below (qI g A (cM g bM vM) r) ([.ref (bM 0), .int x1] : List Value).toArray s 0 0 A) (F0 m 2 ls [])) ?_ ?_ FU
      · intro x2_1 hf; cases hf
      · intro self2 ih4 x2_1 hf H locs hP hD hS ls hl
        unfold f_X8_outputOf_L2 at hf
        refine lv_iload_n hx hb dX8_outputOf_2 rfl (lv_at hl 2 rfl) ?_
        refine lv_aload_n hx hb dX8_outputOf_3 rfl (lv_at hl 0 rfl) ?_
        obtain ⟨r5, hg6, hf⟩ := o1_at hf
        refine k_viW ⟨hx, hb, hml, hown, htu⟩ hK hP hD hS hA hG (c_X8_outputs l g bM vM r5 hg6) (cwV 0 htu (gU_V mw_6_40 hcX8_outputs) rfl rfl rfl hdX8_outputs ⟨Nat.le_of_ble_eq_true rfl, Nat.le_of_ble_eq_true rfl⟩) (q0 := 0) (ci := 8) (fs := fcM bM vM) (q := (RX8, TX8, 23)) rfl rfl rfl (As := []) (rest := [.int x2_1]) rfl rfl hl.1 (Nat.le_of_ble_eq_true rfl) dX8_outputOf_4 (k1 := 0) (n1 := 0) rfl rfl ⟨Nat.zero_le _, Nat.zero_le _⟩ (fun H locs hP hD hS => ?_)
        refine lv_icmp_ge (tgt := 31) hx hb dX8_outputOf_7 (by decide) (fun c7 => ?_) (fun c7 => ?_)
        · have hf := it_t hf c7
          refine lv_iconst (v := (-1 : Int32)) hx hb dX8_outputOf_31 (by decide) ?_
          have e8 := Option.some.inj hf
          exact k_iret hx hb hr hlocks hK hP hD hS e8 dX8_outputOf_32
        · have hf := it_f hf c7
          refine lv_aload_n hx hb dX8_outputOf_10 rfl (lv_at hl 0 rfl) ?_
          refine lv_sipush (v := (152 : Int32)) hx hb dX8_outputOf_11 (by decide) ?_
          refine lv_iload_n hx hb dX8_outputOf_14 rfl (lv_at hl 2 rfl) ?_
          refine lv_iadd hx hb dX8_outputOf_15 ?_
          obtain ⟨r9, hg10, hf⟩ := o1_at hf
          refine k_viW ⟨hx, hb, hml, hown, htu⟩ hK hP hD hS hA hG (c_X8_get l g bM vM ((152 : Int32) + x2_1) r9 hg10) (cwV 1 htu (gU_V mw_6_20 hcX8_get) rfl rfl rfl hdX8_get ⟨Nat.le_of_ble_eq_true rfl, Nat.le_of_ble_eq_true rfl⟩) (q0 := 0) (ci := 8) (fs := fcM bM vM) (q := (RX8, TX8, 23)) rfl rfl rfl (As := [.int ((152 : Int32) + x2_1)]) (rest := []) rfl rfl hl.1 (Nat.le_of_ble_eq_true rfl) dX8_outputOf_16 (k1 := 0) (n1 := 0) rfl rfl ⟨Nat.zero_le _, Nat.zero_le _⟩ (fun H locs hP hD hS => ?_)
          refine lv_iload_n hx hb dX8_outputOf_19 rfl (lv_at hl 1 rfl) ?_
          refine lv_icmp_ne (tgt := 25) hx hb dX8_outputOf_20 (by decide) (fun c11 => ?_) (fun c11 => ?_)
          · have hf := it_f hf c11
            refine lv_iinc (v := (x2_1 + (1 : Int32))) (lv' := [(2, .int (x2_1 + (1 : Int32))), (0, .ref (bM 0)), (1, .int x1)]) hx hb dX8_outputOf_25 hl (k := 2) rfl rfl (by decide) rfl (fun ls hl => ?_)
            refine lv_goto (tgt := 2) hx hb dX8_outputOf_28 (by decide) ?_
            exact ih4 (x2_1 + (1 : Int32)) hf H locs hP hD hS _ (lv_sub hl [1, 2, 0] rfl)
          · have hf := it_t hf c11
            refine lv_iload_n hx hb dX8_outputOf_23 rfl (lv_at hl 2 rfl) ?_
            have e12 := Option.some.inj hf
            exact k_iret hx hb hr hlocks hK hP hD hS e12 dX8_outputOf_24
    exact hL3 (0 : Int32) hf H locs hP hD hS _ (lv_sub hl [1, 2, 0] rfl)
  rw [hH, hlo] at hW
  exact hW
def f_X8_ofWire (vM : Vs) (x1 : Int32) (x2 : Int32) : Option (Int32 × Vs) :=
  if x2 = (0 : Int32) then o1 (f_X8_kindOf vM x1) (fun (r2 : Int32) => some (r2, vM)) else if x2 = (1 : Int32) then o1 (f_X8_have vM x1) (fun (r7 : Int32) => some (r7, vM)) else if x2 = (2 : Int32) then o2 (f_X8_levelOf vM x1) (fun (r12 : Int32) (vM_13 : Vs) => some (r12, vM_13)) else if x2 = (3 : Int32) then o1 (f_X8_usesOf vM x1) (fun (r18 : Int32) => some (r18, vM)) else o1 (f_X8_outputOf vM x1) (fun (r22 : Int32) => some (r22, vM))
abbrev wsX8_ofWire : List Cond := .code yX8_ofWire cX8_ofWire 3 (some .int) :: UW
abbrev rmX8_ofWire : Room := { frames := 3, cells := 0, slots := 0, locals := 68 }
set_option maxHeartbeats 4000000 in
set_option maxRecDepth 100000 in
theorem c_X8_ofWire (l : Launch) (g : Gx) (bM : Nat → Nat) (vM : Vs) (x1 : Int32) (x2 : Int32) (r : Int32) (vM1 : Vs) (hf : f_X8_ofWire vM x1 x2 = some (r, vM1)) : CtI l yX8_ofWire wsX8_ofWire rmX8_ofWire g [.ref (bM 0), .int x1, .int x2] (cM g bM vM) (cM g bM vM1) r 0 0 := by
  unfold CtI
  intro sz
  refine Met.ofW (cc := cX8_ofWire) (maxL := 3) (ret := (some .int)) (by decide) rfl ?_
  intro p e s m args below meth c s₁ B hml hv
  obtain ⟨rfl, hsz, hP, hK, hD0, hG⟩ := hv
  have hx := B.exec
  have hb := B.bytes
  have hr := B.returns
  have hts := atoms_spec (ws := wsX8_ofWire) B.pre
  have hown : s.vm.findClass RX8 = some m.cls := findClass_of_methodNamed B.named
  have hlocks := B.notSynchronized
  subst hsz
  have hD := hD0.self (sz := s.heap.size)
  generalize hAe : va_A (cM g bM vM) s.heap.size = A at hD hG ⊢
  have hA : ∀ q : Nat, s.heap.size ≤ q → A q := fun q h => by rw [← hAe]; exact Or.inr h
  clear hAe hD0
  have hS : va_S A s.heap s.heap [] := va_S.rf
  have hl := lv_entry ([.ref (bM 0), .int x1, .int x2]) (n := 3) (Nat.le_of_ble_eq_true rfl)
  rw [lg_entry_eq]
  generalize (lg_sl ([.ref (bM 0), .int x1, .int x2]) ++ List.replicate (3 - (lg_sl ([.ref (bM 0), .int x1, .int x2])).length) Slot.unset).toArray = ls at hl ⊢
  have hl : lv_has ls 3 [(0, .ref (bM 0)), (1, .int x1), (2, .int x2)] := hl
  have htu : ∀ w ∈ UW, w.before _ s = true := fun w h => hts w (List.mem_cons_of_mem _ h)
  unfold f_X8_ofWire at hf
  obtain ⟨H, hH⟩ : ∃ z, z = s.heap := ⟨_, rfl⟩
  obtain ⟨locs, hlo⟩ : ∃ z : List Loc, z = [] := ⟨_, rfl⟩
  have hS : va_S A s.heap H locs := by rw [hH, hlo]; exact hS
  rw [← hH] at hP
  have hW : W p l e (headSpec wsX8_ofWire rmX8_ofWire).room s m ([.ref (bM 0), .int x1, .int x2] : List Value).toArray below meth c H locs 0 0 (MQ below (qI g A (cM g bM vM1) r) ([.ref (bM 0), .int x1, .int x2] : List Value).toArray s 0 0 A) (F0 m 0 ls []) := by
    refine lv_iload_n hx hb dX8_ofWire_0 rfl (lv_at hl 2 rfl) ?_
    by_cases c1 : x2 = (0 : Int32)
    · have hf := it_t hf c1
      refine lv_tableIn (off := 31) (tgt := 32) hx hb dX8_ofWire_1 (by rw [c1]; decide) (by rw [c1]; decide) (by rw [c1]; rfl) (by decide) ?_
      refine lv_aload_n hx hb dX8_ofWire_32 rfl (lv_at hl 0 rfl) ?_
      refine lv_iload_n hx hb dX8_ofWire_33 rfl (lv_at hl 1 rfl) ?_
      obtain ⟨r2, hg3, hf⟩ := o1_at hf
      refine k_viW ⟨hx, hb, hml, hown, htu⟩ hK hP hD hS hA hG (c_X8_kindOf l g bM vM x1 r2 hg3) (cwV 1 htu (gU_V mw_6_80 hcX8_kindOf) rfl rfl rfl hdX8_kindOf ⟨Nat.le_of_ble_eq_true rfl, Nat.le_of_ble_eq_true rfl⟩) (q0 := 0) (ci := 8) (fs := fcM bM vM) (q := (RX8, TX8, 23)) rfl rfl rfl (As := [.int x1]) (rest := []) rfl rfl hl.1 (Nat.le_of_ble_eq_true rfl) dX8_ofWire_34 (k1 := 0) (n1 := 0) rfl rfl ⟨Nat.zero_le _, Nat.zero_le _⟩ (fun H locs hP hD hS => ?_)
      obtain ⟨e4, e5⟩ := kp_2 hf
      rw [e5] at hP hD
      exact k_iret hx hb hr hlocks hK hP hD hS e4 dX8_ofWire_37
    · have hf := it_f hf c1
      by_cases c6 : x2 = (1 : Int32)
      · have hf := it_t hf c6
        refine lv_tableIn (off := 37) (tgt := 38) hx hb dX8_ofWire_1 (by rw [c6]; decide) (by rw [c6]; decide) (by rw [c6]; rfl) (by decide) ?_
        refine lv_aload_n hx hb dX8_ofWire_38 rfl (lv_at hl 0 rfl) ?_
        refine lv_iload_n hx hb dX8_ofWire_39 rfl (lv_at hl 1 rfl) ?_
        obtain ⟨r7, hg8, hf⟩ := o1_at hf
        refine k_viW ⟨hx, hb, hml, hown, htu⟩ hK hP hD hS hA hG (c_X8_have l g bM vM x1 r7 hg8) (cwV 1 htu (gU_V mw_6_91 hcX8_have) rfl rfl rfl hdX8_have ⟨Nat.le_of_ble_eq_true rfl, Nat.le_of_ble_eq_true rfl⟩) (q0 := 0) (ci := 8) (fs := fcM bM vM) (q := (RX8, TX8, 23)) rfl rfl rfl (As := [.int x1]) (rest := []) rfl rfl hl.1 (Nat.le_of_ble_eq_true rfl) dX8_ofWire_40 (k1 := 0) (n1 := 0) rfl rfl ⟨Nat.zero_le _, Nat.zero_le _⟩ (fun H locs hP hD hS => ?_)
        obtain ⟨e9, e10⟩ := kp_2 hf
        rw [e10] at hP hD
        exact k_iret hx hb hr hlocks hK hP hD hS e9 dX8_ofWire_43
      · have hf := it_f hf c6
        by_cases c11 : x2 = (2 : Int32)
        · have hf := it_t hf c11
          refine lv_tableIn (off := 43) (tgt := 44) hx hb dX8_ofWire_1 (by rw [c11]; decide) (by rw [c11]; decide) (by rw [c11]; rfl) (by decide) ?_
          refine lv_aload_n hx hb dX8_ofWire_44 rfl (lv_at hl 0 rfl) ?_
          refine lv_iload_n hx hb dX8_ofWire_45 rfl (lv_at hl 1 rfl) ?_
          obtain ⟨r12, vM_13, hg14, hf⟩ := o2_at hf
          refine k_viW ⟨hx, hb, hml, hown, htu⟩ hK hP hD hS hA hG (c_X8_levelOf l g bM vM x1 r12 vM_13 hg14) (cwV 1 htu (gU_V mw_6_110 hcX8_levelOf) rfl rfl rfl hdX8_levelOf ⟨Nat.le_of_ble_eq_true rfl, Nat.le_of_ble_eq_true rfl⟩) (q0 := 0) (ci := 8) (fs := fcM bM vM) (q := (RX8, TX8, 23)) rfl rfl rfl (As := [.int x1]) (rest := []) rfl rfl hl.1 (Nat.le_of_ble_eq_true rfl) dX8_ofWire_46 (k1 := 0) (n1 := 0) rfl rfl ⟨Nat.zero_le _, Nat.zero_le _⟩ (fun H locs hP hD hS => ?_)
          obtain ⟨e15, e16⟩ := kp_2 hf
          rw [e16] at hP hD
          exact k_iret hx hb hr hlocks hK hP hD hS e15 dX8_ofWire_49
        · have hf := it_f hf c11
          by_cases c17 : x2 = (3 : Int32)
          · have hf := it_t hf c17
            refine lv_tableIn (off := 49) (tgt := 50) hx hb dX8_ofWire_1 (by rw [c17]; decide) (by rw [c17]; decide) (by rw [c17]; rfl) (by decide) ?_
            refine lv_aload_n hx hb dX8_ofWire_50 rfl (lv_at hl 0 rfl) ?_
            refine lv_iload_n hx hb dX8_ofWire_51 rfl (lv_at hl 1 rfl) ?_
            obtain ⟨r18, hg19, hf⟩ := o1_at hf
            refine k_viW ⟨hx, hb, hml, hown, htu⟩ hK hP hD hS hA hG (c_X8_usesOf l g bM vM x1 r18 hg19) (cwV 1 htu (gU_V mw_6_126 hcX8_usesOf) rfl rfl rfl hdX8_usesOf ⟨Nat.le_of_ble_eq_true rfl, Nat.le_of_ble_eq_true rfl⟩) (q0 := 0) (ci := 8) (fs := fcM bM vM) (q := (RX8, TX8, 23)) rfl rfl rfl (As := [.int x1]) (rest := []) rfl rfl hl.1 (Nat.le_of_ble_eq_true rfl) dX8_ofWire_52 (k1 := 0) (n1 := 0) rfl rfl ⟨Nat.zero_le _, Nat.zero_le _⟩ (fun H locs hP hD hS => ?_)
            obtain ⟨e20, e21⟩ := kp_2 hf
            rw [e21] at hP hD
            exact k_iret hx hb hr hlocks hK hP hD hS e20 dX8_ofWire_55
          · have hf := it_f hf c17
            refine lv_tableOut (tgt := 56) hx hb dX8_ofWire_1 (by
              have zc1 : ¬ (x2).toInt = 0 := fun h9 => c1 (Int32.toInt_inj.mp (h9.trans (by decide)))
              have zc6 : ¬ (x2).toInt = 1 := fun h9 => c6 (Int32.toInt_inj.mp (h9.trans (by decide)))
              have zc11 : ¬ (x2).toInt = 2 := fun h9 => c11 (Int32.toInt_inj.mp (h9.trans (by decide)))
              have zc17 : ¬ (x2).toInt = 3 := fun h9 => c17 (Int32.toInt_inj.mp (h9.trans (by decide)))
              omega) (by decide) ?_
            refine lv_aload_n hx hb dX8_ofWire_56 rfl (lv_at hl 0 rfl) ?_
            refine lv_iload_n hx hb dX8_ofWire_57 rfl (lv_at hl 1 rfl) ?_
            obtain ⟨r22, hg23, hf⟩ := o1_at hf
            refine k_viW ⟨hx, hb, hml, hown, htu⟩ hK hP hD hS hA hG (c_X8_outputOf l g bM vM x1 r22 hg23) (cwV 1 htu (gU_V mw_6_130 hcX8_outputOf) rfl rfl rfl hdX8_outputOf ⟨Nat.le_of_ble_eq_true rfl, Nat.le_of_ble_eq_true rfl⟩) (q0 := 0) (ci := 8) (fs := fcM bM vM) (q := (RX8, TX8, 23)) rfl rfl rfl (As := [.int x1]) (rest := []) rfl rfl hl.1 (Nat.le_of_ble_eq_true rfl) dX8_ofWire_58 (k1 := 0) (n1 := 0) rfl rfl ⟨Nat.zero_le _, Nat.zero_le _⟩ (fun H locs hP hD hS => ?_)
            obtain ⟨e24, e25⟩ := kp_2 hf
            rw [e25] at hP hD
            exact k_iret hx hb hr hlocks hK hP hD hS e24 dX8_ofWire_61
  rw [hH, hlo] at hW
  exact hW
def f_X8_wire (vM : Vs) (x1 : Int32) (x2 : Int32) : Option (Int32 × Vs) :=
  bn (sF vM 0 (0 : Int32)) (fun (vM_1 : Vs) => o2 (f_X8_isWire vM_1 x1) (fun (r2 : Int32) (vM_3 : Vs) => jn (fun (t5 : Int32) (vM_6 : Vs) => some (t5, vM_6)) (fun k7 => jn (fun (vM_12 : Vs) => k7 (0 : Int32) vM_12) (fun k13 => if r2 = 0 then k13 vM_3 else o1 (f_X8_isIn x2 (0 : Int32) (4 : Int32)) (fun (r17 : Int32) => o2 (f_X8_right vM_3 r17 (2 : Int32)) (fun (r19 : Int32) (vM_20 : Vs) => if r19 = 0 then k13 vM_20 else o2 (f_X8_ofWire vM_20 x1 x2) (fun (r23 : Int32) (vM_24 : Vs) => k7 r23 vM_24)))))))
abbrev wsX8_wire : List Cond := .code yX8_wire cX8_wire 3 (some .int) :: UW
abbrev rmX8_wire : Room := { frames := 4, cells := 0, slots := 0, locals := 90 }
set_option maxHeartbeats 4000000 in
set_option maxRecDepth 100000 in
theorem c_X8_wire (l : Launch) (g : Gx) (bM : Nat → Nat) (vM : Vs) (x1 : Int32) (x2 : Int32) (r : Int32) (vM1 : Vs) (hf : f_X8_wire vM x1 x2 = some (r, vM1)) : CtI l yX8_wire wsX8_wire rmX8_wire g [.ref (bM 0), .int x1, .int x2] (cM g bM vM) (cM g bM vM1) r 0 0 := by
  unfold CtI
  intro sz
  refine Met.ofW (cc := cX8_wire) (maxL := 3) (ret := (some .int)) (by decide) rfl ?_
  intro p e s m args below meth c s₁ B hml hv
  obtain ⟨rfl, hsz, hP, hK, hD0, hG⟩ := hv
  have hx := B.exec
  have hb := B.bytes
  have hr := B.returns
  have hts := atoms_spec (ws := wsX8_wire) B.pre
  have hown : s.vm.findClass RX8 = some m.cls := findClass_of_methodNamed B.named
  have hlocks := B.notSynchronized
  subst hsz
  have hD := hD0.self (sz := s.heap.size)
  generalize hAe : va_A (cM g bM vM) s.heap.size = A at hD hG ⊢
  have hA : ∀ q : Nat, s.heap.size ≤ q → A q := fun q h => by rw [← hAe]; exact Or.inr h
  clear hAe hD0
  have hS : va_S A s.heap s.heap [] := va_S.rf
  have hl := lv_entry ([.ref (bM 0), .int x1, .int x2]) (n := 3) (Nat.le_of_ble_eq_true rfl)
  rw [lg_entry_eq]
  generalize (lg_sl ([.ref (bM 0), .int x1, .int x2]) ++ List.replicate (3 - (lg_sl ([.ref (bM 0), .int x1, .int x2])).length) Slot.unset).toArray = ls at hl ⊢
  have hl : lv_has ls 3 [(0, .ref (bM 0)), (1, .int x1), (2, .int x2)] := hl
  have htu : ∀ w ∈ UW, w.before _ s = true := fun w h => hts w (List.mem_cons_of_mem _ h)
  have k_5_72 := htu _ mw_5_72
  unfold f_X8_wire at hf
  obtain ⟨H, hH⟩ : ∃ z, z = s.heap := ⟨_, rfl⟩
  obtain ⟨locs, hlo⟩ : ∃ z : List Loc, z = [] := ⟨_, rfl⟩
  have hS : va_S A s.heap H locs := by rw [hH, hlo]; exact hS
  rw [← hH] at hP
  have hW : W p l e (headSpec wsX8_wire rmX8_wire).room s m ([.ref (bM 0), .int x1, .int x2] : List Value).toArray below meth c H locs 0 0 (MQ below (qI g A (cM g bM vM1) r) ([.ref (bM 0), .int x1, .int x2] : List Value).toArray s 0 0 A) (F0 m 0 ls []) := by
    refine lv_aload_n hx hb dX8_wire_0 rfl (lv_at hl 0 rfl) ?_
    refine lv_iconst (v := (0 : Int32)) hx hb dX8_wire_1 (by decide) ?_
    refine va_put (D := g.1) (ci := 8) (fs := fcM bM vM) (v := .int (0 : Int32)) (ty := .int) (C := RX8) (T := TX8) (N := 23) hx hb htu hinX8 tyX8 tyX8_ok nmX8 hown hK hP hD hS 0 rfl rfl 0 (by decide) k_5_72 (fun _ h9 => h9) rfl (by decide +kernel) rfl rfl (Nat.le_of_ble_eq_true rfl) dX8_wire_2 (fun H locs hP hD hS => ?_)
    obtain ⟨vM_1, evM_1⟩ : ∃ z, z = sF vM 0 (0 : Int32) := ⟨_, rfl⟩
    have hf := bn_at hf evM_1
    have hP : va_P g.1 vwCl (cM g bM vM_1) H := by rw [evM_1]; exact hP
    have hD : va_D A (cM g bM vM_1) := by rw [evM_1]; exact hD
    refine lv_aload_n hx hb dX8_wire_5 rfl (lv_at hl 0 rfl) ?_
    refine lv_iload_n hx hb dX8_wire_6 rfl (lv_at hl 1 rfl) ?_
    obtain ⟨r2, vM_3, hg4, hf⟩ := o2_at hf
    refine k_viW ⟨hx, hb, hml, hown, htu⟩ hK hP hD hS hA hG (c_X8_isWire l g bM vM_1 x1 r2 vM_3 hg4) (cwV 1 htu (gU_V mw_6_118 hcX8_isWire) rfl rfl rfl hdX8_isWire ⟨Nat.le_of_ble_eq_true rfl, Nat.le_of_ble_eq_true rfl⟩) (q0 := 0) (ci := 8) (fs := fcM bM vM_1) (q := (RX8, TX8, 23)) rfl rfl rfl (As := [.int x1]) (rest := []) rfl rfl hl.1 (Nat.le_of_ble_eq_true rfl) dX8_wire_7 (k1 := 0) (n1 := 0) rfl rfl ⟨Nat.zero_le _, Nat.zero_le _⟩ (fun H locs hP hD hS => ?_)
    obtain ⟨k7, hk11, hf⟩ := jn_at hf
    have hJ8 : ∀ (t5 : Int32) (vM_6 : Vs), k7 t5 vM_6 = some (r, vM1) → ∀ (H : Heap) (locs : List Loc), va_P g.1 vwCl (cM g bM vM_6) H → va_D A (cM g bM vM_6) → va_S A s.heap H locs → ∀ ls : Array Slot, lv_has ls 3 [] → W p l e (headSpec wsX8_wire rmX8_wire).room s m ([.ref (bM 0), .int x1, .int x2] : List Value).toArray below meth c H locs 0 0 (MQ below (qI g A (cM g bM vM1) r) ([.ref (bM 0), .int x1, .int x2] : List Value).toArray s 0 0 A) (F0 m 37 ls [.int t5]) := by
      intro t5 vM_6 hf H locs hP hD hS ls hl
      rw [hk11] at hf
      dsimp only at hf
      clear hk11
      obtain ⟨e9, e10⟩ := kp_2 hf
      rw [e10] at hP hD
      exact k_iret hx hb hr hlocks hK hP hD hS e9 dX8_wire_37
    obtain ⟨k13, hk15, hf⟩ := jn_at hf
    have hJ14 : ∀ (vM_12 : Vs), k13 vM_12 = some (r, vM1) → ∀ (H : Heap) (locs : List Loc), va_P g.1 vwCl (cM g bM vM_12) H → va_D A (cM g bM vM_12) → va_S A s.heap H locs → ∀ ls : Array Slot, lv_has ls 3 [] → W p l e (headSpec wsX8_wire rmX8_wire).room s m ([.ref (bM 0), .int x1, .int x2] : List Value).toArray below meth c H locs 0 0 (MQ below (qI g A (cM g bM vM1) r) ([.ref (bM 0), .int x1, .int x2] : List Value).toArray s 0 0 A) (F0 m 36 ls []) := by
      intro vM_12 hf H locs hP hD hS ls hl
      rw [hk15] at hf
      dsimp only at hf
      clear hk15
      refine lv_iconst (v := (0 : Int32)) hx hb dX8_wire_36 (by decide) ?_
      exact hJ8 (0 : Int32) vM_12 hf H locs hP hD hS _ (lv_sub hl [] rfl)
    refine lv_if_eq (tgt := 36) hx hb dX8_wire_10 (by decide) (fun c16 => ?_) (fun c16 => ?_)
    · have hf := it_t hf c16
      exact hJ14 vM_3 hf H locs hP hD hS _ (lv_sub hl [] rfl)
    · have hf := it_f hf c16
      refine lv_aload_n hx hb dX8_wire_13 rfl (lv_at hl 0 rfl) ?_
      refine lv_iload_n hx hb dX8_wire_14 rfl (lv_at hl 2 rfl) ?_
      refine lv_iconst (v := (0 : Int32)) hx hb dX8_wire_15 (by decide) ?_
      refine lv_iconst (v := (4 : Int32)) hx hb dX8_wire_16 (by decide) ?_
      obtain ⟨r17, hg18, hf⟩ := o1_at hf
      refine k_si0 ⟨hx, hb, hml, hown, htu⟩ hK hP hD hS hA hG (c_X8_isIn l g x2 (0 : Int32) (4 : Int32) r17 hg18) (va_cwS 3 htu (gU_S mw_5_163 hcX8_isIn) rfl rfl rfl hdX8_isIn ⟨Nat.le_of_ble_eq_true rfl, Nat.le_of_ble_eq_true rfl⟩) (As := [.int x2, .int (0 : Int32), .int (4 : Int32)]) (rest := [.ref (bM 0)]) rfl rfl hl.1 (Nat.le_of_ble_eq_true rfl) dX8_wire_17 (k1 := 0) (n1 := 0) rfl rfl ⟨Nat.zero_le _, Nat.zero_le _⟩ (fun H locs hP hD hS => ?_)
      refine lv_iconst (v := (2 : Int32)) hx hb dX8_wire_20 (by decide) ?_
      obtain ⟨r19, vM_20, hg21, hf⟩ := o2_at hf
      refine k_viW ⟨hx, hb, hml, hown, htu⟩ hK hP hD hS hA hG (c_X8_right l g bM vM_3 r17 (2 : Int32) r19 vM_20 hg21) (cwV 2 htu (gU_V mw_5_166 hcX8_right) rfl rfl rfl hdX8_right ⟨Nat.le_of_ble_eq_true rfl, Nat.le_of_ble_eq_true rfl⟩) (q0 := 0) (ci := 8) (fs := fcM bM vM_3) (q := (RX8, TX8, 23)) rfl rfl rfl (As := [.int r17, .int (2 : Int32)]) (rest := []) rfl rfl hl.1 (Nat.le_of_ble_eq_true rfl) dX8_wire_21 (k1 := 0) (n1 := 0) rfl rfl ⟨Nat.zero_le _, Nat.zero_le _⟩ (fun H locs hP hD hS => ?_)
      refine lv_if_eq (tgt := 36) hx hb dX8_wire_24 (by decide) (fun c22 => ?_) (fun c22 => ?_)
      · have hf := it_t hf c22
        exact hJ14 vM_20 hf H locs hP hD hS _ (lv_sub hl [] rfl)
      · have hf := it_f hf c22
        refine lv_aload_n hx hb dX8_wire_27 rfl (lv_at hl 0 rfl) ?_
        refine lv_iload_n hx hb dX8_wire_28 rfl (lv_at hl 1 rfl) ?_
        refine lv_iload_n hx hb dX8_wire_29 rfl (lv_at hl 2 rfl) ?_
        obtain ⟨r23, vM_24, hg25, hf⟩ := o2_at hf
        refine k_viW ⟨hx, hb, hml, hown, htu⟩ hK hP hD hS hA hG (c_X8_ofWire l g bM vM_20 x1 x2 r23 vM_24 hg25) (cwV 2 htu (gU_V mw_6_122 hcX8_ofWire) rfl rfl rfl hdX8_ofWire ⟨Nat.le_of_ble_eq_true rfl, Nat.le_of_ble_eq_true rfl⟩) (q0 := 0) (ci := 8) (fs := fcM bM vM_20) (q := (RX8, TX8, 23)) rfl rfl rfl (As := [.int x1, .int x2]) (rest := []) rfl rfl hl.1 (Nat.le_of_ble_eq_true rfl) dX8_wire_30 (k1 := 0) (n1 := 0) rfl rfl ⟨Nat.zero_le _, Nat.zero_le _⟩ (fun H locs hP hD hS => ?_)
        refine lv_goto (tgt := 37) hx hb dX8_wire_33 (by decide) ?_
        exact hJ8 r23 vM_24 hf H locs hP hD hS _ (lv_sub hl [] rfl)
  rw [hH, hlo] at hW
  exact hW
def f_X8_operand (vM : Vs) (x1 : Int32) (x2 : Int32) : Option (Int32 × Vs) :=
  bn (sF vM 0 (0 : Int32)) (fun (vM_1 : Vs) => o2 (f_X8_isWire vM_1 x1) (fun (r2 : Int32) (vM_3 : Vs) => jn (fun (t5 : Int32) (vM_6 : Vs) => some (t5, vM_6)) (fun k7 => jn (fun (vM_12 : Vs) => k7 (0 : Int32) vM_12) (fun k13 => if r2 = 0 then k13 vM_3 else o1 (f_X8_have vM_3 x1) (fun (r17 : Int32) => o1 (f_X8_isIn x2 (0 : Int32) (r17 - (1 : Int32))) (fun (r19 : Int32) => o2 (f_X8_right vM_3 r19 (2 : Int32)) (fun (r21 : Int32) (vM_22 : Vs) => if r21 = 0 then k13 vM_22 else o1 (f_X8_operandOf vM_22 x1 x2) (fun (r25 : Int32) => k7 r25 vM_22))))))))
abbrev wsX8_operand : List Cond := .code yX8_operand cX8_operand 3 (some .int) :: UW
abbrev rmX8_operand : Room := { frames := 3, cells := 0, slots := 0, locals := 62 }
set_option maxHeartbeats 4000000 in
set_option maxRecDepth 100000 in
theorem c_X8_operand (l : Launch) (g : Gx) (bM : Nat → Nat) (vM : Vs) (x1 : Int32) (x2 : Int32) (r : Int32) (vM1 : Vs) (hf : f_X8_operand vM x1 x2 = some (r, vM1)) : CtI l yX8_operand wsX8_operand rmX8_operand g [.ref (bM 0), .int x1, .int x2] (cM g bM vM) (cM g bM vM1) r 0 0 := by
  unfold CtI
  intro sz
  refine Met.ofW (cc := cX8_operand) (maxL := 3) (ret := (some .int)) (by decide) rfl ?_
  intro p e s m args below meth c s₁ B hml hv
  obtain ⟨rfl, hsz, hP, hK, hD0, hG⟩ := hv
  have hx := B.exec
  have hb := B.bytes
  have hr := B.returns
  have hts := atoms_spec (ws := wsX8_operand) B.pre
  have hown : s.vm.findClass RX8 = some m.cls := findClass_of_methodNamed B.named
  have hlocks := B.notSynchronized
  subst hsz
  have hD := hD0.self (sz := s.heap.size)
  generalize hAe : va_A (cM g bM vM) s.heap.size = A at hD hG ⊢
  have hA : ∀ q : Nat, s.heap.size ≤ q → A q := fun q h => by rw [← hAe]; exact Or.inr h
  clear hAe hD0
  have hS : va_S A s.heap s.heap [] := va_S.rf
  have hl := lv_entry ([.ref (bM 0), .int x1, .int x2]) (n := 3) (Nat.le_of_ble_eq_true rfl)
  rw [lg_entry_eq]
  generalize (lg_sl ([.ref (bM 0), .int x1, .int x2]) ++ List.replicate (3 - (lg_sl ([.ref (bM 0), .int x1, .int x2])).length) Slot.unset).toArray = ls at hl ⊢
  have hl : lv_has ls 3 [(0, .ref (bM 0)), (1, .int x1), (2, .int x2)] := hl
  have htu : ∀ w ∈ UW, w.before _ s = true := fun w h => hts w (List.mem_cons_of_mem _ h)
  have k_5_72 := htu _ mw_5_72
  unfold f_X8_operand at hf
  obtain ⟨H, hH⟩ : ∃ z, z = s.heap := ⟨_, rfl⟩
  obtain ⟨locs, hlo⟩ : ∃ z : List Loc, z = [] := ⟨_, rfl⟩
  have hS : va_S A s.heap H locs := by rw [hH, hlo]; exact hS
  rw [← hH] at hP
  have hW : W p l e (headSpec wsX8_operand rmX8_operand).room s m ([.ref (bM 0), .int x1, .int x2] : List Value).toArray below meth c H locs 0 0 (MQ below (qI g A (cM g bM vM1) r) ([.ref (bM 0), .int x1, .int x2] : List Value).toArray s 0 0 A) (F0 m 0 ls []) := by
    refine lv_aload_n hx hb dX8_operand_0 rfl (lv_at hl 0 rfl) ?_
    refine lv_iconst (v := (0 : Int32)) hx hb dX8_operand_1 (by decide) ?_
    refine va_put (D := g.1) (ci := 8) (fs := fcM bM vM) (v := .int (0 : Int32)) (ty := .int) (C := RX8) (T := TX8) (N := 23) hx hb htu hinX8 tyX8 tyX8_ok nmX8 hown hK hP hD hS 0 rfl rfl 0 (by decide) k_5_72 (fun _ h9 => h9) rfl (by decide +kernel) rfl rfl (Nat.le_of_ble_eq_true rfl) dX8_operand_2 (fun H locs hP hD hS => ?_)
    obtain ⟨vM_1, evM_1⟩ : ∃ z, z = sF vM 0 (0 : Int32) := ⟨_, rfl⟩
    have hf := bn_at hf evM_1
    have hP : va_P g.1 vwCl (cM g bM vM_1) H := by rw [evM_1]; exact hP
    have hD : va_D A (cM g bM vM_1) := by rw [evM_1]; exact hD
    refine lv_aload_n hx hb dX8_operand_5 rfl (lv_at hl 0 rfl) ?_
    refine lv_iload_n hx hb dX8_operand_6 rfl (lv_at hl 1 rfl) ?_
    obtain ⟨r2, vM_3, hg4, hf⟩ := o2_at hf
    refine k_viW ⟨hx, hb, hml, hown, htu⟩ hK hP hD hS hA hG (c_X8_isWire l g bM vM_1 x1 r2 vM_3 hg4) (cwV 1 htu (gU_V mw_6_118 hcX8_isWire) rfl rfl rfl hdX8_isWire ⟨Nat.le_of_ble_eq_true rfl, Nat.le_of_ble_eq_true rfl⟩) (q0 := 0) (ci := 8) (fs := fcM bM vM_1) (q := (RX8, TX8, 23)) rfl rfl rfl (As := [.int x1]) (rest := []) rfl rfl hl.1 (Nat.le_of_ble_eq_true rfl) dX8_operand_7 (k1 := 0) (n1 := 0) rfl rfl ⟨Nat.zero_le _, Nat.zero_le _⟩ (fun H locs hP hD hS => ?_)
    obtain ⟨k7, hk11, hf⟩ := jn_at hf
    have hJ8 : ∀ (t5 : Int32) (vM_6 : Vs), k7 t5 vM_6 = some (r, vM1) → ∀ (H : Heap) (locs : List Loc), va_P g.1 vwCl (cM g bM vM_6) H → va_D A (cM g bM vM_6) → va_S A s.heap H locs → ∀ ls : Array Slot, lv_has ls 3 [] → W p l e (headSpec wsX8_operand rmX8_operand).room s m ([.ref (bM 0), .int x1, .int x2] : List Value).toArray below meth c H locs 0 0 (MQ below (qI g A (cM g bM vM1) r) ([.ref (bM 0), .int x1, .int x2] : List Value).toArray s 0 0 A) (F0 m 43 ls [.int t5]) := by
      intro t5 vM_6 hf H locs hP hD hS ls hl
      rw [hk11] at hf
      dsimp only at hf
      clear hk11
      obtain ⟨e9, e10⟩ := kp_2 hf
      rw [e10] at hP hD
      exact k_iret hx hb hr hlocks hK hP hD hS e9 dX8_operand_43
    obtain ⟨k13, hk15, hf⟩ := jn_at hf
    have hJ14 : ∀ (vM_12 : Vs), k13 vM_12 = some (r, vM1) → ∀ (H : Heap) (locs : List Loc), va_P g.1 vwCl (cM g bM vM_12) H → va_D A (cM g bM vM_12) → va_S A s.heap H locs → ∀ ls : Array Slot, lv_has ls 3 [] → W p l e (headSpec wsX8_operand rmX8_operand).room s m ([.ref (bM 0), .int x1, .int x2] : List Value).toArray below meth c H locs 0 0 (MQ below (qI g A (cM g bM vM1) r) ([.ref (bM 0), .int x1, .int x2] : List Value).toArray s 0 0 A) (F0 m 42 ls []) := by
      intro vM_12 hf H locs hP hD hS ls hl
      rw [hk15] at hf
      dsimp only at hf
      clear hk15
      refine lv_iconst (v := (0 : Int32)) hx hb dX8_operand_42 (by decide) ?_
      exact hJ8 (0 : Int32) vM_12 hf H locs hP hD hS _ (lv_sub hl [] rfl)
    refine lv_if_eq (tgt := 42) hx hb dX8_operand_10 (by decide) (fun c16 => ?_) (fun c16 => ?_)
    · have hf := it_t hf c16
      exact hJ14 vM_3 hf H locs hP hD hS _ (lv_sub hl [] rfl)
    · have hf := it_f hf c16
      refine lv_aload_n hx hb dX8_operand_13 rfl (lv_at hl 0 rfl) ?_
      refine lv_iload_n hx hb dX8_operand_14 rfl (lv_at hl 2 rfl) ?_
      refine lv_iconst (v := (0 : Int32)) hx hb dX8_operand_15 (by decide) ?_
      refine lv_aload_n hx hb dX8_operand_16 rfl (lv_at hl 0 rfl) ?_
      refine lv_iload_n hx hb dX8_operand_17 rfl (lv_at hl 1 rfl) ?_
      obtain ⟨r17, hg18, hf⟩ := o1_at hf
      refine k_viW ⟨hx, hb, hml, hown, htu⟩ hK hP hD hS hA hG (c_X8_have l g bM vM_3 x1 r17 hg18) (cwV 1 htu (gU_V mw_6_91 hcX8_have) rfl rfl rfl hdX8_have ⟨Nat.le_of_ble_eq_true rfl, Nat.le_of_ble_eq_true rfl⟩) (q0 := 0) (ci := 8) (fs := fcM bM vM_3) (q := (RX8, TX8, 23)) rfl rfl rfl (As := [.int x1]) (rest := [.int (0 : Int32), .int x2, .ref (bM 0)]) rfl rfl hl.1 (Nat.le_of_ble_eq_true rfl) dX8_operand_18 (k1 := 0) (n1 := 0) rfl rfl ⟨Nat.zero_le _, Nat.zero_le _⟩ (fun H locs hP hD hS => ?_)
      refine lv_iconst (v := (1 : Int32)) hx hb dX8_operand_21 (by decide) ?_
      refine lv_isub hx hb dX8_operand_22 ?_
      obtain ⟨r19, hg20, hf⟩ := o1_at hf
      refine k_si0 ⟨hx, hb, hml, hown, htu⟩ hK hP hD hS hA hG (c_X8_isIn l g x2 (0 : Int32) (r17 - (1 : Int32)) r19 hg20) (va_cwS 3 htu (gU_S mw_5_163 hcX8_isIn) rfl rfl rfl hdX8_isIn ⟨Nat.le_of_ble_eq_true rfl, Nat.le_of_ble_eq_true rfl⟩) (As := [.int x2, .int (0 : Int32), .int (r17 - (1 : Int32))]) (rest := [.ref (bM 0)]) rfl rfl hl.1 (Nat.le_of_ble_eq_true rfl) dX8_operand_23 (k1 := 0) (n1 := 0) rfl rfl ⟨Nat.zero_le _, Nat.zero_le _⟩ (fun H locs hP hD hS => ?_)
      refine lv_iconst (v := (2 : Int32)) hx hb dX8_operand_26 (by decide) ?_
      obtain ⟨r21, vM_22, hg23, hf⟩ := o2_at hf
      refine k_viW ⟨hx, hb, hml, hown, htu⟩ hK hP hD hS hA hG (c_X8_right l g bM vM_3 r19 (2 : Int32) r21 vM_22 hg23) (cwV 2 htu (gU_V mw_5_166 hcX8_right) rfl rfl rfl hdX8_right ⟨Nat.le_of_ble_eq_true rfl, Nat.le_of_ble_eq_true rfl⟩) (q0 := 0) (ci := 8) (fs := fcM bM vM_3) (q := (RX8, TX8, 23)) rfl rfl rfl (As := [.int r19, .int (2 : Int32)]) (rest := []) rfl rfl hl.1 (Nat.le_of_ble_eq_true rfl) dX8_operand_27 (k1 := 0) (n1 := 0) rfl rfl ⟨Nat.zero_le _, Nat.zero_le _⟩ (fun H locs hP hD hS => ?_)
      refine lv_if_eq (tgt := 42) hx hb dX8_operand_30 (by decide) (fun c24 => ?_) (fun c24 => ?_)
      · have hf := it_t hf c24
        exact hJ14 vM_22 hf H locs hP hD hS _ (lv_sub hl [] rfl)
      · have hf := it_f hf c24
        refine lv_aload_n hx hb dX8_operand_33 rfl (lv_at hl 0 rfl) ?_
        refine lv_iload_n hx hb dX8_operand_34 rfl (lv_at hl 1 rfl) ?_
        refine lv_iload_n hx hb dX8_operand_35 rfl (lv_at hl 2 rfl) ?_
        obtain ⟨r25, hg26, hf⟩ := o1_at hf
        refine k_viW ⟨hx, hb, hml, hown, htu⟩ hK hP hD hS hA hG (c_X8_operandOf l g bM vM_22 x1 x2 r25 hg26) (cwV 2 htu (gU_V mw_6_84 hcX8_operandOf) rfl rfl rfl hdX8_operandOf ⟨Nat.le_of_ble_eq_true rfl, Nat.le_of_ble_eq_true rfl⟩) (q0 := 0) (ci := 8) (fs := fcM bM vM_22) (q := (RX8, TX8, 23)) rfl rfl rfl (As := [.int x1, .int x2]) (rest := []) rfl rfl hl.1 (Nat.le_of_ble_eq_true rfl) dX8_operand_36 (k1 := 0) (n1 := 0) rfl rfl ⟨Nat.zero_le _, Nat.zero_le _⟩ (fun H locs hP hD hS => ?_)
        refine lv_goto (tgt := 43) hx hb dX8_operand_39 (by decide) ?_
        exact hJ8 r25 vM_22 hf H locs hP hD hS _ (lv_sub hl [] rfl)
  rw [hH, hlo] at hW
  exact hW
def f_X8_value (vM : Vs) (x1 : Int32) (x2 : Int32) : Option (Int32 × Vs) :=
  bn (sF vM 0 (0 : Int32)) (fun (vM_1 : Vs) => o2 (f_X8_isTest vM_1 x1) (fun (r2 : Int32) (vM_3 : Vs) => jn (fun (vM_5 : Vs) => some ((0 : Int32), vM_5)) (fun k6 => if r2 = 0 then k6 vM_3 else o2 (f_X8_isWire vM_3 x2) (fun (r12 : Int32) (vM_13 : Vs) => if r12 = 0 then k6 vM_13 else o1 (f_X8_asksTest vM_13 x1) (fun (vM_16 : Vs) => gd (inb x2 24) (some ((vM_16.2.1 7 (x2).toNatClampNeg), vM_16)))))))
abbrev wsX8_value : List Cond := .code yX8_value cX8_value 3 (some .int) :: UW
abbrev rmX8_value : Room := { frames := 5, cells := 0, slots := 0, locals := 113 }
set_option maxHeartbeats 4000000 in
set_option maxRecDepth 100000 in
theorem c_X8_value (l : Launch) (g : Gx) (bM : Nat → Nat) (vM : Vs) (x1 : Int32) (x2 : Int32) (r : Int32) (vM1 : Vs) (hf : f_X8_value vM x1 x2 = some (r, vM1)) : CtI l yX8_value wsX8_value rmX8_value g [.ref (bM 0), .int x1, .int x2] (cM g bM vM) (cM g bM vM1) r 0 0 := by
  unfold CtI
  intro sz
  refine Met.ofW (cc := cX8_value) (maxL := 3) (ret := (some .int)) (by decide) rfl ?_
  intro p e s m args below meth c s₁ B hml hv
  obtain ⟨rfl, hsz, hP, hK, hD0, hG⟩ := hv
  have hx := B.exec
  have hb := B.bytes
  have hr := B.returns
  have hts := atoms_spec (ws := wsX8_value) B.pre
  have hown : s.vm.findClass RX8 = some m.cls := findClass_of_methodNamed B.named
  have hlocks := B.notSynchronized
  subst hsz
  have hD := hD0.self (sz := s.heap.size)
  generalize hAe : va_A (cM g bM vM) s.heap.size = A at hD hG ⊢
  have hA : ∀ q : Nat, s.heap.size ≤ q → A q := fun q h => by rw [← hAe]; exact Or.inr h
  clear hAe hD0
  have hS : va_S A s.heap s.heap [] := va_S.rf
  have hl := lv_entry ([.ref (bM 0), .int x1, .int x2]) (n := 3) (Nat.le_of_ble_eq_true rfl)
  rw [lg_entry_eq]
  generalize (lg_sl ([.ref (bM 0), .int x1, .int x2]) ++ List.replicate (3 - (lg_sl ([.ref (bM 0), .int x1, .int x2])).length) Slot.unset).toArray = ls at hl ⊢
  have hl : lv_has ls 3 [(0, .ref (bM 0)), (1, .int x1), (2, .int x2)] := hl
  have htu : ∀ w ∈ UW, w.before _ s = true := fun w h => hts w (List.mem_cons_of_mem _ h)
  have k_5_72 := htu _ mw_5_72
  have k_5_79 := htu _ mw_5_79
  unfold f_X8_value at hf
  obtain ⟨H, hH⟩ : ∃ z, z = s.heap := ⟨_, rfl⟩
  obtain ⟨locs, hlo⟩ : ∃ z : List Loc, z = [] := ⟨_, rfl⟩
  have hS : va_S A s.heap H locs := by rw [hH, hlo]; exact hS
  rw [← hH] at hP
  have hW : W p l e (headSpec wsX8_value rmX8_value).room s m ([.ref (bM 0), .int x1, .int x2] : List Value).toArray below meth c H locs 0 0 (MQ below (qI g A (cM g bM vM1) r) ([.ref (bM 0), .int x1, .int x2] : List Value).toArray s 0 0 A) (F0 m 0 ls []) := by
    refine lv_aload_n hx hb dX8_value_0 rfl (lv_at hl 0 rfl) ?_
    refine lv_iconst (v := (0 : Int32)) hx hb dX8_value_1 (by decide) ?_
    refine va_put (D := g.1) (ci := 8) (fs := fcM bM vM) (v := .int (0 : Int32)) (ty := .int) (C := RX8) (T := TX8) (N := 23) hx hb htu hinX8 tyX8 tyX8_ok nmX8 hown hK hP hD hS 0 rfl rfl 0 (by decide) k_5_72 (fun _ h9 => h9) rfl (by decide +kernel) rfl rfl (Nat.le_of_ble_eq_true rfl) dX8_value_2 (fun H locs hP hD hS => ?_)
    obtain ⟨vM_1, evM_1⟩ : ∃ z, z = sF vM 0 (0 : Int32) := ⟨_, rfl⟩
    have hf := bn_at hf evM_1
    have hP : va_P g.1 vwCl (cM g bM vM_1) H := by rw [evM_1]; exact hP
    have hD : va_D A (cM g bM vM_1) := by rw [evM_1]; exact hD
    refine lv_aload_n hx hb dX8_value_5 rfl (lv_at hl 0 rfl) ?_
    refine lv_iload_n hx hb dX8_value_6 rfl (lv_at hl 1 rfl) ?_
    obtain ⟨r2, vM_3, hg4, hf⟩ := o2_at hf
    refine k_viW ⟨hx, hb, hml, hown, htu⟩ hK hP hD hS hA hG (c_X8_isTest l g bM vM_1 x1 r2 vM_3 hg4) (cwV 1 htu (gU_V mw_6_142 hcX8_isTest) rfl rfl rfl hdX8_isTest ⟨Nat.le_of_ble_eq_true rfl, Nat.le_of_ble_eq_true rfl⟩) (q0 := 0) (ci := 8) (fs := fcM bM vM_1) (q := (RX8, TX8, 23)) rfl rfl rfl (As := [.int x1]) (rest := []) rfl rfl hl.1 (Nat.le_of_ble_eq_true rfl) dX8_value_7 (k1 := 0) (n1 := 0) rfl rfl ⟨Nat.zero_le _, Nat.zero_le _⟩ (fun H locs hP hD hS => ?_)
    obtain ⟨k6, hk10, hf⟩ := jn_at hf
    have hJ7 : ∀ (vM_5 : Vs), k6 vM_5 = some (r, vM1) → ∀ (H : Heap) (locs : List Loc), va_P g.1 vwCl (cM g bM vM_5) H → va_D A (cM g bM vM_5) → va_S A s.heap H locs → ∀ ls : Array Slot, lv_has ls 3 [] → W p l e (headSpec wsX8_value rmX8_value).room s m ([.ref (bM 0), .int x1, .int x2] : List Value).toArray below meth c H locs 0 0 (MQ below (qI g A (cM g bM vM1) r) ([.ref (bM 0), .int x1, .int x2] : List Value).toArray s 0 0 A) (F0 m 21 ls []) := by
      intro vM_5 hf H locs hP hD hS ls hl
      rw [hk10] at hf
      dsimp only at hf
      clear hk10
      refine lv_iconst (v := (0 : Int32)) hx hb dX8_value_21 (by decide) ?_
      obtain ⟨e8, e9⟩ := kp_2 hf
      rw [e9] at hP hD
      exact k_iret hx hb hr hlocks hK hP hD hS e8 dX8_value_22
    refine lv_if_eq (tgt := 21) hx hb dX8_value_10 (by decide) (fun c11 => ?_) (fun c11 => ?_)
    · have hf := it_t hf c11
      exact hJ7 vM_3 hf H locs hP hD hS _ (lv_sub hl [] rfl)
    · have hf := it_f hf c11
      refine lv_aload_n hx hb dX8_value_13 rfl (lv_at hl 0 rfl) ?_
      refine lv_iload_n hx hb dX8_value_14 rfl (lv_at hl 2 rfl) ?_
      obtain ⟨r12, vM_13, hg14, hf⟩ := o2_at hf
      refine k_viW ⟨hx, hb, hml, hown, htu⟩ hK hP hD hS hA hG (c_X8_isWire l g bM vM_3 x2 r12 vM_13 hg14) (cwV 1 htu (gU_V mw_6_118 hcX8_isWire) rfl rfl rfl hdX8_isWire ⟨Nat.le_of_ble_eq_true rfl, Nat.le_of_ble_eq_true rfl⟩) (q0 := 0) (ci := 8) (fs := fcM bM vM_3) (q := (RX8, TX8, 23)) rfl rfl rfl (As := [.int x2]) (rest := []) rfl rfl hl.1 (Nat.le_of_ble_eq_true rfl) dX8_value_15 (k1 := 0) (n1 := 0) rfl rfl ⟨Nat.zero_le _, Nat.zero_le _⟩ (fun H locs hP hD hS => ?_)
      refine lv_if_ne (tgt := 23) hx hb dX8_value_18 (by decide) (fun c15 => ?_) (fun c15 => ?_)
      · have hf := it_f hf c15
        refine lv_aload_n hx hb dX8_value_23 rfl (lv_at hl 0 rfl) ?_
        refine lv_iload_n hx hb dX8_value_24 rfl (lv_at hl 1 rfl) ?_
        obtain ⟨vM_16, hg17, hf⟩ := o1_at hf
        refine k_vvW ⟨hx, hb, hml, hown, htu⟩ hK hP hD hS hA hG (c_X8_asksTest l g bM vM_13 x1 vM_16 hg17) (cwV 1 htu (gU_V mw_6_68 hcX8_asksTest) rfl rfl rfl hdX8_asksTest ⟨Nat.le_of_ble_eq_true rfl, Nat.le_of_ble_eq_true rfl⟩) (q0 := 0) (ci := 8) (fs := fcM bM vM_13) (q := (RX8, TX8, 23)) rfl rfl rfl (As := [.int x1]) (rest := []) rfl rfl hl.1 (Nat.le_of_ble_eq_true rfl) dX8_value_25 (k1 := 0) (n1 := 0) rfl rfl ⟨Nat.zero_le _, Nat.zero_le _⟩ (fun H locs hP hD hS => ?_)
        refine lv_aload_n hx hb dX8_value_28 rfl (lv_at hl 0 rfl) ?_
        refine va_get (D := g.1) (ci := 8) (fs := fcM bM vM_16) (v := .ref (bM 8)) (C := RX8) (T := TX8) (N := 23) hx hb htu hinX8 hown hK hP 0 rfl rfl 7 (by decide) k_5_79 (fun _ h9 => h9) rfl dX8_value_29 ?_
        refine lv_iload_n hx hb dX8_value_32 rfl (lv_at hl 2 rfl) ?_
        obtain ⟨h18, hf⟩ := gd_in hf
        refine va_iald (D := g.1) (f := (vM_16.2.1 7)) hx hb hK hP 5 0 rfl rfl h18 dX8_value_33 ?_
        obtain ⟨e19, e20⟩ := kp_2 hf
        rw [e20] at hP hD
        exact k_iret hx hb hr hlocks hK hP hD hS e19 dX8_value_34
      · have hf := it_t hf c15
        exact hJ7 vM_13 hf H locs hP hD hS _ (lv_sub hl [] rfl)
  rw [hH, hlo] at hW
  exact hW
def f_X8_faulty (vM : Vs) (x1 : Int32) (x2 : Int32) (x3 : Int32) : Option (Int32 × Vs) :=
  bn (sF vM 0 (0 : Int32)) (fun (vM_1 : Vs) => o2 (f_X8_isTest vM_1 x1) (fun (r2 : Int32) (vM_3 : Vs) => jn (fun (vM_5 : Vs) => some ((0 : Int32), vM_5)) (fun k6 => if r2 = 0 then k6 vM_3 else o2 (f_X8_isFault vM_3 x2) (fun (r12 : Int32) (vM_13 : Vs) => if r12 = 0 then k6 vM_13 else o2 (f_X8_isWire vM_13 x3) (fun (r16 : Int32) (vM_17 : Vs) => if r16 = 0 then k6 vM_17 else o1 (f_X8_asksTest vM_17 x1) (fun (vM_20 : Vs) => o1 (f_X8_bends vM_20 x2) (fun (vM_22 : Vs) => gd (inb x3 24) (some ((vM_22.2.1 8 (x3).toNatClampNeg), vM_22)))))))))
abbrev wsX8_faulty : List Cond := .code yX8_faulty cX8_faulty 4 (some .int) :: UW
abbrev rmX8_faulty : Room := { frames := 5, cells := 0, slots := 0, locals := 113 }
set_option maxHeartbeats 4000000 in
set_option maxRecDepth 100000 in
theorem c_X8_faulty (l : Launch) (g : Gx) (bM : Nat → Nat) (vM : Vs) (x1 : Int32) (x2 : Int32) (x3 : Int32) (r : Int32) (vM1 : Vs) (hf : f_X8_faulty vM x1 x2 x3 = some (r, vM1)) : CtI l yX8_faulty wsX8_faulty rmX8_faulty g [.ref (bM 0), .int x1, .int x2, .int x3] (cM g bM vM) (cM g bM vM1) r 0 0 := by
  unfold CtI
  intro sz
  refine Met.ofW (cc := cX8_faulty) (maxL := 4) (ret := (some .int)) (by decide) rfl ?_
  intro p e s m args below meth c s₁ B hml hv
  obtain ⟨rfl, hsz, hP, hK, hD0, hG⟩ := hv
  have hx := B.exec
  have hb := B.bytes
  have hr := B.returns
  have hts := atoms_spec (ws := wsX8_faulty) B.pre
  have hown : s.vm.findClass RX8 = some m.cls := findClass_of_methodNamed B.named
  have hlocks := B.notSynchronized
  subst hsz
  have hD := hD0.self (sz := s.heap.size)
  generalize hAe : va_A (cM g bM vM) s.heap.size = A at hD hG ⊢
  have hA : ∀ q : Nat, s.heap.size ≤ q → A q := fun q h => by rw [← hAe]; exact Or.inr h
  clear hAe hD0
  have hS : va_S A s.heap s.heap [] := va_S.rf
  have hl := lv_entry ([.ref (bM 0), .int x1, .int x2, .int x3]) (n := 4) (Nat.le_of_ble_eq_true rfl)
  rw [lg_entry_eq]
  generalize (lg_sl ([.ref (bM 0), .int x1, .int x2, .int x3]) ++ List.replicate (4 - (lg_sl ([.ref (bM 0), .int x1, .int x2, .int x3])).length) Slot.unset).toArray = ls at hl ⊢
  have hl : lv_has ls 4 [(0, .ref (bM 0)), (1, .int x1), (2, .int x2), (3, .int x3)] := hl
  have htu : ∀ w ∈ UW, w.before _ s = true := fun w h => hts w (List.mem_cons_of_mem _ h)
  have k_5_72 := htu _ mw_5_72
  have k_5_80 := htu _ mw_5_80
  unfold f_X8_faulty at hf
  obtain ⟨H, hH⟩ : ∃ z, z = s.heap := ⟨_, rfl⟩
  obtain ⟨locs, hlo⟩ : ∃ z : List Loc, z = [] := ⟨_, rfl⟩
  have hS : va_S A s.heap H locs := by rw [hH, hlo]; exact hS
  rw [← hH] at hP
  have hW : W p l e (headSpec wsX8_faulty rmX8_faulty).room s m ([.ref (bM 0), .int x1, .int x2, .int x3] : List Value).toArray below meth c H locs 0 0 (MQ below (qI g A (cM g bM vM1) r) ([.ref (bM 0), .int x1, .int x2, .int x3] : List Value).toArray s 0 0 A) (F0 m 0 ls []) := by
    refine lv_aload_n hx hb dX8_faulty_0 rfl (lv_at hl 0 rfl) ?_
    refine lv_iconst (v := (0 : Int32)) hx hb dX8_faulty_1 (by decide) ?_
    refine va_put (D := g.1) (ci := 8) (fs := fcM bM vM) (v := .int (0 : Int32)) (ty := .int) (C := RX8) (T := TX8) (N := 23) hx hb htu hinX8 tyX8 tyX8_ok nmX8 hown hK hP hD hS 0 rfl rfl 0 (by decide) k_5_72 (fun _ h9 => h9) rfl (by decide +kernel) rfl rfl (Nat.le_of_ble_eq_true rfl) dX8_faulty_2 (fun H locs hP hD hS => ?_)
    obtain ⟨vM_1, evM_1⟩ : ∃ z, z = sF vM 0 (0 : Int32) := ⟨_, rfl⟩
    have hf := bn_at hf evM_1
    have hP : va_P g.1 vwCl (cM g bM vM_1) H := by rw [evM_1]; exact hP
    have hD : va_D A (cM g bM vM_1) := by rw [evM_1]; exact hD
    refine lv_aload_n hx hb dX8_faulty_5 rfl (lv_at hl 0 rfl) ?_
    refine lv_iload_n hx hb dX8_faulty_6 rfl (lv_at hl 1 rfl) ?_
    obtain ⟨r2, vM_3, hg4, hf⟩ := o2_at hf
    refine k_viW ⟨hx, hb, hml, hown, htu⟩ hK hP hD hS hA hG (c_X8_isTest l g bM vM_1 x1 r2 vM_3 hg4) (cwV 1 htu (gU_V mw_6_142 hcX8_isTest) rfl rfl rfl hdX8_isTest ⟨Nat.le_of_ble_eq_true rfl, Nat.le_of_ble_eq_true rfl⟩) (q0 := 0) (ci := 8) (fs := fcM bM vM_1) (q := (RX8, TX8, 23)) rfl rfl rfl (As := [.int x1]) (rest := []) rfl rfl hl.1 (Nat.le_of_ble_eq_true rfl) dX8_faulty_7 (k1 := 0) (n1 := 0) rfl rfl ⟨Nat.zero_le _, Nat.zero_le _⟩ (fun H locs hP hD hS => ?_)
    obtain ⟨k6, hk10, hf⟩ := jn_at hf
    have hJ7 : ∀ (vM_5 : Vs), k6 vM_5 = some (r, vM1) → ∀ (H : Heap) (locs : List Loc), va_P g.1 vwCl (cM g bM vM_5) H → va_D A (cM g bM vM_5) → va_S A s.heap H locs → ∀ ls : Array Slot, lv_has ls 4 [] → W p l e (headSpec wsX8_faulty rmX8_faulty).room s m ([.ref (bM 0), .int x1, .int x2, .int x3] : List Value).toArray below meth c H locs 0 0 (MQ below (qI g A (cM g bM vM1) r) ([.ref (bM 0), .int x1, .int x2, .int x3] : List Value).toArray s 0 0 A) (F0 m 29 ls []) := by
      intro vM_5 hf H locs hP hD hS ls hl
      rw [hk10] at hf
      dsimp only at hf
      clear hk10
      refine lv_iconst (v := (0 : Int32)) hx hb dX8_faulty_29 (by decide) ?_
      obtain ⟨e8, e9⟩ := kp_2 hf
      rw [e9] at hP hD
      exact k_iret hx hb hr hlocks hK hP hD hS e8 dX8_faulty_30
    refine lv_if_eq (tgt := 29) hx hb dX8_faulty_10 (by decide) (fun c11 => ?_) (fun c11 => ?_)
    · have hf := it_t hf c11
      exact hJ7 vM_3 hf H locs hP hD hS _ (lv_sub hl [] rfl)
    · have hf := it_f hf c11
      refine lv_aload_n hx hb dX8_faulty_13 rfl (lv_at hl 0 rfl) ?_
      refine lv_iload_n hx hb dX8_faulty_14 rfl (lv_at hl 2 rfl) ?_
      obtain ⟨r12, vM_13, hg14, hf⟩ := o2_at hf
      refine k_viW ⟨hx, hb, hml, hown, htu⟩ hK hP hD hS hA hG (c_X8_isFault l g bM vM_3 x2 r12 vM_13 hg14) (cwV 1 htu (gU_V mw_6_150 hcX8_isFault) rfl rfl rfl hdX8_isFault ⟨Nat.le_of_ble_eq_true rfl, Nat.le_of_ble_eq_true rfl⟩) (q0 := 0) (ci := 8) (fs := fcM bM vM_3) (q := (RX8, TX8, 23)) rfl rfl rfl (As := [.int x2]) (rest := []) rfl rfl hl.1 (Nat.le_of_ble_eq_true rfl) dX8_faulty_15 (k1 := 0) (n1 := 0) rfl rfl ⟨Nat.zero_le _, Nat.zero_le _⟩ (fun H locs hP hD hS => ?_)
      refine lv_if_eq (tgt := 29) hx hb dX8_faulty_18 (by decide) (fun c15 => ?_) (fun c15 => ?_)
      · have hf := it_t hf c15
        exact hJ7 vM_13 hf H locs hP hD hS _ (lv_sub hl [] rfl)
      · have hf := it_f hf c15
        refine lv_aload_n hx hb dX8_faulty_21 rfl (lv_at hl 0 rfl) ?_
        refine lv_iload_n hx hb dX8_faulty_22 rfl (lv_at hl 3 rfl) ?_
        obtain ⟨r16, vM_17, hg18, hf⟩ := o2_at hf
        refine k_viW ⟨hx, hb, hml, hown, htu⟩ hK hP hD hS hA hG (c_X8_isWire l g bM vM_13 x3 r16 vM_17 hg18) (cwV 1 htu (gU_V mw_6_118 hcX8_isWire) rfl rfl rfl hdX8_isWire ⟨Nat.le_of_ble_eq_true rfl, Nat.le_of_ble_eq_true rfl⟩) (q0 := 0) (ci := 8) (fs := fcM bM vM_13) (q := (RX8, TX8, 23)) rfl rfl rfl (As := [.int x3]) (rest := []) rfl rfl hl.1 (Nat.le_of_ble_eq_true rfl) dX8_faulty_23 (k1 := 0) (n1 := 0) rfl rfl ⟨Nat.zero_le _, Nat.zero_le _⟩ (fun H locs hP hD hS => ?_)
        refine lv_if_ne (tgt := 31) hx hb dX8_faulty_26 (by decide) (fun c19 => ?_) (fun c19 => ?_)
        · have hf := it_f hf c19
          refine lv_aload_n hx hb dX8_faulty_31 rfl (lv_at hl 0 rfl) ?_
          refine lv_iload_n hx hb dX8_faulty_32 rfl (lv_at hl 1 rfl) ?_
          obtain ⟨vM_20, hg21, hf⟩ := o1_at hf
          refine k_vvW ⟨hx, hb, hml, hown, htu⟩ hK hP hD hS hA hG (c_X8_asksTest l g bM vM_17 x1 vM_20 hg21) (cwV 1 htu (gU_V mw_6_68 hcX8_asksTest) rfl rfl rfl hdX8_asksTest ⟨Nat.le_of_ble_eq_true rfl, Nat.le_of_ble_eq_true rfl⟩) (q0 := 0) (ci := 8) (fs := fcM bM vM_17) (q := (RX8, TX8, 23)) rfl rfl rfl (As := [.int x1]) (rest := []) rfl rfl hl.1 (Nat.le_of_ble_eq_true rfl) dX8_faulty_33 (k1 := 0) (n1 := 0) rfl rfl ⟨Nat.zero_le _, Nat.zero_le _⟩ (fun H locs hP hD hS => ?_)
          refine lv_aload_n hx hb dX8_faulty_36 rfl (lv_at hl 0 rfl) ?_
          refine lv_iload_n hx hb dX8_faulty_37 rfl (lv_at hl 2 rfl) ?_
          obtain ⟨vM_22, hg23, hf⟩ := o1_at hf
          refine k_vvW ⟨hx, hb, hml, hown, htu⟩ hK hP hD hS hA hG (c_X8_bends l g bM vM_20 x2 vM_22 hg23) (cwV 1 htu (gU_V mw_6_102 hcX8_bends) rfl rfl rfl hdX8_bends ⟨Nat.le_of_ble_eq_true rfl, Nat.le_of_ble_eq_true rfl⟩) (q0 := 0) (ci := 8) (fs := fcM bM vM_20) (q := (RX8, TX8, 23)) rfl rfl rfl (As := [.int x2]) (rest := []) rfl rfl hl.1 (Nat.le_of_ble_eq_true rfl) dX8_faulty_38 (k1 := 0) (n1 := 0) rfl rfl ⟨Nat.zero_le _, Nat.zero_le _⟩ (fun H locs hP hD hS => ?_)
          refine lv_aload_n hx hb dX8_faulty_41 rfl (lv_at hl 0 rfl) ?_
          refine va_get (D := g.1) (ci := 8) (fs := fcM bM vM_22) (v := .ref (bM 9)) (C := RX8) (T := TX8) (N := 23) hx hb htu hinX8 hown hK hP 0 rfl rfl 8 (by decide) k_5_80 (fun _ h9 => h9) rfl dX8_faulty_42 ?_
          refine lv_iload_n hx hb dX8_faulty_45 rfl (lv_at hl 3 rfl) ?_
          obtain ⟨h24, hf⟩ := gd_in hf
          refine va_iald (D := g.1) (f := (vM_22.2.1 8)) hx hb hK hP 6 0 rfl rfl h24 dX8_faulty_46 ?_
          obtain ⟨e25, e26⟩ := kp_2 hf
          rw [e26] at hP hD
          exact k_iret hx hb hr hlocks hK hP hD hS e25 dX8_faulty_47
        · have hf := it_t hf c19
          exact hJ7 vM_17 hf H locs hP hD hS _ (lv_sub hl [] rfl)
  rw [hH, hlo] at hW
  exact hW
