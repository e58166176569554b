def f_X8_four_L3 (x1 : Int32) (self3 : Int32 → Vs → Option (Vs)) (x2_1 : Int32) (vM_2 : Vs) : Option (Vs) :=
  if x2_1 < 0 then some (vM_2) else gd (inb (vM_2.1 12) 800) (bn (sI vM_2 11 ((vM_2.1 12)).toNatClampNeg ((x1 >>> (x2_1 &&& 31)) &&& (255 : Int32))) (fun (vM_9 : Vs) => bn (sF vM_9 12 ((vM_9.1 12) + (1 : Int32))) (fun (vM_10 : Vs) => self3 (x2_1 + (-8 : Int32)) vM_10)))
def f_X8_four (vM : Vs) (x1 : Int32) : Option (Vs) :=
  lp (f_X8_four_L3 x1) (fun _ _ => none) FU (24 : Int32) vM
abbrev wsX8_four : List Cond := .code yX8_four cX8_four 3 none :: UW
abbrev rmX8_four : Room := { frames := 0, cells := 0, slots := 0, locals := 0 }
set_option maxHeartbeats 4000000 in
set_option maxRecDepth 100000 in
theorem c_X8_four (l : Launch) (g : Gx) (bM : Nat → Nat) (vM : Vs) (x1 : Int32) (vM1 : Vs) (hf : f_X8_four vM x1 = some vM1) : CtV l yX8_four wsX8_four rmX8_four g [.ref (bM 0), .int x1] (cM g bM vM) (cM g bM vM1) 0 0 := by
  unfold CtV
  intro sz
  refine Met.ofW (cc := cX8_four) (maxL := 3) (ret := none) (by decide) rfl ?_
  intro p e s m args below meth c s₁ B hml hv
  obtain ⟨rfl, hsz, hP, hK, hD0, hG⟩ := hv
  have hx := B.exec
  have hb := B.bytes
  have hr := B.returns
  have hts := atoms_spec (ws := wsX8_four) B.pre
  have hown : s.vm.findClass RX8 = some m.cls := findClass_of_methodNamed B.named
  have hlocks := B.notSynchronized
  subst hsz
  have hD := hD0.self (sz := s.heap.size)
  generalize hAe : va_A (cM g bM vM) s.heap.size = A at hD hG ⊢
  have hA : ∀ q : Nat, s.heap.size ≤ q → A q := fun q h => by rw [← hAe]; exact Or.inr h
  clear hAe hD0
  have hS : va_S A s.heap s.heap [] := va_S.rf
  have hl := lv_entry ([.ref (bM 0), .int x1]) (n := 3) (Nat.le_of_ble_eq_true rfl)
  rw [lg_entry_eq]
  generalize (lg_sl ([.ref (bM 0), .int x1]) ++ List.replicate (3 - (lg_sl ([.ref (bM 0), .int x1])).length) Slot.unset).toArray = ls at hl ⊢
  have hl : lv_has ls 3 [(0, .ref (bM 0)), (1, .int x1)] := hl
  have htu : ∀ w ∈ UW, w.before _ s = true := fun w h => hts w (List.mem_cons_of_mem _ h)
  have k_5_83 := htu _ mw_5_83
  have k_5_84 := htu _ mw_5_84
  unfold f_X8_four at hf
  obtain ⟨H, hH⟩ : ∃ z, z = s.heap := ⟨_, rfl⟩
  obtain ⟨locs, hlo⟩ : ∃ z : List Loc, z = [] := ⟨_, rfl⟩
  have hS : va_S A s.heap H locs := by rw [hH, hlo]; exact hS
  rw [← hH] at hP
  have hW : W p l e (headSpec wsX8_four rmX8_four).room s m ([.ref (bM 0), .int x1] : List Value).toArray below meth c H locs 0 0 (MQ below (qV g A (cM g bM vM1)) ([.ref (bM 0), .int x1] : List Value).toArray s 0 0 A) (F0 m 0 ls []) := by
    refine lv_bipush (v := (24 : Int32)) hx hb dX8_four_0 (by decide) ?_
    refine lv_istore_n (lv' := [(2, .int (24 : Int32)), (0, .ref (bM 0)), (1, .int x1)]) hx hb dX8_four_2 rfl hl (by decide) rfl (fun ls hl => ?_)
    have hL4 : ∀ (x2_1 : Int32) (vM_2 : Vs), lp (f_X8_four_L3 x1) (fun _ _ => none) FU x2_1 vM_2 = some vM1 → ∀ (H : Heap) (locs : List Loc), va_P g.1 vwCl (cM g bM vM_2) H → va_D A (cM g bM vM_2) → va_S A s.heap H locs → ∀ ls : Array Slot, lv_has ls 3 [(0, .ref (bM 0)), (1, .int x1), (2, .int x2_1)] → W p l e (headSpec wsX8_four rmX8_four).room s m ([.ref (bM 0), .int x1] : List Value).toArray below meth c H locs 0 0 (MQ below (qV g A (cM g bM vM1)) ([.ref (bM 0), .int x1] : List Value).toArray s 0 0 A) (F0 m 3 ls []) := by
      refine lp_ind (T := Int32 → Vs → Option (Vs)) (fun self3 => ∀ (x2_1 : Int32) (vM_2 : Vs), self3 x2_1 vM_2 = some vM1 → ∀ (H : Heap) (locs : List Loc), va_P g.1 vwCl (cM g bM vM_2) H → va_D A (cM g bM vM_2) → va_S A s.heap H locs → ∀ ls : Array Slot, lv_has ls 3 [(0, .ref (bM 0)), (1, .int x1), (2, .int x2_1)] → W p l e (headSpec wsX8_four rmX8_four).room s m ([.ref (bM 0), .int x1] : List Value).toArray below meth c H locs 0 0 (MQ below (qV g A (cM g bM vM1)) ([.ref (bM 0), .int x1] : List Value).toArray s 0 0 A) (F0 m 3 ls [])) ?_ ?_ FU
      · intro x2_1 vM_2 hf; cases hf
      · intro self3 ih5 x2_1 vM_2 hf H locs hP hD hS ls hl
        unfold f_X8_four_L3 at hf
        refine lv_iload_n hx hb dX8_four_3 rfl (lv_at hl 2 rfl) ?_
        refine lv_if_lt (tgt := 39) hx hb dX8_four_4 (by decide) (fun c6 => ?_) (fun c6 => ?_)
        · have hf := it_t hf c6
          have e7 := Option.some.inj hf
          rw [e7] at hP hD
          exact k_vret hx hb hr hlocks hK hP hD hS dX8_four_39
        · have hf := it_f hf c6
          refine lv_aload_n hx hb dX8_four_7 rfl (lv_at hl 0 rfl) ?_
          refine va_get (D := g.1) (ci := 8) (fs := fcM bM vM_2) (v := .ref (bM 12)) (C := RX8) (T := TX8) (N := 23) hx hb htu hinX8 hown hK hP 0 rfl rfl 11 (by decide) k_5_83 (fun _ h9 => h9) rfl dX8_four_8 ?_
          refine lv_aload_n hx hb dX8_four_11 rfl (lv_at hl 0 rfl) ?_
          refine va_get (D := g.1) (ci := 8) (fs := fcM bM vM_2) (v := .int (vM_2.1 12)) (C := RX8) (T := TX8) (N := 23) hx hb htu hinX8 hown hK hP 0 rfl rfl 12 (by decide) k_5_84 (fun _ h9 => h9) rfl dX8_four_12 ?_
          refine lv_iload_n hx hb dX8_four_15 rfl (lv_at hl 1 rfl) ?_
          refine lv_iload_n hx hb dX8_four_16 rfl (lv_at hl 2 rfl) ?_
          refine lv_ishr hx hb dX8_four_17 ?_
          refine lv_sipush (v := (255 : Int32)) hx hb dX8_four_18 (by decide) ?_
          refine lv_iand hx hb dX8_four_21 ?_
          obtain ⟨h8, hf⟩ := gd_in hf
          refine va_iast (D := g.1) (f := (vM_2.2.1 11)) hx hb hK hP hD hS 9 0 rfl rfl h8 dX8_four_22 (fun H locs hP hD hS => ?_)
          obtain ⟨vM_9, evM_9⟩ : ∃ z, z = sI vM_2 11 ((vM_2.1 12)).toNatClampNeg ((x1 >>> (x2_1 &&& 31)) &&& (255 : Int32)) := ⟨_, rfl⟩
          have hf := bn_at hf evM_9
          have hP : va_P g.1 vwCl (cM g bM vM_9) H := by rw [evM_9]; exact hP
          have hD : va_D A (cM g bM vM_9) := by rw [evM_9]; exact hD
          refine lv_aload_n hx hb dX8_four_23 rfl (lv_at hl 0 rfl) ?_
          refine lv_dup hx hb dX8_four_24 rfl ?_
          refine va_get (D := g.1) (ci := 8) (fs := fcM bM vM_9) (v := .int (vM_9.1 12)) (C := RX8) (T := TX8) (N := 23) hx hb htu hinX8 hown hK hP 0 rfl rfl 12 (by decide) k_5_84 (fun _ h9 => h9) rfl dX8_four_25 ?_
          refine lv_iconst (v := (1 : Int32)) hx hb dX8_four_28 (by decide) ?_
          refine lv_iadd hx hb dX8_four_29 ?_
          refine va_put (D := g.1) (ci := 8) (fs := fcM bM vM_9) (v := .int ((vM_9.1 12) + (1 : Int32))) (ty := .int) (C := RX8) (T := TX8) (N := 23) hx hb htu hinX8 tyX8 tyX8_ok nmX8 hown hK hP hD hS 0 rfl rfl 12 (by decide) k_5_84 (fun _ h9 => h9) rfl (by decide +kernel) rfl rfl (Nat.le_of_ble_eq_true rfl) dX8_four_30 (fun H locs hP hD hS => ?_)
          obtain ⟨vM_10, evM_10⟩ : ∃ z, z = sF vM_9 12 ((vM_9.1 12) + (1 : Int32)) := ⟨_, rfl⟩
          have hf := bn_at hf evM_10
          have hP : va_P g.1 vwCl (cM g bM vM_10) H := by rw [evM_10]; exact hP
          have hD : va_D A (cM g bM vM_10) := by rw [evM_10]; exact hD
          refine lv_iinc (v := (x2_1 + (-8 : Int32))) (lv' := [(2, .int (x2_1 + (-8 : Int32))), (0, .ref (bM 0)), (1, .int x1)]) hx hb dX8_four_33 hl (k := 2) rfl rfl (by decide) rfl (fun ls hl => ?_)
          refine lv_goto (tgt := 3) hx hb dX8_four_36 (by decide) ?_
          exact ih5 (x2_1 + (-8 : Int32)) vM_10 hf H locs hP hD hS _ (lv_sub hl [1, 2, 0] rfl)
    exact hL4 (24 : Int32) vM hf H locs hP hD hS _ (lv_sub hl [1, 2, 0] rfl)
  rw [hH, hlo] at hW
  exact hW
def f_X8_append (vM : Vs) (x1 : Int32) (x2 : Int32) (x3 : Int32) (x4 : Int32) (x5 : Int32) : Option (Int32 × Vs) :=
  bn (sF vM 0 (0 : Int32)) (fun (vM_1 : Vs) => if ((vM_1.1 12) + (20 : Int32)) ≤ (800 : Int32) then o1 (f_X8_four vM_1 x1) (fun (vM_3 : Vs) => o1 (f_X8_four vM_3 x2) (fun (vM_5 : Vs) => o1 (f_X8_four vM_5 x3) (fun (vM_7 : Vs) => o1 (f_X8_four vM_7 x4) (fun (vM_9 : Vs) => o1 (f_X8_four vM_9 x5) (fun (vM_11 : Vs) => some ((vM_11.1 12), vM_11)))))) else some ((-1 : Int32), vM_1))
abbrev wsX8_append : List Cond := .code yX8_append cX8_append 6 (some .int) :: UW
abbrev rmX8_append : Room := { frames := 1, cells := 0, slots := 0, locals := 22 }
set_option maxHeartbeats 4000000 in
set_option maxRecDepth 100000 in
theorem c_X8_append (l : Launch) (g : Gx) (bM : Nat → Nat) (vM : Vs) (x1 : Int32) (x2 : Int32) (x3 : Int32) (x4 : Int32) (x5 : Int32) (r : Int32) (vM1 : Vs) (hf : f_X8_append vM x1 x2 x3 x4 x5 = some (r, vM1)) : CtI l yX8_append wsX8_append rmX8_append g [.ref (bM 0), .int x1, .int x2, .int x3, .int x4, .int x5] (cM g bM vM) (cM g bM vM1) r 0 0 := by
  unfold CtI
  intro sz
  refine Met.ofW (cc := cX8_append) (maxL := 6) (ret := (some .int)) (by decide) rfl ?_
  intro p e s m args below meth c s₁ B hml hv
  obtain ⟨rfl, hsz, hP, hK, hD0, hG⟩ := hv
  have hx := B.exec
  have hb := B.bytes
  have hr := B.returns
  have hts := atoms_spec (ws := wsX8_append) B.pre
  have hown : s.vm.findClass RX8 = some m.cls := findClass_of_methodNamed B.named
  have hlocks := B.notSynchronized
  subst hsz
  have hD := hD0.self (sz := s.heap.size)
  generalize hAe : va_A (cM g bM vM) s.heap.size = A at hD hG ⊢
  have hA : ∀ q : Nat, s.heap.size ≤ q → A q := fun q h => by rw [← hAe]; exact Or.inr h
  clear hAe hD0
  have hS : va_S A s.heap s.heap [] := va_S.rf
  have hl := lv_entry ([.ref (bM 0), .int x1, .int x2, .int x3, .int x4, .int x5]) (n := 6) (Nat.le_of_ble_eq_true rfl)
  rw [lg_entry_eq]
  generalize (lg_sl ([.ref (bM 0), .int x1, .int x2, .int x3, .int x4, .int x5]) ++ List.replicate (6 - (lg_sl ([.ref (bM 0), .int x1, .int x2, .int x3, .int x4, .int x5])).length) Slot.unset).toArray = ls at hl ⊢
  have hl : lv_has ls 6 [(0, .ref (bM 0)), (1, .int x1), (2, .int x2), (3, .int x3), (4, .int x4), (5, .int x5)] := hl
  have htu : ∀ w ∈ UW, w.before _ s = true := fun w h => hts w (List.mem_cons_of_mem _ h)
  have k_5_72 := htu _ mw_5_72
  have k_5_84 := htu _ mw_5_84
  unfold f_X8_append at hf
  obtain ⟨H, hH⟩ : ∃ z, z = s.heap := ⟨_, rfl⟩
  obtain ⟨locs, hlo⟩ : ∃ z : List Loc, z = [] := ⟨_, rfl⟩
  have hS : va_S A s.heap H locs := by rw [hH, hlo]; exact hS
  rw [← hH] at hP
  have hW : W p l e (headSpec wsX8_append rmX8_append).room s m ([.ref (bM 0), .int x1, .int x2, .int x3, .int x4, .int x5] : List Value).toArray below meth c H locs 0 0 (MQ below (qI g A (cM g bM vM1) r) ([.ref (bM 0), .int x1, .int x2, .int x3, .int x4, .int x5] : List Value).toArray s 0 0 A) (F0 m 0 ls []) := by
    refine lv_aload_n hx hb dX8_append_0 rfl (lv_at hl 0 rfl) ?_
    refine lv_iconst (v := (0 : Int32)) hx hb dX8_append_1 (by decide) ?_
    refine va_put (D := g.1) (ci := 8) (fs := fcM bM vM) (v := .int (0 : Int32)) (ty := .int) (C := RX8) (T := TX8) (N := 23) hx hb htu hinX8 tyX8 tyX8_ok nmX8 hown hK hP hD hS 0 rfl rfl 0 (by decide) k_5_72 (fun _ h9 => h9) rfl (by decide +kernel) rfl rfl (Nat.le_of_ble_eq_true rfl) dX8_append_2 (fun H locs hP hD hS => ?_)
    obtain ⟨vM_1, evM_1⟩ : ∃ z, z = sF vM 0 (0 : Int32) := ⟨_, rfl⟩
    have hf := bn_at hf evM_1
    have hP : va_P g.1 vwCl (cM g bM vM_1) H := by rw [evM_1]; exact hP
    have hD : va_D A (cM g bM vM_1) := by rw [evM_1]; exact hD
    refine lv_aload_n hx hb dX8_append_5 rfl (lv_at hl 0 rfl) ?_
    refine va_get (D := g.1) (ci := 8) (fs := fcM bM vM_1) (v := .int (vM_1.1 12)) (C := RX8) (T := TX8) (N := 23) hx hb htu hinX8 hown hK hP 0 rfl rfl 12 (by decide) k_5_84 (fun _ h9 => h9) rfl dX8_append_6 ?_
    refine lv_bipush (v := (20 : Int32)) hx hb dX8_append_9 (by decide) ?_
    refine lv_iadd hx hb dX8_append_11 ?_
    refine lv_sipush (v := (800 : Int32)) hx hb dX8_append_12 (by decide) ?_
    refine lv_icmp_le (tgt := 20) hx hb dX8_append_15 (by decide) (fun c2 => ?_) (fun c2 => ?_)
    · have hf := it_t hf c2
      refine lv_aload_n hx hb dX8_append_20 rfl (lv_at hl 0 rfl) ?_
      refine lv_iload_n hx hb dX8_append_21 rfl (lv_at hl 1 rfl) ?_
      obtain ⟨vM_3, hg4, hf⟩ := o1_at hf
      refine k_vvW ⟨hx, hb, hml, hown, htu⟩ hK hP hD hS hA hG (c_X8_four l g bM vM_1 x1 vM_3 hg4) (cwV 1 htu (gU_V mw_5_151 hcX8_four) rfl rfl rfl hdX8_four ⟨Nat.le_of_ble_eq_true rfl, Nat.le_of_ble_eq_true rfl⟩) (q0 := 0) (ci := 8) (fs := fcM bM vM_1) (q := (RX8, TX8, 23)) rfl rfl rfl (As := [.int x1]) (rest := []) rfl rfl hl.1 (Nat.le_of_ble_eq_true rfl) dX8_append_22 (k1 := 0) (n1 := 0) rfl rfl ⟨Nat.zero_le _, Nat.zero_le _⟩ (fun H locs hP hD hS => ?_)
      refine lv_aload_n hx hb dX8_append_25 rfl (lv_at hl 0 rfl) ?_
      refine lv_iload_n hx hb dX8_append_26 rfl (lv_at hl 2 rfl) ?_
      obtain ⟨vM_5, hg6, hf⟩ := o1_at hf
      refine k_vvW ⟨hx, hb, hml, hown, htu⟩ hK hP hD hS hA hG (c_X8_four l g bM vM_3 x2 vM_5 hg6) (cwV 1 htu (gU_V mw_5_151 hcX8_four) rfl rfl rfl hdX8_four ⟨Nat.le_of_ble_eq_true rfl, Nat.le_of_ble_eq_true rfl⟩) (q0 := 0) (ci := 8) (fs := fcM bM vM_3) (q := (RX8, TX8, 23)) rfl rfl rfl (As := [.int x2]) (rest := []) rfl rfl hl.1 (Nat.le_of_ble_eq_true rfl) dX8_append_27 (k1 := 0) (n1 := 0) rfl rfl ⟨Nat.zero_le _, Nat.zero_le _⟩ (fun H locs hP hD hS => ?_)
      refine lv_aload_n hx hb dX8_append_30 rfl (lv_at hl 0 rfl) ?_
      refine lv_iload_n hx hb dX8_append_31 rfl (lv_at hl 3 rfl) ?_
      obtain ⟨vM_7, hg8, hf⟩ := o1_at hf
      refine k_vvW ⟨hx, hb, hml, hown, htu⟩ hK hP hD hS hA hG (c_X8_four l g bM vM_5 x3 vM_7 hg8) (cwV 1 htu (gU_V mw_5_151 hcX8_four) rfl rfl rfl hdX8_four ⟨Nat.le_of_ble_eq_true rfl, Nat.le_of_ble_eq_true rfl⟩) (q0 := 0) (ci := 8) (fs := fcM bM vM_5) (q := (RX8, TX8, 23)) rfl rfl rfl (As := [.int x3]) (rest := []) rfl rfl hl.1 (Nat.le_of_ble_eq_true rfl) dX8_append_32 (k1 := 0) (n1 := 0) rfl rfl ⟨Nat.zero_le _, Nat.zero_le _⟩ (fun H locs hP hD hS => ?_)
      refine lv_aload_n hx hb dX8_append_35 rfl (lv_at hl 0 rfl) ?_
      refine lv_iload hx hb dX8_append_36 (lv_at hl 4 rfl) ?_
      obtain ⟨vM_9, hg10, hf⟩ := o1_at hf
      refine k_vvW ⟨hx, hb, hml, hown, htu⟩ hK hP hD hS hA hG (c_X8_four l g bM vM_7 x4 vM_9 hg10) (cwV 1 htu (gU_V mw_5_151 hcX8_four) rfl rfl rfl hdX8_four ⟨Nat.le_of_ble_eq_true rfl, Nat.le_of_ble_eq_true rfl⟩) (q0 := 0) (ci := 8) (fs := fcM bM vM_7) (q := (RX8, TX8, 23)) rfl rfl rfl (As := [.int x4]) (rest := []) rfl rfl hl.1 (Nat.le_of_ble_eq_true rfl) dX8_append_38 (k1 := 0) (n1 := 0) rfl rfl ⟨Nat.zero_le _, Nat.zero_le _⟩ (fun H locs hP hD hS => ?_)
      refine lv_aload_n hx hb dX8_append_41 rfl (lv_at hl 0 rfl) ?_
      refine lv_iload hx hb dX8_append_42 (lv_at hl 5 rfl) ?_
      obtain ⟨vM_11, hg12, hf⟩ := o1_at hf
      refine k_vvW ⟨hx, hb, hml, hown, htu⟩ hK hP hD hS hA hG (c_X8_four l g bM vM_9 x5 vM_11 hg12) (cwV 1 htu (gU_V mw_5_151 hcX8_four) rfl rfl rfl hdX8_four ⟨Nat.le_of_ble_eq_true rfl, Nat.le_of_ble_eq_true rfl⟩) (q0 := 0) (ci := 8) (fs := fcM bM vM_9) (q := (RX8, TX8, 23)) rfl rfl rfl (As := [.int x5]) (rest := []) rfl rfl hl.1 (Nat.le_of_ble_eq_true rfl) dX8_append_44 (k1 := 0) (n1 := 0) rfl rfl ⟨Nat.zero_le _, Nat.zero_le _⟩ (fun H locs hP hD hS => ?_)
      refine lv_aload_n hx hb dX8_append_47 rfl (lv_at hl 0 rfl) ?_
      refine va_get (D := g.1) (ci := 8) (fs := fcM bM vM_11) (v := .int (vM_11.1 12)) (C := RX8) (T := TX8) (N := 23) hx hb htu hinX8 hown hK hP 0 rfl rfl 12 (by decide) k_5_84 (fun _ h9 => h9) rfl dX8_append_48 ?_
      obtain ⟨e13, e14⟩ := kp_2 hf
      rw [e14] at hP hD
      exact k_iret hx hb hr hlocks hK hP hD hS e13 dX8_append_51
    · have hf := it_f hf c2
      refine lv_iconst (v := (-1 : Int32)) hx hb dX8_append_18 (by decide) ?_
      obtain ⟨e15, e16⟩ := kp_2 hf
      rw [e16] at hP hD
      exact k_iret hx hb hr hlocks hK hP hD hS e15 dX8_append_19
  rw [hH, hlo] at hW
  exact hW
def f_X8_errorOffset (vM : Vs) : Option (Int32 × Vs) :=
  bn (sF vM 0 (0 : Int32)) (fun (vM_1 : Vs) => some ((vM_1.1 16), vM_1))
abbrev wsX8_errorOffset : List Cond := .code yX8_errorOffset cX8_errorOffset 1 (some .int) :: UW
abbrev rmX8_errorOffset : Room := { frames := 0, cells := 0, slots := 0, locals := 0 }
set_option maxHeartbeats 4000000 in
set_option maxRecDepth 100000 in
theorem c_X8_errorOffset (l : Launch) (g : Gx) (bM : Nat → Nat) (vM : Vs) (r : Int32) (vM1 : Vs) (hf : f_X8_errorOffset vM = some (r, vM1)) : CtI l yX8_errorOffset wsX8_errorOffset rmX8_errorOffset g [.ref (bM 0)] (cM g bM vM) (cM g bM vM1) r 0 0 := by
  unfold CtI
  intro sz
  refine Met.ofW (cc := cX8_errorOffset) (maxL := 1) (ret := (some .int)) (by decide) rfl ?_
  intro p e s m args below meth c s₁ B hml hv
  obtain ⟨rfl, hsz, hP, hK, hD0, hG⟩ := hv
  have hx := B.exec
  have hb := B.bytes
  have hr := B.returns
  have hts := atoms_spec (ws := wsX8_errorOffset) B.pre
  have hown : s.vm.findClass RX8 = some m.cls := findClass_of_methodNamed B.named
  have hlocks := B.notSynchronized
  subst hsz
  have hD := hD0.self (sz := s.heap.size)
  generalize hAe : va_A (cM g bM vM) s.heap.size = A at hD hG ⊢
  have hA : ∀ q : Nat, s.heap.size ≤ q → A q := fun q h => by rw [← hAe]; exact Or.inr h
  clear hAe hD0
  have hS : va_S A s.heap s.heap [] := va_S.rf
  have hl := lv_entry ([.ref (bM 0)]) (n := 1) (Nat.le_of_ble_eq_true rfl)
  rw [lg_entry_eq]
  generalize (lg_sl ([.ref (bM 0)]) ++ List.replicate (1 - (lg_sl ([.ref (bM 0)])).length) Slot.unset).toArray = ls at hl ⊢
  have hl : lv_has ls 1 [(0, .ref (bM 0))] := hl
  have htu : ∀ w ∈ UW, w.before _ s = true := fun w h => hts w (List.mem_cons_of_mem _ h)
  have k_5_72 := htu _ mw_5_72
  have k_5_88 := htu _ mw_5_88
  unfold f_X8_errorOffset at hf
  obtain ⟨H, hH⟩ : ∃ z, z = s.heap := ⟨_, rfl⟩
  obtain ⟨locs, hlo⟩ : ∃ z : List Loc, z = [] := ⟨_, rfl⟩
  have hS : va_S A s.heap H locs := by rw [hH, hlo]; exact hS
  rw [← hH] at hP
  have hW : W p l e (headSpec wsX8_errorOffset rmX8_errorOffset).room s m ([.ref (bM 0)] : List Value).toArray below meth c H locs 0 0 (MQ below (qI g A (cM g bM vM1) r) ([.ref (bM 0)] : List Value).toArray s 0 0 A) (F0 m 0 ls []) := by
    refine lv_aload_n hx hb dX8_errorOffset_0 rfl (lv_at hl 0 rfl) ?_
    refine lv_iconst (v := (0 : Int32)) hx hb dX8_errorOffset_1 (by decide) ?_
    refine va_put (D := g.1) (ci := 8) (fs := fcM bM vM) (v := .int (0 : Int32)) (ty := .int) (C := RX8) (T := TX8) (N := 23) hx hb htu hinX8 tyX8 tyX8_ok nmX8 hown hK hP hD hS 0 rfl rfl 0 (by decide) k_5_72 (fun _ h9 => h9) rfl (by decide +kernel) rfl rfl (Nat.le_of_ble_eq_true rfl) dX8_errorOffset_2 (fun H locs hP hD hS => ?_)
    obtain ⟨vM_1, evM_1⟩ : ∃ z, z = sF vM 0 (0 : Int32) := ⟨_, rfl⟩
    have hf := bn_at hf evM_1
    have hP : va_P g.1 vwCl (cM g bM vM_1) H := by rw [evM_1]; exact hP
    have hD : va_D A (cM g bM vM_1) := by rw [evM_1]; exact hD
    refine lv_aload_n hx hb dX8_errorOffset_5 rfl (lv_at hl 0 rfl) ?_
    refine va_get (D := g.1) (ci := 8) (fs := fcM bM vM_1) (v := .int (vM_1.1 16)) (C := RX8) (T := TX8) (N := 23) hx hb htu hinX8 hown hK hP 0 rfl rfl 16 (by decide) k_5_88 (fun _ h9 => h9) rfl dX8_errorOffset_6 ?_
    obtain ⟨e2, e3⟩ := kp_2 hf
    rw [e3] at hP hD
    exact k_iret hx hb hr hlocks hK hP hD hS e2 dX8_errorOffset_9
  rw [hH, hlo] at hW
  exact hW
def f_X8_fails (vM : Vs) (x1 : Int32) (x2 : Int32) : Option (Int32 × Vs) :=
  if (vM.1 15) = 0 then bn (sF vM 15 x1) (fun (vM_2 : Vs) => bn (sF vM_2 16 x2) (fun (vM_3 : Vs) => gd (isB (0 : Int32)) (some ((0 : Int32), vM_3)))) else gd (isB (0 : Int32)) (some ((0 : Int32), vM))
abbrev wsX8_fails : List Cond := .code yX8_fails cX8_fails 3 (some .boolean) :: UW
abbrev rmX8_fails : Room := { frames := 0, cells := 0, slots := 0, locals := 0 }
set_option maxHeartbeats 4000000 in
set_option maxRecDepth 100000 in
theorem c_X8_fails (l : Launch) (g : Gx) (bM : Nat → Nat) (vM : Vs) (x1 : Int32) (x2 : Int32) (r : Int32) (vM1 : Vs) (hf : f_X8_fails vM x1 x2 = some (r, vM1)) : CtI l yX8_fails wsX8_fails rmX8_fails g [.ref (bM 0), .int x1, .int x2] (cM g bM vM) (cM g bM vM1) r 0 0 := by
  unfold CtI
  intro sz
  refine Met.ofW (cc := cX8_fails) (maxL := 3) (ret := (some .boolean)) (by decide) rfl ?_
  intro p e s m args below meth c s₁ B hml hv
  obtain ⟨rfl, hsz, hP, hK, hD0, hG⟩ := hv
  have hx := B.exec
  have hb := B.bytes
  have hr := B.returns
  have hts := atoms_spec (ws := wsX8_fails) B.pre
  have hown : s.vm.findClass RX8 = some m.cls := findClass_of_methodNamed B.named
  have hlocks := B.notSynchronized
  subst hsz
  have hD := hD0.self (sz := s.heap.size)
  generalize hAe : va_A (cM g bM vM) s.heap.size = A at hD hG ⊢
  have hA : ∀ q : Nat, s.heap.size ≤ q → A q := fun q h => by rw [← hAe]; exact Or.inr h
  clear hAe hD0
  have hS : va_S A s.heap s.heap [] := va_S.rf
  have hl := lv_entry ([.ref (bM 0), .int x1, .int x2]) (n := 3) (Nat.le_of_ble_eq_true rfl)
  rw [lg_entry_eq]
  generalize (lg_sl ([.ref (bM 0), .int x1, .int x2]) ++ List.replicate (3 - (lg_sl ([.ref (bM 0), .int x1, .int x2])).length) Slot.unset).toArray = ls at hl ⊢
  have hl : lv_has ls 3 [(0, .ref (bM 0)), (1, .int x1), (2, .int x2)] := hl
  have htu : ∀ w ∈ UW, w.before _ s = true := fun w h => hts w (List.mem_cons_of_mem _ h)
  have k_5_87 := htu _ mw_5_87
  have k_5_88 := htu _ mw_5_88
  unfold f_X8_fails at hf
  obtain ⟨H, hH⟩ : ∃ z, z = s.heap := ⟨_, rfl⟩
  obtain ⟨locs, hlo⟩ : ∃ z : List Loc, z = [] := ⟨_, rfl⟩
  have hS : va_S A s.heap H locs := by rw [hH, hlo]; exact hS
  rw [← hH] at hP
  have hW : W p l e (headSpec wsX8_fails rmX8_fails).room s m ([.ref (bM 0), .int x1, .int x2] : List Value).toArray below meth c H locs 0 0 (MQ below (qI g A (cM g bM vM1) r) ([.ref (bM 0), .int x1, .int x2] : List Value).toArray s 0 0 A) (F0 m 0 ls []) := by
    refine lv_aload_n hx hb dX8_fails_0 rfl (lv_at hl 0 rfl) ?_
    refine va_get (D := g.1) (ci := 8) (fs := fcM bM vM) (v := .int (vM.1 15)) (C := RX8) (T := TX8) (N := 23) hx hb htu hinX8 hown hK hP 0 rfl rfl 15 (by decide) k_5_87 (fun _ h9 => h9) rfl dX8_fails_1 ?_
    refine lv_if_eq (tgt := 9) hx hb dX8_fails_4 (by decide) (fun c1 => ?_) (fun c1 => ?_)
    · have hf := it_t hf c1
      refine lv_aload_n hx hb dX8_fails_9 rfl (lv_at hl 0 rfl) ?_
      refine lv_iload_n hx hb dX8_fails_10 rfl (lv_at hl 1 rfl) ?_
      refine va_put (D := g.1) (ci := 8) (fs := fcM bM vM) (v := .int x1) (ty := .int) (C := RX8) (T := TX8) (N := 23) hx hb htu hinX8 tyX8 tyX8_ok nmX8 hown hK hP hD hS 0 rfl rfl 15 (by decide) k_5_87 (fun _ h9 => h9) rfl (by decide +kernel) rfl rfl (Nat.le_of_ble_eq_true rfl) dX8_fails_11 (fun H locs hP hD hS => ?_)
      obtain ⟨vM_2, evM_2⟩ : ∃ z, z = sF vM 15 x1 := ⟨_, rfl⟩
      have hf := bn_at hf evM_2
      have hP : va_P g.1 vwCl (cM g bM vM_2) H := by rw [evM_2]; exact hP
      have hD : va_D A (cM g bM vM_2) := by rw [evM_2]; exact hD
      refine lv_aload_n hx hb dX8_fails_14 rfl (lv_at hl 0 rfl) ?_
      refine lv_iload_n hx hb dX8_fails_15 rfl (lv_at hl 2 rfl) ?_
      refine va_put (D := g.1) (ci := 8) (fs := fcM bM vM_2) (v := .int x2) (ty := .int) (C := RX8) (T := TX8) (N := 23) hx hb htu hinX8 tyX8 tyX8_ok nmX8 hown hK hP hD hS 0 rfl rfl 16 (by decide) k_5_88 (fun _ h9 => h9) rfl (by decide +kernel) rfl rfl (Nat.le_of_ble_eq_true rfl) dX8_fails_16 (fun H locs hP hD hS => ?_)
      obtain ⟨vM_3, evM_3⟩ : ∃ z, z = sF vM_2 16 x2 := ⟨_, rfl⟩
      have hf := bn_at hf evM_3
      have hP : va_P g.1 vwCl (cM g bM vM_3) H := by rw [evM_3]; exact hP
      have hD : va_D A (cM g bM vM_3) := by rw [evM_3]; exact hD
      refine lv_iconst (v := (0 : Int32)) hx hb dX8_fails_19 (by decide) ?_
      obtain ⟨h4, hf⟩ := gd_isB hf
      obtain ⟨e5, e6⟩ := kp_2 hf
      rw [e6] at hP hD
      exact k_zret hx hb hr hlocks hK hP hD hS e5 h4 dX8_fails_20
    · have hf := it_f hf c1
      refine lv_iconst (v := (0 : Int32)) hx hb dX8_fails_7 (by decide) ?_
      obtain ⟨h7, hf⟩ := gd_isB hf
      obtain ⟨e8, e9⟩ := kp_2 hf
      rw [e9] at hP hD
      exact k_zret hx hb hr hlocks hK hP hD hS e8 h7 dX8_fails_8
  rw [hH, hlo] at hW
  exact hW
def f_X8_here_L0 (self2 : Vs → Option (Int32 × Vs)) (vM_1 : Vs) : Option (Int32 × Vs) :=
  jn (jn (fun (t7 : Int32) => some (t7, vM_1)) (fun k8 => if (vM_1.1 13) ≤ (vM_1.1 14) then k8 (-1 : Int32) else gd (inb (vM_1.1 14) 800) (k8 (vM_1.2.1 11 ((vM_1.1 14)).toNatClampNeg)))) (fun k5 => if (vM_1.1 13) ≤ (vM_1.1 14) then k5 else gd (inb (vM_1.1 14) 800) (if (vM_1.2.1 11 ((vM_1.1 14)).toNatClampNeg) = (32 : Int32) then bn (sF vM_1 14 ((vM_1.1 14) + (1 : Int32))) (fun (vM_19 : Vs) => self2 vM_19) else k5))
def f_X8_here (vM : Vs) : Option (Int32 × Vs) :=
  lp f_X8_here_L0 (fun _ => none) FU vM
abbrev wsX8_here : List Cond := .code yX8_here cX8_here 1 (some .int) :: UW
abbrev rmX8_here : Room := { frames := 0, cells := 0, slots := 0, locals := 0 }
set_option maxHeartbeats 4000000 in
set_option maxRecDepth 100000 in
theorem c_X8_here (l : Launch) (g : Gx) (bM : Nat → Nat) (vM : Vs) (r : Int32) (vM1 : Vs) (hf : f_X8_here vM = some (r, vM1)) : CtI l yX8_here wsX8_here rmX8_here g [.ref (bM 0)] (cM g bM vM) (cM g bM vM1) r 0 0 := by
  unfold CtI
  intro sz
  refine Met.ofW (cc := cX8_here) (maxL := 1) (ret := (some .int)) (by decide) rfl ?_
  intro p e s m args below meth c s₁ B hml hv
  obtain ⟨rfl, hsz, hP, hK, hD0, hG⟩ := hv
  have hx := B.exec
  have hb := B.bytes
  have hr := B.returns
  have hts := atoms_spec (ws := wsX8_here) B.pre
  have hown : s.vm.findClass RX8 = some m.cls := findClass_of_methodNamed B.named
  have hlocks := B.notSynchronized
  subst hsz
  have hD := hD0.self (sz := s.heap.size)
  generalize hAe : va_A (cM g bM vM) s.heap.size = A at hD hG ⊢
  have hA : ∀ q : Nat, s.heap.size ≤ q → A q := fun q h => by rw [← hAe]; exact Or.inr h
  clear hAe hD0
  have hS : va_S A s.heap s.heap [] := va_S.rf
  have hl := lv_entry ([.ref (bM 0)]) (n := 1) (Nat.le_of_ble_eq_true rfl)
  rw [lg_entry_eq]
  generalize (lg_sl ([.ref (bM 0)]) ++ List.replicate (1 - (lg_sl ([.ref (bM 0)])).length) Slot.unset).toArray = ls at hl ⊢
  have hl : lv_has ls 1 [(0, .ref (bM 0))] := hl
  have htu : ∀ w ∈ UW, w.before _ s = true := fun w h => hts w (List.mem_cons_of_mem _ h)
  have k_5_86 := htu _ mw_5_86
  have k_5_85 := htu _ mw_5_85
  have k_5_83 := htu _ mw_5_83
  unfold f_X8_here at hf
  obtain ⟨H, hH⟩ : ∃ z, z = s.heap := ⟨_, rfl⟩
  obtain ⟨locs, hlo⟩ : ∃ z : List Loc, z = [] := ⟨_, rfl⟩
  have hS : va_S A s.heap H locs := by rw [hH, hlo]; exact hS
  rw [← hH] at hP
  have hW : W p l e (headSpec wsX8_here rmX8_here).room s m ([.ref (bM 0)] : List Value).toArray below meth c H locs 0 0 (MQ below (qI g A (cM g bM vM1) r) ([.ref (bM 0)] : List Value).toArray s 0 0 A) (F0 m 0 ls []) := by
    have hL3 : ∀ (vM_1 : Vs), lp f_X8_here_L0 (fun _ => none) FU vM_1 = some (r, vM1) → ∀ (H : Heap) (locs : List Loc), va_P g.1 vwCl (cM g bM vM_1) H → va_D A (cM g bM vM_1) → va_S A s.heap H locs → ∀ ls : Array Slot, lv_has ls 1 [(0, .ref (bM 0))] → W p l e (headSpec wsX8_here rmX8_here).room s m ([.ref (bM 0)] : List Value).toArray below meth c H locs 0 0 (MQ below (qI g A (cM g bM vM1) r) ([.ref (bM 0)] : List Value).toArray s 0 0 A) (F0 m 0 ls []) := by
      refine lp_ind (T := Vs → Option (Int32 × Vs)) (fun self2 => ∀ (vM_1 : Vs), self2 vM_1 = some (r, vM1) → ∀ (H : Heap) (locs : List Loc), va_P g.1 vwCl (cM g bM vM_1) H → va_D A (cM g bM vM_1) → va_S A s.heap H locs → ∀ ls : Array Slot, lv_has ls 1 [(0, .ref (bM 0))] → W p l e (headSpec wsX8_here rmX8_here).room s m ([.ref (bM 0)] : List Value).toArray below meth c H locs 0 0 (MQ below (qI g A (cM g bM vM1) r) ([.ref (bM 0)] : List Value).toArray s 0 0 A) (F0 m 0 ls [])) ?_ ?_ FU
      · intro vM_1 hf; cases hf
      · intro self2 ih4 vM_1 hf H locs hP hD hS ls hl
        unfold f_X8_here_L0 at hf
        refine lv_aload_n hx hb dX8_here_0 rfl (lv_at hl 0 rfl) ?_
        refine va_get (D := g.1) (ci := 8) (fs := fcM bM vM_1) (v := .int (vM_1.1 14)) (C := RX8) (T := TX8) (N := 23) hx hb htu hinX8 hown hK hP 0 rfl rfl 14 (by decide) k_5_86 (fun _ h9 => h9) rfl dX8_here_1 ?_
        refine lv_aload_n hx hb dX8_here_4 rfl (lv_at hl 0 rfl) ?_
        refine va_get (D := g.1) (ci := 8) (fs := fcM bM vM_1) (v := .int (vM_1.1 13)) (C := RX8) (T := TX8) (N := 23) hx hb htu hinX8 hown hK hP 0 rfl rfl 13 (by decide) k_5_85 (fun _ h9 => h9) rfl dX8_here_5 ?_
        obtain ⟨k5, hk15, hf⟩ := jn_at hf
        have hJ6 : k5 = some (r, vM1) → ∀ (H : Heap) (locs : List Loc), va_P g.1 vwCl (cM g bM vM_1) H → va_D A (cM g bM vM_1) → va_S A s.heap H locs → ∀ ls : Array Slot, lv_has ls 1 [(0, .ref (bM 0))] → W p l e (headSpec wsX8_here rmX8_here).room s m ([.ref (bM 0)] : List Value).toArray below meth c H locs 0 0 (MQ below (qI g A (cM g bM vM1) r) ([.ref (bM 0)] : List Value).toArray s 0 0 A) (F0 m 38 ls []) := by
          intro hf H locs hP hD hS ls hl
          rw [hk15] at hf
          clear hk15
          refine lv_aload_n hx hb dX8_here_38 rfl (lv_at hl 0 rfl) ?_
          refine va_get (D := g.1) (ci := 8) (fs := fcM bM vM_1) (v := .int (vM_1.1 14)) (C := RX8) (T := TX8) (N := 23) hx hb htu hinX8 hown hK hP 0 rfl rfl 14 (by decide) k_5_86 (fun _ h9 => h9) rfl dX8_here_39 ?_
          refine lv_aload_n hx hb dX8_here_42 rfl (lv_at hl 0 rfl) ?_
          refine va_get (D := g.1) (ci := 8) (fs := fcM bM vM_1) (v := .int (vM_1.1 13)) (C := RX8) (T := TX8) (N := 23) hx hb htu hinX8 hown hK hP 0 rfl rfl 13 (by decide) k_5_85 (fun _ h9 => h9) rfl dX8_here_43 ?_
          obtain ⟨k8, hk12, hf⟩ := jn_at hf
          have hJ9 : ∀ (t7 : Int32), k8 t7 = some (r, vM1) → ∀ (H : Heap) (locs : List Loc), va_P g.1 vwCl (cM g bM vM_1) H → va_D A (cM g bM vM_1) → va_S A s.heap H locs → ∀ ls : Array Slot, lv_has ls 1 [] → W p l e (headSpec wsX8_here rmX8_here).room s m ([.ref (bM 0)] : List Value).toArray below meth c H locs 0 0 (MQ below (qI g A (cM g bM vM1) r) ([.ref (bM 0)] : List Value).toArray s 0 0 A) (F0 m 62 ls [.int t7]) := by
            intro t7 hf H locs hP hD hS ls hl
            rw [hk12] at hf
            dsimp only at hf
            clear hk12
            obtain ⟨e10, e11⟩ := kp_2 hf
            rw [e11] at hP hD
            exact k_iret hx hb hr hlocks hK hP hD hS e10 dX8_here_62
          refine lv_icmp_ge (tgt := 61) hx hb dX8_here_46 (by decide) (fun c13 => ?_) (fun c13 => ?_)
          · have hf := it_t hf c13
            refine lv_iconst (v := (-1 : Int32)) hx hb dX8_here_61 (by decide) ?_
            exact hJ9 (-1 : Int32) hf H locs hP hD hS _ (lv_sub hl [] rfl)
          · have hf := it_f hf c13
            refine lv_aload_n hx hb dX8_here_49 rfl (lv_at hl 0 rfl) ?_
            refine va_get (D := g.1) (ci := 8) (fs := fcM bM vM_1) (v := .ref (bM 12)) (C := RX8) (T := TX8) (N := 23) hx hb htu hinX8 hown hK hP 0 rfl rfl 11 (by decide) k_5_83 (fun _ h9 => h9) rfl dX8_here_50 ?_
            refine lv_aload_n hx hb dX8_here_53 rfl (lv_at hl 0 rfl) ?_
            refine va_get (D := g.1) (ci := 8) (fs := fcM bM vM_1) (v := .int (vM_1.1 14)) (C := RX8) (T := TX8) (N := 23) hx hb htu hinX8 hown hK hP 0 rfl rfl 14 (by decide) k_5_86 (fun _ h9 => h9) rfl dX8_here_54 ?_
            obtain ⟨h14, hf⟩ := gd_in hf
            refine va_iald (D := g.1) (f := (vM_1.2.1 11)) hx hb hK hP 9 0 rfl rfl h14 dX8_here_57 ?_
            refine lv_goto (tgt := 62) hx hb dX8_here_58 (by decide) ?_
            exact hJ9 (vM_1.2.1 11 ((vM_1.1 14)).toNatClampNeg) hf H locs hP hD hS _ (lv_sub hl [] rfl)
        refine lv_icmp_ge (tgt := 38) hx hb dX8_here_8 (by decide) (fun c16 => ?_) (fun c16 => ?_)
        · have hf := it_t hf c16
          exact hJ6 hf H locs hP hD hS _ (lv_sub hl [0] rfl)
        · have hf := it_f hf c16
          refine lv_aload_n hx hb dX8_here_11 rfl (lv_at hl 0 rfl) ?_
          refine va_get (D := g.1) (ci := 8) (fs := fcM bM vM_1) (v := .ref (bM 12)) (C := RX8) (T := TX8) (N := 23) hx hb htu hinX8 hown hK hP 0 rfl rfl 11 (by decide) k_5_83 (fun _ h9 => h9) rfl dX8_here_12 ?_
          refine lv_aload_n hx hb dX8_here_15 rfl (lv_at hl 0 rfl) ?_
          refine va_get (D := g.1) (ci := 8) (fs := fcM bM vM_1) (v := .int (vM_1.1 14)) (C := RX8) (T := TX8) (N := 23) hx hb htu hinX8 hown hK hP 0 rfl rfl 14 (by decide) k_5_86 (fun _ h9 => h9) rfl dX8_here_16 ?_
          obtain ⟨h17, hf⟩ := gd_in hf
          refine va_iald (D := g.1) (f := (vM_1.2.1 11)) hx hb hK hP 9 0 rfl rfl h17 dX8_here_19 ?_
          refine lv_bipush (v := (32 : Int32)) hx hb dX8_here_20 (by decide) ?_
          refine lv_icmp_ne (tgt := 38) hx hb dX8_here_22 (by decide) (fun c18 => ?_) (fun c18 => ?_)
          · have hf := it_f hf c18
            exact hJ6 hf H locs hP hD hS _ (lv_sub hl [0] rfl)
          · have hf := it_t hf c18
            refine lv_aload_n hx hb dX8_here_25 rfl (lv_at hl 0 rfl) ?_
            refine lv_dup hx hb dX8_here_26 rfl ?_
            refine va_get (D := g.1) (ci := 8) (fs := fcM bM vM_1) (v := .int (vM_1.1 14)) (C := RX8) (T := TX8) (N := 23) hx hb htu hinX8 hown hK hP 0 rfl rfl 14 (by decide) k_5_86 (fun _ h9 => h9) rfl dX8_here_27 ?_
            refine lv_iconst (v := (1 : Int32)) hx hb dX8_here_30 (by decide) ?_
            refine lv_iadd hx hb dX8_here_31 ?_
            refine va_put (D := g.1) (ci := 8) (fs := fcM bM vM_1) (v := .int ((vM_1.1 14) + (1 : Int32))) (ty := .int) (C := RX8) (T := TX8) (N := 23) hx hb htu hinX8 tyX8 tyX8_ok nmX8 hown hK hP hD hS 0 rfl rfl 14 (by decide) k_5_86 (fun _ h9 => h9) rfl (by decide +kernel) rfl rfl (Nat.le_of_ble_eq_true rfl) dX8_here_32 (fun H locs hP hD hS => ?_)
            obtain ⟨vM_19, evM_19⟩ : ∃ z, z = sF vM_1 14 ((vM_1.1 14) + (1 : Int32)) := ⟨_, rfl⟩
            have hf := bn_at hf evM_19
            have hP : va_P g.1 vwCl (cM g bM vM_19) H := by rw [evM_19]; exact hP
            have hD : va_D A (cM g bM vM_19) := by rw [evM_19]; exact hD
            refine lv_goto (tgt := 0) hx hb dX8_here_35 (by decide) ?_
            exact ih4 vM_19 hf H locs hP hD hS _ (lv_sub hl [0] rfl)
    exact hL3 vM hf H locs hP hD hS _ (lv_sub hl [0] rfl)
  rw [hH, hlo] at hW
  exact hW
def f_X8_isLetter (x0 : Int32) : Option (Int32) :=
  jn (fun (t1 : Int32) => gd (isB t1) (some (t1))) (fun k2 => jn (k2 (0 : Int32)) (fun k7 => if x0 < (97 : Int32) then k7 else if (122 : Int32) < x0 then k7 else k2 (1 : Int32)))
abbrev wsX8_isLetter : List Cond := .code yX8_isLetter cX8_isLetter 1 (some .boolean) :: UW
abbrev rmX8_isLetter : Room := { frames := 0, cells := 0, slots := 0, locals := 0 }
set_option maxHeartbeats 4000000 in
set_option maxRecDepth 100000 in
theorem c_X8_isLetter (l : Launch) (g : Gx) (x0 : Int32) (r : Int32) (hf : f_X8_isLetter x0 = some r) : CtI l yX8_isLetter wsX8_isLetter rmX8_isLetter g [.int x0] ([]) ([]) r 0 0 := by
  unfold CtI
  intro sz
  refine Met.ofW (cc := cX8_isLetter) (maxL := 1) (ret := (some .boolean)) (by decide) rfl ?_
  intro p e s m args below meth c s₁ B hml hv
  obtain ⟨rfl, hsz, hP, hK, hD0, hG⟩ := hv
  have hx := B.exec
  have hb := B.bytes
  have hr := B.returns
  have hts := atoms_spec (ws := wsX8_isLetter) B.pre
  have hown : s.vm.findClass RX8 = some m.cls := findClass_of_methodNamed B.named
  have hlocks := B.notSynchronized
  subst hsz
  have hD := hD0.self (sz := s.heap.size)
  generalize hAe : va_A ([]) s.heap.size = A at hD hG ⊢
  have hA : ∀ q : Nat, s.heap.size ≤ q → A q := fun q h => by rw [← hAe]; exact Or.inr h
  clear hAe hD0
  have hS : va_S A s.heap s.heap [] := va_S.rf
  have hl := lv_entry ([.int x0]) (n := 1) (Nat.le_of_ble_eq_true rfl)
  rw [lg_entry_eq]
  generalize (lg_sl ([.int x0]) ++ List.replicate (1 - (lg_sl ([.int x0])).length) Slot.unset).toArray = ls at hl ⊢
  have hl : lv_has ls 1 [(0, .int x0)] := hl
  have htu : ∀ w ∈ UW, w.before _ s = true := fun w h => hts w (List.mem_cons_of_mem _ h)
  unfold f_X8_isLetter at hf
  obtain ⟨H, hH⟩ : ∃ z, z = s.heap := ⟨_, rfl⟩
  obtain ⟨locs, hlo⟩ : ∃ z : List Loc, z = [] := ⟨_, rfl⟩
  have hS : va_S A s.heap H locs := by rw [hH, hlo]; exact hS
  rw [← hH] at hP
  have hW : W p l e (headSpec wsX8_isLetter rmX8_isLetter).room s m ([.int x0] : List Value).toArray below meth c H locs 0 0 (MQ below (qI g A ([]) r) ([.int x0] : List Value).toArray s 0 0 A) (F0 m 0 ls []) := by
    refine lv_iload_n hx hb dX8_isLetter_0 rfl (lv_at hl 0 rfl) ?_
    refine lv_bipush (v := (97 : Int32)) hx hb dX8_isLetter_1 (by decide) ?_
    obtain ⟨k2, hk6, hf⟩ := jn_at hf
    have hJ3 : ∀ (t1 : Int32), k2 t1 = some r → ∀ (H : Heap) (locs : List Loc), va_P g.1 vwCl ([]) H → va_D A ([]) → va_S A s.heap H locs → ∀ ls : Array Slot, lv_has ls 1 [] → W p l e (headSpec wsX8_isLetter rmX8_isLetter).room s m ([.int x0] : List Value).toArray below meth c H locs 0 0 (MQ below (qI g A ([]) r) ([.int x0] : List Value).toArray s 0 0 A) (F0 m 17 ls [.int t1]) := by
      intro t1 hf H locs hP hD hS ls hl
      rw [hk6] at hf
      dsimp only at hf
      clear hk6
      obtain ⟨h4, hf⟩ := gd_isB hf
      have e5 := Option.some.inj hf
      exact k_zret hx hb hr hlocks hK hP hD hS e5 h4 dX8_isLetter_17
    obtain ⟨k7, hk9, hf⟩ := jn_at hf
    have hJ8 : k7 = some r → ∀ (H : Heap) (locs : List Loc), va_P g.1 vwCl ([]) H → va_D A ([]) → va_S A s.heap H locs → ∀ ls : Array Slot, lv_has ls 1 [] → W p l e (headSpec wsX8_isLetter rmX8_isLetter).room s m ([.int x0] : List Value).toArray below meth c H locs 0 0 (MQ below (qI g A ([]) r) ([.int x0] : List Value).toArray s 0 0 A) (F0 m 16 ls []) := by
      intro hf H locs hP hD hS ls hl
      rw [hk9] at hf
      clear hk9
      refine lv_iconst (v := (0 : Int32)) hx hb dX8_isLetter_16 (by decide) ?_
      exact hJ3 (0 : Int32) hf H locs hP hD hS _ (lv_sub hl [] rfl)
    refine lv_icmp_lt (tgt := 16) hx hb dX8_isLetter_3 (by decide) (fun c10 => ?_) (fun c10 => ?_)
    · have hf := it_t hf c10
      exact hJ8 hf H locs hP hD hS _ (lv_sub hl [] rfl)
    · have hf := it_f hf c10
      refine lv_iload_n hx hb dX8_isLetter_6 rfl (lv_at hl 0 rfl) ?_
      refine lv_bipush (v := (122 : Int32)) hx hb dX8_isLetter_7 (by decide) ?_
      refine lv_icmp_gt (tgt := 16) hx hb dX8_isLetter_9 (by decide) (fun c11 => ?_) (fun c11 => ?_)
      · have hf := it_t hf c11
        exact hJ8 hf H locs hP hD hS _ (lv_sub hl [] rfl)
      · have hf := it_f hf c11
        refine lv_iconst (v := (1 : Int32)) hx hb dX8_isLetter_12 (by decide) ?_
        refine lv_goto (tgt := 17) hx hb dX8_isLetter_13 (by decide) ?_
        exact hJ3 (1 : Int32) hf H locs hP hD hS _ (lv_sub hl [] rfl)
  rw [hH, hlo] at hW
  exact hW
def f_X8_isDigit (x0 : Int32) : Option (Int32) :=
  jn (fun (t1 : Int32) => gd (isB t1) (some (t1))) (fun k2 => jn (k2 (0 : Int32)) (fun k7 => if x0 < (48 : Int32) then k7 else if (57 : Int32) < x0 then k7 else k2 (1 : Int32)))
abbrev wsX8_isDigit : List Cond := .code yX8_isDigit cX8_isDigit 1 (some .boolean) :: UW
abbrev rmX8_isDigit : Room := { frames := 0, cells := 0, slots := 0, locals := 0 }
set_option maxHeartbeats 4000000 in
set_option maxRecDepth 100000 in
theorem c_X8_isDigit (l : Launch) (g : Gx) (x0 : Int32) (r : Int32) (hf : f_X8_isDigit x0 = some r) : CtI l yX8_isDigit wsX8_isDigit rmX8_isDigit g [.int x0] ([]) ([]) r 0 0 := by
  unfold CtI
  intro sz
  refine Met.ofW (cc := cX8_isDigit) (maxL := 1) (ret := (some .boolean)) (by decide) rfl ?_
  intro p e s m args below meth c s₁ B hml hv
  obtain ⟨rfl, hsz, hP, hK, hD0, hG⟩ := hv
  have hx := B.exec
  have hb := B.bytes
  have hr := B.returns
  have hts := atoms_spec (ws := wsX8_isDigit) B.pre
  have hown : s.vm.findClass RX8 = some m.cls := findClass_of_methodNamed B.named
  have hlocks := B.notSynchronized
  subst hsz
  have hD := hD0.self (sz := s.heap.size)
  generalize hAe : va_A ([]) s.heap.size = A at hD hG ⊢
  have hA : ∀ q : Nat, s.heap.size ≤ q → A q := fun q h => by rw [← hAe]; exact Or.inr h
  clear hAe hD0
  have hS : va_S A s.heap s.heap [] := va_S.rf
  have hl := lv_entry ([.int x0]) (n := 1) (Nat.le_of_ble_eq_true rfl)
  rw [lg_entry_eq]
  generalize (lg_sl ([.int x0]) ++ List.replicate (1 - (lg_sl ([.int x0])).length) Slot.unset).toArray = ls at hl ⊢
  have hl : lv_has ls 1 [(0, .int x0)] := hl
  have htu : ∀ w ∈ UW, w.before _ s = true := fun w h => hts w (List.mem_cons_of_mem _ h)
  unfold f_X8_isDigit at hf
  obtain ⟨H, hH⟩ : ∃ z, z = s.heap := ⟨_, rfl⟩
  obtain ⟨locs, hlo⟩ : ∃ z : List Loc, z = [] := ⟨_, rfl⟩
  have hS : va_S A s.heap H locs := by rw [hH, hlo]; exact hS
  rw [← hH] at hP
  have hW : W p l e (headSpec wsX8_isDigit rmX8_isDigit).room s m ([.int x0] : List Value).toArray below meth c H locs 0 0 (MQ below (qI g A ([]) r) ([.int x0] : List Value).toArray s 0 0 A) (F0 m 0 ls []) := by
    refine lv_iload_n hx hb dX8_isDigit_0 rfl (lv_at hl 0 rfl) ?_
    refine lv_bipush (v := (48 : Int32)) hx hb dX8_isDigit_1 (by decide) ?_
    obtain ⟨k2, hk6, hf⟩ := jn_at hf
    have hJ3 : ∀ (t1 : Int32), k2 t1 = some r → ∀ (H : Heap) (locs : List Loc), va_P g.1 vwCl ([]) H → va_D A ([]) → va_S A s.heap H locs → ∀ ls : Array Slot, lv_has ls 1 [] → W p l e (headSpec wsX8_isDigit rmX8_isDigit).room s m ([.int x0] : List Value).toArray below meth c H locs 0 0 (MQ below (qI g A ([]) r) ([.int x0] : List Value).toArray s 0 0 A) (F0 m 17 ls [.int t1]) := by
      intro t1 hf H locs hP hD hS ls hl
      rw [hk6] at hf
      dsimp only at hf
      clear hk6
      obtain ⟨h4, hf⟩ := gd_isB hf
      have e5 := Option.some.inj hf
      exact k_zret hx hb hr hlocks hK hP hD hS e5 h4 dX8_isDigit_17
    obtain ⟨k7, hk9, hf⟩ := jn_at hf
    have hJ8 : k7 = some r → ∀ (H : Heap) (locs : List Loc), va_P g.1 vwCl ([]) H → va_D A ([]) → va_S A s.heap H locs → ∀ ls : Array Slot, lv_has ls 1 [] → W p l e (headSpec wsX8_isDigit rmX8_isDigit).room s m ([.int x0] : List Value).toArray below meth c H locs 0 0 (MQ below (qI g A ([]) r) ([.int x0] : List Value).toArray s 0 0 A) (F0 m 16 ls []) := by
      intro hf H locs hP hD hS ls hl
      rw [hk9] at hf
      clear hk9
      refine lv_iconst (v := (0 : Int32)) hx hb dX8_isDigit_16 (by decide) ?_
      exact hJ3 (0 : Int32) hf H locs hP hD hS _ (lv_sub hl [] rfl)
    refine lv_icmp_lt (tgt := 16) hx hb dX8_isDigit_3 (by decide) (fun c10 => ?_) (fun c10 => ?_)
    · have hf := it_t hf c10
      exact hJ8 hf H locs hP hD hS _ (lv_sub hl [] rfl)
    · have hf := it_f hf c10
      refine lv_iload_n hx hb dX8_isDigit_6 rfl (lv_at hl 0 rfl) ?_
      refine lv_bipush (v := (57 : Int32)) hx hb dX8_isDigit_7 (by decide) ?_
      refine lv_icmp_gt (tgt := 16) hx hb dX8_isDigit_9 (by decide) (fun c11 => ?_) (fun c11 => ?_)
      · have hf := it_t hf c11
        exact hJ8 hf H locs hP hD hS _ (lv_sub hl [] rfl)
      · have hf := it_f hf c11
        refine lv_iconst (v := (1 : Int32)) hx hb dX8_isDigit_12 (by decide) ?_
        refine lv_goto (tgt := 17) hx hb dX8_isDigit_13 (by decide) ?_
        exact hJ3 (1 : Int32) hf H locs hP hD hS _ (lv_sub hl [] rfl)
  rw [hH, hlo] at hW
  exact hW
def f_X8_sign (vM : Vs) (x1 : Int32) : Option (Int32 × Vs) :=
  o2 (f_X8_here vM) (fun (r1 : Int32) (vM_2 : Vs) => if r1 = x1 then bn (sF vM_2 14 ((vM_2.1 14) + (1 : Int32))) (fun (vM_5 : Vs) => gd (isB (1 : Int32)) (some ((1 : Int32), vM_5))) else o2 (f_X8_fails vM_2 (-2 : Int32) (vM_2.1 14)) (fun (r9 : Int32) (vM_10 : Vs) => gd (isB r9) (some (r9, vM_10))))
abbrev wsX8_sign : List Cond := .code yX8_sign cX8_sign 2 (some .boolean) :: UW
abbrev rmX8_sign : Room := { frames := 1, cells := 0, slots := 0, locals := 22 }
set_option maxHeartbeats 4000000 in
set_option maxRecDepth 100000 in
theorem c_X8_sign (l : Launch) (g : Gx) (bM : Nat → Nat) (vM : Vs) (x1 : Int32) (r : Int32) (vM1 : Vs) (hf : f_X8_sign vM x1 = some (r, vM1)) : CtI l yX8_sign wsX8_sign rmX8_sign g [.ref (bM 0), .int x1] (cM g bM vM) (cM g bM vM1) r 0 0 := by
  unfold CtI
  intro sz
  refine Met.ofW (cc := cX8_sign) (maxL := 2) (ret := (some .boolean)) (by decide) rfl ?_
  intro p e s m args below meth c s₁ B hml hv
  obtain ⟨rfl, hsz, hP, hK, hD0, hG⟩ := hv
  have hx := B.exec
  have hb := B.bytes
  have hr := B.returns
  have hts := atoms_spec (ws := wsX8_sign) B.pre
  have hown : s.vm.findClass RX8 = some m.cls := findClass_of_methodNamed B.named
  have hlocks := B.notSynchronized
  subst hsz
  have hD := hD0.self (sz := s.heap.size)
  generalize hAe : va_A (cM g bM vM) s.heap.size = A at hD hG ⊢
  have hA : ∀ q : Nat, s.heap.size ≤ q → A q := fun q h => by rw [← hAe]; exact Or.inr h
  clear hAe hD0
  have hS : va_S A s.heap s.heap [] := va_S.rf
  have hl := lv_entry ([.ref (bM 0), .int x1]) (n := 2) (Nat.le_of_ble_eq_true rfl)
  rw [lg_entry_eq]
  generalize (lg_sl ([.ref (bM 0), .int x1]) ++ List.replicate (2 - (lg_sl ([.ref (bM 0), .int x1])).length) Slot.unset).toArray = ls at hl ⊢
  have hl : lv_has ls 2 [(0, .ref (bM 0)), (1, .int x1)] := hl
  have htu : ∀ w ∈ UW, w.before _ s = true := fun w h => hts w (List.mem_cons_of_mem _ h)
  have k_5_86 := htu _ mw_5_86
  unfold f_X8_sign at hf
  obtain ⟨H, hH⟩ : ∃ z, z = s.heap := ⟨_, rfl⟩
  obtain ⟨locs, hlo⟩ : ∃ z : List Loc, z = [] := ⟨_, rfl⟩
  have hS : va_S A s.heap H locs := by rw [hH, hlo]; exact hS
  rw [← hH] at hP
  have hW : W p l e (headSpec wsX8_sign rmX8_sign).room s m ([.ref (bM 0), .int x1] : List Value).toArray below meth c H locs 0 0 (MQ below (qI g A (cM g bM vM1) r) ([.ref (bM 0), .int x1] : List Value).toArray s 0 0 A) (F0 m 0 ls []) := by
    refine lv_aload_n hx hb dX8_sign_0 rfl (lv_at hl 0 rfl) ?_
    obtain ⟨r1, vM_2, hg3, hf⟩ := o2_at hf
    refine k_viW ⟨hx, hb, hml, hown, htu⟩ hK hP hD hS hA hG (c_X8_here l g bM vM r1 vM_2 hg3) (cwV 0 htu (gU_V mw_5_179 hcX8_here) rfl rfl rfl hdX8_here ⟨Nat.le_of_ble_eq_true rfl, Nat.le_of_ble_eq_true rfl⟩) (q0 := 0) (ci := 8) (fs := fcM bM vM) (q := (RX8, TX8, 23)) rfl rfl rfl (As := []) (rest := []) rfl rfl hl.1 (Nat.le_of_ble_eq_true rfl) dX8_sign_1 (k1 := 0) (n1 := 0) rfl rfl ⟨Nat.zero_le _, Nat.zero_le _⟩ (fun H locs hP hD hS => ?_)
    refine lv_iload_n hx hb dX8_sign_4 rfl (lv_at hl 1 rfl) ?_
    refine lv_icmp_eq (tgt := 19) hx hb dX8_sign_5 (by decide) (fun c4 => ?_) (fun c4 => ?_)
    · have hf := it_t hf c4
      refine lv_aload_n hx hb dX8_sign_19 rfl (lv_at hl 0 rfl) ?_
      refine lv_dup hx hb dX8_sign_20 rfl ?_
      refine va_get (D := g.1) (ci := 8) (fs := fcM bM vM_2) (v := .int (vM_2.1 14)) (C := RX8) (T := TX8) (N := 23) hx hb htu hinX8 hown hK hP 0 rfl rfl 14 (by decide) k_5_86 (fun _ h9 => h9) rfl dX8_sign_21 ?_
      refine lv_iconst (v := (1 : Int32)) hx hb dX8_sign_24 (by decide) ?_
      refine lv_iadd hx hb dX8_sign_25 ?_
      refine va_put (D := g.1) (ci := 8) (fs := fcM bM vM_2) (v := .int ((vM_2.1 14) + (1 : Int32))) (ty := .int) (C := RX8) (T := TX8) (N := 23) hx hb htu hinX8 tyX8 tyX8_ok nmX8 hown hK hP hD hS 0 rfl rfl 14 (by decide) k_5_86 (fun _ h9 => h9) rfl (by decide +kernel) rfl rfl (Nat.le_of_ble_eq_true rfl) dX8_sign_26 (fun H locs hP hD hS => ?_)
      obtain ⟨vM_5, evM_5⟩ : ∃ z, z = sF vM_2 14 ((vM_2.1 14) + (1 : Int32)) := ⟨_, rfl⟩
      have hf := bn_at hf evM_5
      have hP : va_P g.1 vwCl (cM g bM vM_5) H := by rw [evM_5]; exact hP
      have hD : va_D A (cM g bM vM_5) := by rw [evM_5]; exact hD
      refine lv_iconst (v := (1 : Int32)) hx hb dX8_sign_29 (by decide) ?_
      obtain ⟨h6, hf⟩ := gd_isB hf
      obtain ⟨e7, e8⟩ := kp_2 hf
      rw [e8] at hP hD
      exact k_zret hx hb hr hlocks hK hP hD hS e7 h6 dX8_sign_30
    · have hf := it_f hf c4
      refine lv_aload_n hx hb dX8_sign_8 rfl (lv_at hl 0 rfl) ?_
      refine lv_bipush (v := (-2 : Int32)) hx hb dX8_sign_9 (by decide) ?_
      refine lv_aload_n hx hb dX8_sign_11 rfl (lv_at hl 0 rfl) ?_
      refine va_get (D := g.1) (ci := 8) (fs := fcM bM vM_2) (v := .int (vM_2.1 14)) (C := RX8) (T := TX8) (N := 23) hx hb htu hinX8 hown hK hP 0 rfl rfl 14 (by decide) k_5_86 (fun _ h9 => h9) rfl dX8_sign_12 ?_
      obtain ⟨r9, vM_10, hg11, hf⟩ := o2_at hf
      refine k_viW ⟨hx, hb, hml, hown, htu⟩ hK hP hD hS hA hG (c_X8_fails l g bM vM_2 (-2 : Int32) (vM_2.1 14) r9 vM_10 hg11) (cwV 2 htu (gU_V mw_5_188 hcX8_fails) rfl rfl rfl hdX8_fails ⟨Nat.le_of_ble_eq_true rfl, Nat.le_of_ble_eq_true rfl⟩) (q0 := 0) (ci := 8) (fs := fcM bM vM_2) (q := (RX8, TX8, 23)) rfl rfl rfl (As := [.int (-2 : Int32), .int (vM_2.1 14)]) (rest := []) rfl rfl hl.1 (Nat.le_of_ble_eq_true rfl) dX8_sign_15 (k1 := 0) (n1 := 0) rfl rfl ⟨Nat.zero_le _, Nat.zero_le _⟩ (fun H locs hP hD hS => ?_)
      obtain ⟨h12, hf⟩ := gd_isB hf
      obtain ⟨e13, e14⟩ := kp_2 hf
      rw [e14] at hP hD
      exact k_zret hx hb hr hlocks hK hP hD hS e13 h12 dX8_sign_18
  rw [hH, hlo] at hW
  exact hW
def f_X8_reads_L34 (x1 : Int32) (x2 : Int32) (self10 : Vs → Option (Int32 × Vs)) (vM_9 : Vs) : Option (Int32 × Vs) :=
  jn (o1 (f_X8_isIn (vM_9.1 17) x1 x2) (fun (r15 : Int32) => jn (fun (t17 : Int32) (vM_18 : Vs) => gd (isB t17) (some (t17, vM_18))) (fun k19 => jn (fun (vM_25 : Vs) => k19 (1 : Int32) vM_25) (fun k26 => if r15 = 0 then o2 (f_X8_fails vM_9 (-3 : Int32) (vM_9.1 18)) (fun (r30 : Int32) (vM_31 : Vs) => if r30 = 0 then k19 (0 : Int32) vM_31 else k26 vM_31) else k26 vM_9)))) (fun k13 => if (vM_9.1 13) ≤ (vM_9.1 14) then k13 else gd (inb (vM_9.1 14) 800) (o1 (f_X8_isDigit (vM_9.2.1 11 ((vM_9.1 14)).toNatClampNeg)) (fun (r37 : Int32) => if r37 = 0 then k13 else jn (fun (t40 : Int32) => bn (sF vM_9 17 t40) (fun (vM_43 : Vs) => bn (sF vM_43 14 ((vM_43.1 14) + (1 : Int32))) (fun (vM_44 : Vs) => self10 vM_44))) (fun k41 => if (vM_9.1 17) ≤ (100000 : Int32) then gd (inb (vM_9.1 14) 800) (k41 ((((10 : Int32) * (vM_9.1 17)) + (vM_9.2.1 11 ((vM_9.1 14)).toNatClampNeg)) - (48 : Int32))) else k41 (vM_9.1 17)))))
def f_X8_reads (vM : Vs) (x1 : Int32) (x2 : Int32) : Option (Int32 × Vs) :=
  o2 (f_X8_here vM) (fun (r1 : Int32) (vM_2 : Vs) => o1 (f_X8_isDigit r1) (fun (r4 : Int32) => if r4 = 0 then o2 (f_X8_fails vM_2 (-2 : Int32) (vM_2.1 14)) (fun (r48 : Int32) (vM_49 : Vs) => gd (isB r48) (some (r48, vM_49))) else bn (sF vM_2 18 (vM_2.1 14)) (fun (vM_7 : Vs) => bn (sF vM_7 17 (0 : Int32)) (fun (vM_8 : Vs) => lp (f_X8_reads_L34 x1 x2) (fun _ => none) FU vM_8))))
abbrev wsX8_reads : List Cond := .code yX8_reads cX8_reads 3 (some .boolean) :: UW
abbrev rmX8_reads : Room := { frames := 1, cells := 0, slots := 0, locals := 22 }
set_option maxHeartbeats 4000000 in
set_option maxRecDepth 100000 in
theorem c_X8_reads (l : Launch) (g : Gx) (bM : Nat → Nat) (vM : Vs) (x1 : Int32) (x2 : Int32) (r : Int32) (vM1 : Vs) (hf : f_X8_reads vM x1 x2 = some (r, vM1)) : CtI l yX8_reads wsX8_reads rmX8_reads g [.ref (bM 0), .int x1, .int x2] (cM g bM vM) (cM g bM vM1) r 0 0 := by
  unfold CtI
  intro sz
  refine Met.ofW (cc := cX8_reads) (maxL := 3) (ret := (some .boolean)) (by decide) rfl ?_
  intro p e s m args below meth c s₁ B hml hv
  obtain ⟨rfl, hsz, hP, hK, hD0, hG⟩ := hv
  have hx := B.exec
  have hb := B.bytes
  have hr := B.returns
  have hts := atoms_spec (ws := wsX8_reads) B.pre
  have hown : s.vm.findClass RX8 = some m.cls := findClass_of_methodNamed B.named
  have hlocks := B.notSynchronized
  subst hsz
  have hD := hD0.self (sz := s.heap.size)
  generalize hAe : va_A (cM g bM vM) s.heap.size = A at hD hG ⊢
  have hA : ∀ q : Nat, s.heap.size ≤ q → A q := fun q h => by rw [← hAe]; exact Or.inr h
  clear hAe hD0
  have hS : va_S A s.heap s.heap [] := va_S.rf
  have hl := lv_entry ([.ref (bM 0), .int x1, .int x2]) (n := 3) (Nat.le_of_ble_eq_true rfl)
  rw [lg_entry_eq]
  generalize (lg_sl ([.ref (bM 0), .int x1, .int x2]) ++ List.replicate (3 - (lg_sl ([.ref (bM 0), .int x1, .int x2])).length) Slot.unset).toArray = ls at hl ⊢
  have hl : lv_has ls 3 [(0, .ref (bM 0)), (1, .int x1), (2, .int x2)] := hl
  have htu : ∀ w ∈ UW, w.before _ s = true := fun w h => hts w (List.mem_cons_of_mem _ h)
  have k_5_86 := htu _ mw_5_86
  have k_5_90 := htu _ mw_5_90
  have k_5_89 := htu _ mw_5_89
  have k_5_85 := htu _ mw_5_85
  have k_5_83 := htu _ mw_5_83
  have k_5_199 := htu _ mw_5_199
  unfold f_X8_reads at hf
  obtain ⟨H, hH⟩ : ∃ z, z = s.heap := ⟨_, rfl⟩
  obtain ⟨locs, hlo⟩ : ∃ z : List Loc, z = [] := ⟨_, rfl⟩
  have hS : va_S A s.heap H locs := by rw [hH, hlo]; exact hS
  rw [← hH] at hP
  have hW : W p l e (headSpec wsX8_reads rmX8_reads).room s m ([.ref (bM 0), .int x1, .int x2] : List Value).toArray below meth c H locs 0 0 (MQ below (qI g A (cM g bM vM1) r) ([.ref (bM 0), .int x1, .int x2] : List Value).toArray s 0 0 A) (F0 m 0 ls []) := by
    refine lv_aload_n hx hb dX8_reads_0 rfl (lv_at hl 0 rfl) ?_
    obtain ⟨r1, vM_2, hg3, hf⟩ := o2_at hf
    refine k_viW ⟨hx, hb, hml, hown, htu⟩ hK hP hD hS hA hG (c_X8_here l g bM vM r1 vM_2 hg3) (cwV 0 htu (gU_V mw_5_179 hcX8_here) rfl rfl rfl hdX8_here ⟨Nat.le_of_ble_eq_true rfl, Nat.le_of_ble_eq_true rfl⟩) (q0 := 0) (ci := 8) (fs := fcM bM vM) (q := (RX8, TX8, 23)) rfl rfl rfl (As := []) (rest := []) rfl rfl hl.1 (Nat.le_of_ble_eq_true rfl) dX8_reads_1 (k1 := 0) (n1 := 0) rfl rfl ⟨Nat.zero_le _, Nat.zero_le _⟩ (fun H locs hP hD hS => ?_)
    obtain ⟨r4, hg5, hf⟩ := o1_at hf
    refine k_si0 ⟨hx, hb, hml, hown, htu⟩ hK hP hD hS hA hG (c_X8_isDigit l g r1 r4 hg5) (va_cwS 1 htu (gU_S mw_5_196 hcX8_isDigit) rfl rfl rfl hdX8_isDigit ⟨Nat.le_of_ble_eq_true rfl, Nat.le_of_ble_eq_true rfl⟩) (As := [.int r1]) (rest := []) rfl rfl hl.1 (Nat.le_of_ble_eq_true rfl) dX8_reads_4 (k1 := 0) (n1 := 0) rfl rfl ⟨Nat.zero_le _, Nat.zero_le _⟩ (fun H locs hP hD hS => ?_)
    refine lv_if_ne (tgt := 21) hx hb dX8_reads_7 (by decide) (fun c6 => ?_) (fun c6 => ?_)
    · have hf := it_f hf c6
      refine lv_aload_n hx hb dX8_reads_21 rfl (lv_at hl 0 rfl) ?_
      refine lv_aload_n hx hb dX8_reads_22 rfl (lv_at hl 0 rfl) ?_
      refine va_get (D := g.1) (ci := 8) (fs := fcM bM vM_2) (v := .int (vM_2.1 14)) (C := RX8) (T := TX8) (N := 23) hx hb htu hinX8 hown hK hP 0 rfl rfl 14 (by decide) k_5_86 (fun _ h9 => h9) rfl dX8_reads_23 ?_
      refine va_put (D := g.1) (ci := 8) (fs := fcM bM vM_2) (v := .int (vM_2.1 14)) (ty := .int) (C := RX8) (T := TX8) (N := 23) hx hb htu hinX8 tyX8 tyX8_ok nmX8 hown hK hP hD hS 0 rfl rfl 18 (by decide) k_5_90 (fun _ h9 => h9) rfl (by decide +kernel) rfl rfl (Nat.le_of_ble_eq_true rfl) dX8_reads_26 (fun H locs hP hD hS => ?_)
      obtain ⟨vM_7, evM_7⟩ : ∃ z, z = sF vM_2 18 (vM_2.1 14) := ⟨_, rfl⟩
      have hf := bn_at hf evM_7
      have hP : va_P g.1 vwCl (cM g bM vM_7) H := by rw [evM_7]; exact hP
      have hD : va_D A (cM g bM vM_7) := by rw [evM_7]; exact hD
      refine lv_aload_n hx hb dX8_reads_29 rfl (lv_at hl 0 rfl) ?_
      refine lv_iconst (v := (0 : Int32)) hx hb dX8_reads_30 (by decide) ?_
      refine va_put (D := g.1) (ci := 8) (fs := fcM bM vM_7) (v := .int (0 : Int32)) (ty := .int) (C := RX8) (T := TX8) (N := 23) hx hb htu hinX8 tyX8 tyX8_ok nmX8 hown hK hP hD hS 0 rfl rfl 17 (by decide) k_5_89 (fun _ h9 => h9) rfl (by decide +kernel) rfl rfl (Nat.le_of_ble_eq_true rfl) dX8_reads_31 (fun H locs hP hD hS => ?_)
      obtain ⟨vM_8, evM_8⟩ : ∃ z, z = sF vM_7 17 (0 : Int32) := ⟨_, rfl⟩
      have hf := bn_at hf evM_8
      have hP : va_P g.1 vwCl (cM g bM vM_8) H := by rw [evM_8]; exact hP
      have hD : va_D A (cM g bM vM_8) := by rw [evM_8]; exact hD
      have hL11 : ∀ (vM_9 : Vs), lp (f_X8_reads_L34 x1 x2) (fun _ => none) FU vM_9 = some (r, vM1) → ∀ (H : Heap) (locs : List Loc), va_P g.1 vwCl (cM g bM vM_9) H → va_D A (cM g bM vM_9) → va_S A s.heap H locs → ∀ ls : Array Slot, lv_has ls 3 [(0, .ref (bM 0)), (1, .int x1), (2, .int x2)] → W p l e (headSpec wsX8_reads rmX8_reads).room s m ([.ref (bM 0), .int x1, .int x2] : List Value).toArray below meth c H locs 0 0 (MQ below (qI g A (cM g bM vM1) r) ([.ref (bM 0), .int x1, .int x2] : List Value).toArray s 0 0 A) (F0 m 34 ls []) := by
        refine lp_ind (T := Vs → Option (Int32 × Vs)) (fun self10 => ∀ (vM_9 : Vs), self10 vM_9 = some (r, vM1) → ∀ (H : Heap) (locs : List Loc), va_P g.1 vwCl (cM g bM vM_9) H → va_D A (cM g bM vM_9) → va_S A s.heap H locs → ∀ ls : Array Slot, lv_has ls 3 [(0, .ref (bM 0)), (1, .int x1), (2, .int x2)] → W p l e (headSpec wsX8_reads rmX8_reads).room s m ([.ref (bM 0), .int x1, .int x2] : List Value).toArray below meth c H locs 0 0 (MQ below (qI g A (cM g bM vM1) r) ([.ref (bM 0), .int x1, .int x2] : List Value).toArray s 0 0 A) (F0 m 34 ls [])) ?_ ?_ FU
        · intro vM_9 hf; cases hf
        · intro self10 ih12 vM_9 hf H locs hP hD hS ls hl
          unfold f_X8_reads_L34 at hf
          refine lv_aload_n hx hb dX8_reads_34 rfl (lv_at hl 0 rfl) ?_
          refine va_get (D := g.1) (ci := 8) (fs := fcM bM vM_9) (v := .int (vM_9.1 14)) (C := RX8) (T := TX8) (N := 23) hx hb htu hinX8 hown hK hP 0 rfl rfl 14 (by decide) k_5_86 (fun _ h9 => h9) rfl dX8_reads_35 ?_
          refine lv_aload_n hx hb dX8_reads_38 rfl (lv_at hl 0 rfl) ?_
          refine va_get (D := g.1) (ci := 8) (fs := fcM bM vM_9) (v := .int (vM_9.1 13)) (C := RX8) (T := TX8) (N := 23) hx hb htu hinX8 hown hK hP 0 rfl rfl 13 (by decide) k_5_85 (fun _ h9 => h9) rfl dX8_reads_39 ?_
          obtain ⟨k13, hk34, hf⟩ := jn_at hf
          have hJ14 : k13 = some (r, vM1) → ∀ (H : Heap) (locs : List Loc), va_P g.1 vwCl (cM g bM vM_9) H → va_D A (cM g bM vM_9) → va_S A s.heap H locs → ∀ ls : Array Slot, lv_has ls 3 [(0, .ref (bM 0)), (1, .int x1), (2, .int x2)] → W p l e (headSpec wsX8_reads rmX8_reads).room s m ([.ref (bM 0), .int x1, .int x2] : List Value).toArray below meth c H locs 0 0 (MQ below (qI g A (cM g bM vM1) r) ([.ref (bM 0), .int x1, .int x2] : List Value).toArray s 0 0 A) (F0 m 113 ls []) := by
            intro hf H locs hP hD hS ls hl
            rw [hk34] at hf
            clear hk34
            refine lv_aload_n hx hb dX8_reads_113 rfl (lv_at hl 0 rfl) ?_
            refine va_get (D := g.1) (ci := 8) (fs := fcM bM vM_9) (v := .int (vM_9.1 17)) (C := RX8) (T := TX8) (N := 23) hx hb htu hinX8 hown hK hP 0 rfl rfl 17 (by decide) k_5_89 (fun _ h9 => h9) rfl dX8_reads_114 ?_
            refine lv_iload_n hx hb dX8_reads_117 rfl (lv_at hl 1 rfl) ?_
            refine lv_iload_n hx hb dX8_reads_118 rfl (lv_at hl 2 rfl) ?_
            obtain ⟨r15, hg16, hf⟩ := o1_at hf
            refine k_si0 ⟨hx, hb, hml, hown, htu⟩ hK hP hD hS hA hG (c_X8_isIn l g (vM_9.1 17) x1 x2 r15 hg16) (va_cwS 3 htu (gU_S mw_5_163 hcX8_isIn) rfl rfl rfl hdX8_isIn ⟨Nat.le_of_ble_eq_true rfl, Nat.le_of_ble_eq_true rfl⟩) (As := [.int (vM_9.1 17), .int x1, .int x2]) (rest := []) rfl rfl hl.1 (Nat.le_of_ble_eq_true rfl) dX8_reads_119 (k1 := 0) (n1 := 0) rfl rfl ⟨Nat.zero_le _, Nat.zero_le _⟩ (fun H locs hP hD hS => ?_)
            obtain ⟨k19, hk24, hf⟩ := jn_at hf
            have hJ20 : ∀ (t17 : Int32) (vM_18 : Vs), k19 t17 vM_18 = some (r, vM1) → ∀ (H : Heap) (locs : List Loc), va_P g.1 vwCl (cM g bM vM_18) H → va_D A (cM g bM vM_18) → va_S A s.heap H locs → ∀ ls : Array Slot, lv_has ls 3 [] → W p l e (headSpec wsX8_reads rmX8_reads).room s m ([.ref (bM 0), .int x1, .int x2] : List Value).toArray below meth c H locs 0 0 (MQ below (qI g A (cM g bM vM1) r) ([.ref (bM 0), .int x1, .int x2] : List Value).toArray s 0 0 A) (F0 m 143 ls [.int t17]) := by
              intro t17 vM_18 hf H locs hP hD hS ls hl
              rw [hk24] at hf
              dsimp only at hf
              clear hk24
              obtain ⟨h21, hf⟩ := gd_isB hf
              obtain ⟨e22, e23⟩ := kp_2 hf
              rw [e23] at hP hD
              exact k_zret hx hb hr hlocks hK hP hD hS e22 h21 dX8_reads_143
            obtain ⟨k26, hk28, hf⟩ := jn_at hf
            have hJ27 : ∀ (vM_25 : Vs), k26 vM_25 = some (r, vM1) → ∀ (H : Heap) (locs : List Loc), va_P g.1 vwCl (cM g bM vM_25) H → va_D A (cM g bM vM_25) → va_S A s.heap H locs → ∀ ls : Array Slot, lv_has ls 3 [] → W p l e (headSpec wsX8_reads rmX8_reads).room s m ([.ref (bM 0), .int x1, .int x2] : List Value).toArray below meth c H locs 0 0 (MQ below (qI g A (cM g bM vM1) r) ([.ref (bM 0), .int x1, .int x2] : List Value).toArray s 0 0 A) (F0 m 138 ls []) := by
              intro vM_25 hf H locs hP hD hS ls hl
              rw [hk28] at hf
              dsimp only at hf
              clear hk28
              refine lv_iconst (v := (1 : Int32)) hx hb dX8_reads_138 (by decide) ?_
              refine lv_goto (tgt := 143) hx hb dX8_reads_139 (by decide) ?_
              exact hJ20 (1 : Int32) vM_25 hf H locs hP hD hS _ (lv_sub hl [] rfl)
            refine lv_if_ne (tgt := 138) hx hb dX8_reads_122 (by decide) (fun c29 => ?_) (fun c29 => ?_)
            · have hf := it_f hf c29
              exact hJ27 vM_9 hf H locs hP hD hS _ (lv_sub hl [] rfl)
            · have hf := it_t hf c29
              refine lv_aload_n hx hb dX8_reads_125 rfl (lv_at hl 0 rfl) ?_
              refine lv_bipush (v := (-3 : Int32)) hx hb dX8_reads_126 (by decide) ?_
              refine lv_aload_n hx hb dX8_reads_128 rfl (lv_at hl 0 rfl) ?_
              refine va_get (D := g.1) (ci := 8) (fs := fcM bM vM_9) (v := .int (vM_9.1 18)) (C := RX8) (T := TX8) (N := 23) hx hb htu hinX8 hown hK hP 0 rfl rfl 18 (by decide) k_5_90 (fun _ h9 => h9) rfl dX8_reads_129 ?_
              obtain ⟨r30, vM_31, hg32, hf⟩ := o2_at hf
              refine k_viW ⟨hx, hb, hml, hown, htu⟩ hK hP hD hS hA hG (c_X8_fails l g bM vM_9 (-3 : Int32) (vM_9.1 18) r30 vM_31 hg32) (cwV 2 htu (gU_V mw_5_188 hcX8_fails) rfl rfl rfl hdX8_fails ⟨Nat.le_of_ble_eq_true rfl, Nat.le_of_ble_eq_true rfl⟩) (q0 := 0) (ci := 8) (fs := fcM bM vM_9) (q := (RX8, TX8, 23)) rfl rfl rfl (As := [.int (-3 : Int32), .int (vM_9.1 18)]) (rest := []) rfl rfl hl.1 (Nat.le_of_ble_eq_true rfl) dX8_reads_132 (k1 := 0) (n1 := 0) rfl rfl ⟨Nat.zero_le _, Nat.zero_le _⟩ (fun H locs hP hD hS => ?_)
              refine lv_if_eq (tgt := 142) hx hb dX8_reads_135 (by decide) (fun c33 => ?_) (fun c33 => ?_)
              · have hf := it_t hf c33
                refine lv_iconst (v := (0 : Int32)) hx hb dX8_reads_142 (by decide) ?_
                exact hJ20 (0 : Int32) vM_31 hf H locs hP hD hS _ (lv_sub hl [] rfl)
              · have hf := it_f hf c33
                exact hJ27 vM_31 hf H locs hP hD hS _ (lv_sub hl [] rfl)
          refine lv_icmp_ge (tgt := 113) hx hb dX8_reads_42 (by decide) (fun c35 => ?_) (fun c35 => ?_)
          · have hf := it_t hf c35
            exact hJ14 hf H locs hP hD hS _ (lv_sub hl [0, 1, 2] rfl)
          · have hf := it_f hf c35
            refine lv_aload_n hx hb dX8_reads_45 rfl (lv_at hl 0 rfl) ?_
            refine va_get (D := g.1) (ci := 8) (fs := fcM bM vM_9) (v := .ref (bM 12)) (C := RX8) (T := TX8) (N := 23) hx hb htu hinX8 hown hK hP 0 rfl rfl 11 (by decide) k_5_83 (fun _ h9 => h9) rfl dX8_reads_46 ?_
            refine lv_aload_n hx hb dX8_reads_49 rfl (lv_at hl 0 rfl) ?_
            refine va_get (D := g.1) (ci := 8) (fs := fcM bM vM_9) (v := .int (vM_9.1 14)) (C := RX8) (T := TX8) (N := 23) hx hb htu hinX8 hown hK hP 0 rfl rfl 14 (by decide) k_5_86 (fun _ h9 => h9) rfl dX8_reads_50 ?_
            obtain ⟨h36, hf⟩ := gd_in hf
            refine va_iald (D := g.1) (f := (vM_9.2.1 11)) hx hb hK hP 9 0 rfl rfl h36 dX8_reads_53 ?_
            obtain ⟨r37, hg38, hf⟩ := o1_at hf
            refine k_si0 ⟨hx, hb, hml, hown, htu⟩ hK hP hD hS hA hG (c_X8_isDigit l g (vM_9.2.1 11 ((vM_9.1 14)).toNatClampNeg) r37 hg38) (va_cwS 1 htu (gU_S mw_5_196 hcX8_isDigit) rfl rfl rfl hdX8_isDigit ⟨Nat.le_of_ble_eq_true rfl, Nat.le_of_ble_eq_true rfl⟩) (As := [.int (vM_9.2.1 11 ((vM_9.1 14)).toNatClampNeg)]) (rest := []) rfl rfl hl.1 (Nat.le_of_ble_eq_true rfl) dX8_reads_54 (k1 := 0) (n1 := 0) rfl rfl ⟨Nat.zero_le _, Nat.zero_le _⟩ (fun H locs hP hD hS => ?_)
            refine lv_if_eq (tgt := 113) hx hb dX8_reads_57 (by decide) (fun c39 => ?_) (fun c39 => ?_)
            · have hf := it_t hf c39
              exact hJ14 hf H locs hP hD hS _ (lv_sub hl [0, 1, 2] rfl)
            · have hf := it_f hf c39
              refine lv_aload_n hx hb dX8_reads_60 rfl (lv_at hl 0 rfl) ?_
              refine lv_aload_n hx hb dX8_reads_61 rfl (lv_at hl 0 rfl) ?_
              refine va_get (D := g.1) (ci := 8) (fs := fcM bM vM_9) (v := .int (vM_9.1 17)) (C := RX8) (T := TX8) (N := 23) hx hb htu hinX8 hown hK hP 0 rfl rfl 17 (by decide) k_5_89 (fun _ h9 => h9) rfl dX8_reads_62 ?_
              refine lv_ldc (v := (100000 : Int32)) hx hb hown k_5_199 dX8_reads_65 ?_
              obtain ⟨k41, hk45, hf⟩ := jn_at hf
              have hJ42 : ∀ (t40 : Int32), k41 t40 = some (r, vM1) → ∀ (H : Heap) (locs : List Loc), va_P g.1 vwCl (cM g bM vM_9) H → va_D A (cM g bM vM_9) → va_S A s.heap H locs → ∀ ls : Array Slot, lv_has ls 3 [(0, .ref (bM 0)), (1, .int x1), (2, .int x2)] → W p l e (headSpec wsX8_reads rmX8_reads).room s m ([.ref (bM 0), .int x1, .int x2] : List Value).toArray below meth c H locs 0 0 (MQ below (qI g A (cM g bM vM1) r) ([.ref (bM 0), .int x1, .int x2] : List Value).toArray s 0 0 A) (F0 m 97 ls [.int t40, .ref (bM 0)]) := by
                intro t40 hf H locs hP hD hS ls hl
                rw [hk45] at hf
                dsimp only at hf
                clear hk45
                refine va_put (D := g.1) (ci := 8) (fs := fcM bM vM_9) (v := .int t40) (ty := .int) (C := RX8) (T := TX8) (N := 23) hx hb htu hinX8 tyX8 tyX8_ok nmX8 hown hK hP hD hS 0 rfl rfl 17 (by decide) k_5_89 (fun _ h9 => h9) rfl (by decide +kernel) rfl rfl (Nat.le_of_ble_eq_true rfl) dX8_reads_97 (fun H locs hP hD hS => ?_)
                obtain ⟨vM_43, evM_43⟩ : ∃ z, z = sF vM_9 17 t40 := ⟨_, rfl⟩
                have hf := bn_at hf evM_43
                have hP : va_P g.1 vwCl (cM g bM vM_43) H := by rw [evM_43]; exact hP
                have hD : va_D A (cM g bM vM_43) := by rw [evM_43]; exact hD
                refine lv_aload_n hx hb dX8_reads_100 rfl (lv_at hl 0 rfl) ?_
                refine lv_dup hx hb dX8_reads_101 rfl ?_
                refine va_get (D := g.1) (ci := 8) (fs := fcM bM vM_43) (v := .int (vM_43.1 14)) (C := RX8) (T := TX8) (N := 23) hx hb htu hinX8 hown hK hP 0 rfl rfl 14 (by decide) k_5_86 (fun _ h9 => h9) rfl dX8_reads_102 ?_
                refine lv_iconst (v := (1 : Int32)) hx hb dX8_reads_105 (by decide) ?_
                refine lv_iadd hx hb dX8_reads_106 ?_
                refine va_put (D := g.1) (ci := 8) (fs := fcM bM vM_43) (v := .int ((vM_43.1 14) + (1 : Int32))) (ty := .int) (C := RX8) (T := TX8) (N := 23) hx hb htu hinX8 tyX8 tyX8_ok nmX8 hown hK hP hD hS 0 rfl rfl 14 (by decide) k_5_86 (fun _ h9 => h9) rfl (by decide +kernel) rfl rfl (Nat.le_of_ble_eq_true rfl) dX8_reads_107 (fun H locs hP hD hS => ?_)
                obtain ⟨vM_44, evM_44⟩ : ∃ z, z = sF vM_43 14 ((vM_43.1 14) + (1 : Int32)) := ⟨_, rfl⟩
                have hf := bn_at hf evM_44
                have hP : va_P g.1 vwCl (cM g bM vM_44) H := by rw [evM_44]; exact hP
                have hD : va_D A (cM g bM vM_44) := by rw [evM_44]; exact hD
                refine lv_goto (tgt := 34) hx hb dX8_reads_110 (by decide) ?_
                exact ih12 vM_44 hf H locs hP hD hS _ (lv_sub hl [0, 1, 2] rfl)
              refine lv_icmp_le (tgt := 77) hx hb dX8_reads_67 (by decide) (fun c46 => ?_) (fun c46 => ?_)
              · have hf := it_t hf c46
                refine lv_bipush (v := (10 : Int32)) hx hb dX8_reads_77 (by decide) ?_
                refine lv_aload_n hx hb dX8_reads_79 rfl (lv_at hl 0 rfl) ?_
                refine va_get (D := g.1) (ci := 8) (fs := fcM bM vM_9) (v := .int (vM_9.1 17)) (C := RX8) (T := TX8) (N := 23) hx hb htu hinX8 hown hK hP 0 rfl rfl 17 (by decide) k_5_89 (fun _ h9 => h9) rfl dX8_reads_80 ?_
                refine lv_imul hx hb dX8_reads_83 ?_
                refine lv_aload_n hx hb dX8_reads_84 rfl (lv_at hl 0 rfl) ?_
                refine va_get (D := g.1) (ci := 8) (fs := fcM bM vM_9) (v := .ref (bM 12)) (C := RX8) (T := TX8) (N := 23) hx hb htu hinX8 hown hK hP 0 rfl rfl 11 (by decide) k_5_83 (fun _ h9 => h9) rfl dX8_reads_85 ?_
                refine lv_aload_n hx hb dX8_reads_88 rfl (lv_at hl 0 rfl) ?_
                refine va_get (D := g.1) (ci := 8) (fs := fcM bM vM_9) (v := .int (vM_9.1 14)) (C := RX8) (T := TX8) (N := 23) hx hb htu hinX8 hown hK hP 0 rfl rfl 14 (by decide) k_5_86 (fun _ h9 => h9) rfl dX8_reads_89 ?_
                obtain ⟨h47, hf⟩ := gd_in hf
                refine va_iald (D := g.1) (f := (vM_9.2.1 11)) hx hb hK hP 9 0 rfl rfl h47 dX8_reads_92 ?_
                refine lv_iadd hx hb dX8_reads_93 ?_
                refine lv_bipush (v := (48 : Int32)) hx hb dX8_reads_94 (by decide) ?_
                refine lv_isub hx hb dX8_reads_96 ?_
                exact hJ42 ((((10 : Int32) * (vM_9.1 17)) + (vM_9.2.1 11 ((vM_9.1 14)).toNatClampNeg)) - (48 : Int32)) hf H locs hP hD hS _ (lv_sub hl [0, 1, 2] rfl)
              · have hf := it_f hf c46
                refine lv_aload_n hx hb dX8_reads_70 rfl (lv_at hl 0 rfl) ?_
                refine va_get (D := g.1) (ci := 8) (fs := fcM bM vM_9) (v := .int (vM_9.1 17)) (C := RX8) (T := TX8) (N := 23) hx hb htu hinX8 hown hK hP 0 rfl rfl 17 (by decide) k_5_89 (fun _ h9 => h9) rfl dX8_reads_71 ?_
                refine lv_goto (tgt := 97) hx hb dX8_reads_74 (by decide) ?_
                exact hJ42 (vM_9.1 17) hf H locs hP hD hS _ (lv_sub hl [0, 1, 2] rfl)
      exact hL11 vM_8 hf H locs hP hD hS _ (lv_sub hl [0, 1, 2] rfl)
    · have hf := it_t hf c6
      refine lv_aload_n hx hb dX8_reads_10 rfl (lv_at hl 0 rfl) ?_
      refine lv_bipush (v := (-2 : Int32)) hx hb dX8_reads_11 (by decide) ?_
      refine lv_aload_n hx hb dX8_reads_13 rfl (lv_at hl 0 rfl) ?_
      refine va_get (D := g.1) (ci := 8) (fs := fcM bM vM_2) (v := .int (vM_2.1 14)) (C := RX8) (T := TX8) (N := 23) hx hb htu hinX8 hown hK hP 0 rfl rfl 14 (by decide) k_5_86 (fun _ h9 => h9) rfl dX8_reads_14 ?_
      obtain ⟨r48, vM_49, hg50, hf⟩ := o2_at hf
      refine k_viW ⟨hx, hb, hml, hown, htu⟩ hK hP hD hS hA hG (c_X8_fails l g bM vM_2 (-2 : Int32) (vM_2.1 14) r48 vM_49 hg50) (cwV 2 htu (gU_V mw_5_188 hcX8_fails) rfl rfl rfl hdX8_fails ⟨Nat.le_of_ble_eq_true rfl, Nat.le_of_ble_eq_true rfl⟩) (q0 := 0) (ci := 8) (fs := fcM bM vM_2) (q := (RX8, TX8, 23)) rfl rfl rfl (As := [.int (-2 : Int32), .int (vM_2.1 14)]) (rest := []) rfl rfl hl.1 (Nat.le_of_ble_eq_true rfl) dX8_reads_17 (k1 := 0) (n1 := 0) rfl rfl ⟨Nat.zero_le _, Nat.zero_le _⟩ (fun H locs hP hD hS => ?_)
      obtain ⟨h51, hf⟩ := gd_isB hf
      obtain ⟨e52, e53⟩ := kp_2 hf
      rw [e53] at hP hD
      exact k_zret hx hb hr hlocks hK hP hD hS e52 h51 dX8_reads_20
  rw [hH, hlo] at hW
  exact hW
def f_X8_readsWire (vM : Vs) : Option (Int32 × Vs) :=
  gd (inb (1 : Int32) 440) (o2 (f_X8_reads vM (0 : Int32) ((vM.2.1 2 ((1 : Int32)).toNatClampNeg) - (1 : Int32))) (fun (r2 : Int32) (vM_3 : Vs) => gd (isB r2) (some (r2, vM_3))))
abbrev wsX8_readsWire : List Cond := .code yX8_readsWire cX8_readsWire 1 (some .boolean) :: UW
abbrev rmX8_readsWire : Room := { frames := 2, cells := 0, slots := 0, locals := 44 }
set_option maxHeartbeats 4000000 in
set_option maxRecDepth 100000 in
theorem c_X8_readsWire (l : Launch) (g : Gx) (bM : Nat → Nat) (vM : Vs) (r : Int32) (vM1 : Vs) (hf : f_X8_readsWire vM = some (r, vM1)) : CtI l yX8_readsWire wsX8_readsWire rmX8_readsWire g [.ref (bM 0)] (cM g bM vM) (cM g bM vM1) r 0 0 := by
  unfold CtI
  intro sz
  refine Met.ofW (cc := cX8_readsWire) (maxL := 1) (ret := (some .boolean)) (by decide) rfl ?_
  intro p e s m args below meth c s₁ B hml hv
  obtain ⟨rfl, hsz, hP, hK, hD0, hG⟩ := hv
  have hx := B.exec
  have hb := B.bytes
  have hr := B.returns
  have hts := atoms_spec (ws := wsX8_readsWire) B.pre
  have hown : s.vm.findClass RX8 = some m.cls := findClass_of_methodNamed B.named
  have hlocks := B.notSynchronized
  subst hsz
  have hD := hD0.self (sz := s.heap.size)
  generalize hAe : va_A (cM g bM vM) s.heap.size = A at hD hG ⊢
  have hA : ∀ q : Nat, s.heap.size ≤ q → A q := fun q h => by rw [← hAe]; exact Or.inr h
  clear hAe hD0
  have hS : va_S A s.heap s.heap [] := va_S.rf
  have hl := lv_entry ([.ref (bM 0)]) (n := 1) (Nat.le_of_ble_eq_true rfl)
  rw [lg_entry_eq]
  generalize (lg_sl ([.ref (bM 0)]) ++ List.replicate (1 - (lg_sl ([.ref (bM 0)])).length) Slot.unset).toArray = ls at hl ⊢
  have hl : lv_has ls 1 [(0, .ref (bM 0))] := hl
  have htu : ∀ w ∈ UW, w.before _ s = true := fun w h => hts w (List.mem_cons_of_mem _ h)
  have k_5_74 := htu _ mw_5_74
  unfold f_X8_readsWire at hf
  obtain ⟨H, hH⟩ : ∃ z, z = s.heap := ⟨_, rfl⟩
  obtain ⟨locs, hlo⟩ : ∃ z : List Loc, z = [] := ⟨_, rfl⟩
  have hS : va_S A s.heap H locs := by rw [hH, hlo]; exact hS
  rw [← hH] at hP
  have hW : W p l e (headSpec wsX8_readsWire rmX8_readsWire).room s m ([.ref (bM 0)] : List Value).toArray below meth c H locs 0 0 (MQ below (qI g A (cM g bM vM1) r) ([.ref (bM 0)] : List Value).toArray s 0 0 A) (F0 m 0 ls []) := by
    refine lv_aload_n hx hb dX8_readsWire_0 rfl (lv_at hl 0 rfl) ?_
    refine lv_iconst (v := (0 : Int32)) hx hb dX8_readsWire_1 (by decide) ?_
    refine lv_aload_n hx hb dX8_readsWire_2 rfl (lv_at hl 0 rfl) ?_
    refine va_get (D := g.1) (ci := 8) (fs := fcM bM vM) (v := .ref (bM 3)) (C := RX8) (T := TX8) (N := 23) hx hb htu hinX8 hown hK hP 0 rfl rfl 2 (by decide) k_5_74 (fun _ h9 => h9) rfl dX8_readsWire_3 ?_
    refine lv_iconst (v := (1 : Int32)) hx hb dX8_readsWire_6 (by decide) ?_
    obtain ⟨h1, hf⟩ := gd_in hf
    refine va_iald (D := g.1) (f := (vM.2.1 2)) hx hb hK hP 2 0 rfl rfl h1 dX8_readsWire_7 ?_
    refine lv_iconst (v := (1 : Int32)) hx hb dX8_readsWire_8 (by decide) ?_
    refine lv_isub hx hb dX8_readsWire_9 ?_
    obtain ⟨r2, vM_3, hg4, hf⟩ := o2_at hf
    refine k_viW ⟨hx, hb, hml, hown, htu⟩ hK hP hD hS hA hG (c_X8_reads l g bM vM (0 : Int32) ((vM.2.1 2 ((1 : Int32)).toNatClampNeg) - (1 : Int32)) r2 vM_3 hg4) (cwV 2 htu (gU_V mw_5_192 hcX8_reads) rfl rfl rfl hdX8_reads ⟨Nat.le_of_ble_eq_true rfl, Nat.le_of_ble_eq_true rfl⟩) (q0 := 0) (ci := 8) (fs := fcM bM vM) (q := (RX8, TX8, 23)) rfl rfl rfl (As := [.int (0 : Int32), .int ((vM.2.1 2 ((1 : Int32)).toNatClampNeg) - (1 : Int32))]) (rest := []) rfl rfl hl.1 (Nat.le_of_ble_eq_true rfl) dX8_readsWire_10 (k1 := 0) (n1 := 0) rfl rfl ⟨Nat.zero_le _, Nat.zero_le _⟩ (fun H locs hP hD hS => ?_)
    obtain ⟨h5, hf⟩ := gd_isB hf
    obtain ⟨e6, e7⟩ := kp_2 hf
    rw [e7] at hP hD
    exact k_zret hx hb hr hlocks hK hP hD hS e6 h5 dX8_readsWire_13
  rw [hH, hlo] at hW
  exact hW
def f_X8_fewest (x0 : Int32) : Option (Int32) :=
  jn (fun (t1 : Int32) => some (t1)) (fun k2 => if x0 = (8 : Int32) then k2 (3 : Int32) else jn (k2 (1 : Int32)) (fun k7 => if x0 = (6 : Int32) then k7 else if x0 = (7 : Int32) then k7 else k2 (2 : Int32)))
abbrev wsX8_fewest : List Cond := .code yX8_fewest cX8_fewest 1 (some .int) :: UW
abbrev rmX8_fewest : Room := { frames := 0, cells := 0, slots := 0, locals := 0 }
set_option maxHeartbeats 4000000 in
set_option maxRecDepth 100000 in
theorem c_X8_fewest (l : Launch) (g : Gx) (x0 : Int32) (r : Int32) (hf : f_X8_fewest x0 = some r) : CtI l yX8_fewest wsX8_fewest rmX8_fewest g [.int x0] ([]) ([]) r 0 0 := by
  unfold CtI
  intro sz
  refine Met.ofW (cc := cX8_fewest) (maxL := 1) (ret := (some .int)) (by decide) rfl ?_
  intro p e s m args below meth c s₁ B hml hv
  obtain ⟨rfl, hsz, hP, hK, hD0, hG⟩ := hv
  have hx := B.exec
  have hb := B.bytes
  have hr := B.returns
  have hts := atoms_spec (ws := wsX8_fewest) B.pre
  have hown : s.vm.findClass RX8 = some m.cls := findClass_of_methodNamed B.named
  have hlocks := B.notSynchronized
  subst hsz
  have hD := hD0.self (sz := s.heap.size)
  generalize hAe : va_A ([]) s.heap.size = A at hD hG ⊢
  have hA : ∀ q : Nat, s.heap.size ≤ q → A q := fun q h => by rw [← hAe]; exact Or.inr h
  clear hAe hD0
  have hS : va_S A s.heap s.heap [] := va_S.rf
  have hl := lv_entry ([.int x0]) (n := 1) (Nat.le_of_ble_eq_true rfl)
  rw [lg_entry_eq]
  generalize (lg_sl ([.int x0]) ++ List.replicate (1 - (lg_sl ([.int x0])).length) Slot.unset).toArray = ls at hl ⊢
  have hl : lv_has ls 1 [(0, .int x0)] := hl
  have htu : ∀ w ∈ UW, w.before _ s = true := fun w h => hts w (List.mem_cons_of_mem _ h)
  unfold f_X8_fewest at hf
  obtain ⟨H, hH⟩ : ∃ z, z = s.heap := ⟨_, rfl⟩
  obtain ⟨locs, hlo⟩ : ∃ z : List Loc, z = [] := ⟨_, rfl⟩
  have hS : va_S A s.heap H locs := by rw [hH, hlo]; exact hS
  rw [← hH] at hP
  have hW : W p l e (headSpec wsX8_fewest rmX8_fewest).room s m ([.int x0] : List Value).toArray below meth c H locs 0 0 (MQ below (qI g A ([]) r) ([.int x0] : List Value).toArray s 0 0 A) (F0 m 0 ls []) := by
    refine lv_iload_n hx hb dX8_fewest_0 rfl (lv_at hl 0 rfl) ?_
    refine lv_bipush (v := (8 : Int32)) hx hb dX8_fewest_1 (by decide) ?_
    obtain ⟨k2, hk5, hf⟩ := jn_at hf
    have hJ3 : ∀ (t1 : Int32), k2 t1 = some r → ∀ (H : Heap) (locs : List Loc), va_P g.1 vwCl ([]) H → va_D A ([]) → va_S A s.heap H locs → ∀ ls : Array Slot, lv_has ls 1 [] → W p l e (headSpec wsX8_fewest rmX8_fewest).room s m ([.int x0] : List Value).toArray below meth c H locs 0 0 (MQ below (qI g A ([]) r) ([.int x0] : List Value).toArray s 0 0 A) (F0 m 27 ls [.int t1]) := by
      intro t1 hf H locs hP hD hS ls hl
      rw [hk5] at hf
      dsimp only at hf
      clear hk5
      have e4 := Option.some.inj hf
      exact k_iret hx hb hr hlocks hK hP hD hS e4 dX8_fewest_27
    refine lv_icmp_ne (tgt := 10) hx hb dX8_fewest_3 (by decide) (fun c6 => ?_) (fun c6 => ?_)
    · have hf := it_f hf c6
      refine lv_iload_n hx hb dX8_fewest_10 rfl (lv_at hl 0 rfl) ?_
      refine lv_bipush (v := (6 : Int32)) hx hb dX8_fewest_11 (by decide) ?_
      obtain ⟨k7, hk9, hf⟩ := jn_at hf
      have hJ8 : k7 = some r → ∀ (H : Heap) (locs : List Loc), va_P g.1 vwCl ([]) H → va_D A ([]) → va_S A s.heap H locs → ∀ ls : Array Slot, lv_has ls 1 [] → W p l e (headSpec wsX8_fewest rmX8_fewest).room s m ([.int x0] : List Value).toArray below meth c H locs 0 0 (MQ below (qI g A ([]) r) ([.int x0] : List Value).toArray s 0 0 A) (F0 m 22 ls []) := by
        intro hf H locs hP hD hS ls hl
        rw [hk9] at hf
        clear hk9
        refine lv_iconst (v := (1 : Int32)) hx hb dX8_fewest_22 (by decide) ?_
        refine lv_goto (tgt := 27) hx hb dX8_fewest_23 (by decide) ?_
        exact hJ3 (1 : Int32) hf H locs hP hD hS _ (lv_sub hl [] rfl)
      refine lv_icmp_eq (tgt := 22) hx hb dX8_fewest_13 (by decide) (fun c10 => ?_) (fun c10 => ?_)
      · have hf := it_t hf c10
        exact hJ8 hf H locs hP hD hS _ (lv_sub hl [] rfl)
      · have hf := it_f hf c10
        refine lv_iload_n hx hb dX8_fewest_16 rfl (lv_at hl 0 rfl) ?_
        refine lv_bipush (v := (7 : Int32)) hx hb dX8_fewest_17 (by decide) ?_
        refine lv_icmp_ne (tgt := 26) hx hb dX8_fewest_19 (by decide) (fun c11 => ?_) (fun c11 => ?_)
        · have hf := it_f hf c11
          refine lv_iconst (v := (2 : Int32)) hx hb dX8_fewest_26 (by decide) ?_
          exact hJ3 (2 : Int32) hf H locs hP hD hS _ (lv_sub hl [] rfl)
        · have hf := it_t hf c11
          exact hJ8 hf H locs hP hD hS _ (lv_sub hl [] rfl)
    · have hf := it_t hf c6
      refine lv_iconst (v := (3 : Int32)) hx hb dX8_fewest_6 (by decide) ?_
      refine lv_goto (tgt := 27) hx hb dX8_fewest_7 (by decide) ?_
      exact hJ3 (3 : Int32) hf H locs hP hD hS _ (lv_sub hl [] rfl)
  rw [hH, hlo] at hW
  exact hW
def f_X8_mostOf (x0 : Int32) : Option (Int32) :=
  jn (fun (t1 : Int32) => some (t1)) (fun k2 => if x0 = (8 : Int32) then k2 (3 : Int32) else jn (k2 (1 : Int32)) (fun k7 => if x0 = (6 : Int32) then k7 else if x0 = (7 : Int32) then k7 else k2 (4 : Int32)))
abbrev wsX8_mostOf : List Cond := .code yX8_mostOf cX8_mostOf 1 (some .int) :: UW
abbrev rmX8_mostOf : Room := { frames := 0, cells := 0, slots := 0, locals := 0 }
set_option maxHeartbeats 4000000 in
set_option maxRecDepth 100000 in
theorem c_X8_mostOf (l : Launch) (g : Gx) (x0 : Int32) (r : Int32) (hf : f_X8_mostOf x0 = some r) : CtI l yX8_mostOf wsX8_mostOf rmX8_mostOf g [.int x0] ([]) ([]) r 0 0 := by
  unfold CtI
  intro sz
  refine Met.ofW (cc := cX8_mostOf) (maxL := 1) (ret := (some .int)) (by decide) rfl ?_
  intro p e s m args below meth c s₁ B hml hv
  obtain ⟨rfl, hsz, hP, hK, hD0, hG⟩ := hv
  have hx := B.exec
  have hb := B.bytes
  have hr := B.returns
  have hts := atoms_spec (ws := wsX8_mostOf) B.pre
  have hown : s.vm.findClass RX8 = some m.cls := findClass_of_methodNamed B.named
  have hlocks := B.notSynchronized
  subst hsz
  have hD := hD0.self (sz := s.heap.size)
  generalize hAe : va_A ([]) s.heap.size = A at hD hG ⊢
  have hA : ∀ q : Nat, s.heap.size ≤ q → A q := fun q h => by rw [← hAe]; exact Or.inr h
  clear hAe hD0
  have hS : va_S A s.heap s.heap [] := va_S.rf
  have hl := lv_entry ([.int x0]) (n := 1) (Nat.le_of_ble_eq_true rfl)
  rw [lg_entry_eq]
  generalize (lg_sl ([.int x0]) ++ List.replicate (1 - (lg_sl ([.int x0])).length) Slot.unset).toArray = ls at hl ⊢
  have hl : lv_has ls 1 [(0, .int x0)] := hl
  have htu : ∀ w ∈ UW, w.before _ s = true := fun w h => hts w (List.mem_cons_of_mem _ h)
  unfold f_X8_mostOf at hf
  obtain ⟨H, hH⟩ : ∃ z, z = s.heap := ⟨_, rfl⟩
  obtain ⟨locs, hlo⟩ : ∃ z : List Loc, z = [] := ⟨_, rfl⟩
  have hS : va_S A s.heap H locs := by rw [hH, hlo]; exact hS
  rw [← hH] at hP
  have hW : W p l e (headSpec wsX8_mostOf rmX8_mostOf).room s m ([.int x0] : List Value).toArray below meth c H locs 0 0 (MQ below (qI g A ([]) r) ([.int x0] : List Value).toArray s 0 0 A) (F0 m 0 ls []) := by
    refine lv_iload_n hx hb dX8_mostOf_0 rfl (lv_at hl 0 rfl) ?_
    refine lv_bipush (v := (8 : Int32)) hx hb dX8_mostOf_1 (by decide) ?_
    obtain ⟨k2, hk5, hf⟩ := jn_at hf
    have hJ3 : ∀ (t1 : Int32), k2 t1 = some r → ∀ (H : Heap) (locs : List Loc), va_P g.1 vwCl ([]) H → va_D A ([]) → va_S A s.heap H locs → ∀ ls : Array Slot, lv_has ls 1 [] → W p l e (headSpec wsX8_mostOf rmX8_mostOf).room s m ([.int x0] : List Value).toArray below meth c H locs 0 0 (MQ below (qI g A ([]) r) ([.int x0] : List Value).toArray s 0 0 A) (F0 m 27 ls [.int t1]) := by
      intro t1 hf H locs hP hD hS ls hl
      rw [hk5] at hf
      dsimp only at hf
      clear hk5
      have e4 := Option.some.inj hf
      exact k_iret hx hb hr hlocks hK hP hD hS e4 dX8_mostOf_27
    refine lv_icmp_ne (tgt := 10) hx hb dX8_mostOf_3 (by decide) (fun c6 => ?_) (fun c6 => ?_)
    · have hf := it_f hf c6
      refine lv_iload_n hx hb dX8_mostOf_10 rfl (lv_at hl 0 rfl) ?_
      refine lv_bipush (v := (6 : Int32)) hx hb dX8_mostOf_11 (by decide) ?_
      obtain ⟨k7, hk9, hf⟩ := jn_at hf
      have hJ8 : k7 = some r → ∀ (H : Heap) (locs : List Loc), va_P g.1 vwCl ([]) H → va_D A ([]) → va_S A s.heap H locs → ∀ ls : Array Slot, lv_has ls 1 [] → W p l e (headSpec wsX8_mostOf rmX8_mostOf).room s m ([.int x0] : List Value).toArray below meth c H locs 0 0 (MQ below (qI g A ([]) r) ([.int x0] : List Value).toArray s 0 0 A) (F0 m 22 ls []) := by
        intro hf H locs hP hD hS ls hl
        rw [hk9] at hf
        clear hk9
        refine lv_iconst (v := (1 : Int32)) hx hb dX8_mostOf_22 (by decide) ?_
        refine lv_goto (tgt := 27) hx hb dX8_mostOf_23 (by decide) ?_
        exact hJ3 (1 : Int32) hf H locs hP hD hS _ (lv_sub hl [] rfl)
      refine lv_icmp_eq (tgt := 22) hx hb dX8_mostOf_13 (by decide) (fun c10 => ?_) (fun c10 => ?_)
      · have hf := it_t hf c10
        exact hJ8 hf H locs hP hD hS _ (lv_sub hl [] rfl)
      · have hf := it_f hf c10
        refine lv_iload_n hx hb dX8_mostOf_16 rfl (lv_at hl 0 rfl) ?_
        refine lv_bipush (v := (7 : Int32)) hx hb dX8_mostOf_17 (by decide) ?_
        refine lv_icmp_ne (tgt := 26) hx hb dX8_mostOf_19 (by decide) (fun c11 => ?_) (fun c11 => ?_)
        · have hf := it_f hf c11
          refine lv_iconst (v := (4 : Int32)) hx hb dX8_mostOf_26 (by decide) ?_
          exact hJ3 (4 : Int32) hf H locs hP hD hS _ (lv_sub hl [] rfl)
        · have hf := it_t hf c11
          exact hJ8 hf H locs hP hD hS _ (lv_sub hl [] rfl)
    · have hf := it_t hf c6
      refine lv_iconst (v := (3 : Int32)) hx hb dX8_mostOf_6 (by decide) ?_
      refine lv_goto (tgt := 27) hx hb dX8_mostOf_7 (by decide) ?_
      exact hJ3 (3 : Int32) hf H locs hP hD hS _ (lv_sub hl [] rfl)
  rw [hH, hlo] at hW
  exact hW
