def f_X8_cleans_L2 (self3 : Int32 → Vs → Option (Vs)) (x1_1 : Int32) (vM_2 : Vs) : Option (Vs) :=
  o1 (f_X8_wires vM_2) (fun (r6 : Int32) => if r6 ≤ x1_1 then some (vM_2) else o1 (f_X8_inputs vM_2) (fun (r10 : Int32) => jn (fun (t12 : Int32) => gd (inb x1_1 24) (bn (sI vM_2 7 (x1_1).toNatClampNeg t12) (fun (vM_16 : Vs) => self3 (x1_1 + (1 : Int32)) vM_16))) (fun k13 => if r10 ≤ x1_1 then o1 (f_X8_gate_clean vM_2 x1_1) (fun (r19 : Int32) => k13 r19) else gd (inb x1_1 8) (k13 (vM_2.2.1 6 (x1_1).toNatClampNeg)))))
def f_X8_cleans (vM : Vs) : Option (Vs) :=
  lp f_X8_cleans_L2 (fun _ _ => none) FU (0 : Int32) vM
abbrev wsX8_cleans : List Cond := .code yX8_cleans cX8_cleans 2 none :: UW
abbrev rmX8_cleans : Room := { frames := 3, cells := 0, slots := 0, locals := 70 }
set_option maxHeartbeats 4000000 in
set_option maxRecDepth 100000 in
theorem c_X8_cleans (l : Launch) (g : Gx) (bM : Nat → Nat) (vM : Vs) (vM1 : Vs) (hf : f_X8_cleans vM = some vM1) : CtV l yX8_cleans wsX8_cleans rmX8_cleans g [.ref (bM 0)] (cM g bM vM) (cM g bM vM1) 0 0 := by
  unfold CtV
  intro sz
  refine Met.ofW (cc := cX8_cleans) (maxL := 2) (ret := none) (by decide) rfl ?_
  intro p e s m args below meth c s₁ B hml hv
  obtain ⟨rfl, hsz, hP, hK, hD0, hG⟩ := hv
  have hx := B.exec
  have hb := B.bytes
  have hr := B.returns
  have hts := atoms_spec (ws := wsX8_cleans) B.pre
  have hown : s.vm.findClass RX8 = some m.cls := findClass_of_methodNamed B.named
  have hlocks := B.notSynchronized
  subst hsz
  have hD := hD0.self (sz := s.heap.size)
  generalize hAe : va_A (cM g bM vM) s.heap.size = A at hD hG ⊢
  have hA : ∀ q : Nat, s.heap.size ≤ q → A q := fun q h => by rw [← hAe]; exact Or.inr h
  clear hAe hD0
  have hS : va_S A s.heap s.heap [] := va_S.rf
  have hl := lv_entry ([.ref (bM 0)]) (n := 2) (Nat.le_of_ble_eq_true rfl)
  rw [lg_entry_eq]
  generalize (lg_sl ([.ref (bM 0)]) ++ List.replicate (2 - (lg_sl ([.ref (bM 0)])).length) Slot.unset).toArray = ls at hl ⊢
  have hl : lv_has ls 2 [(0, .ref (bM 0))] := hl
  have htu : ∀ w ∈ UW, w.before _ s = true := fun w h => hts w (List.mem_cons_of_mem _ h)
  have k_5_79 := htu _ mw_5_79
  have k_5_78 := htu _ mw_5_78
  unfold f_X8_cleans at hf
  obtain ⟨H, hH⟩ : ∃ z, z = s.heap := ⟨_, rfl⟩
  obtain ⟨locs, hlo⟩ : ∃ z : List Loc, z = [] := ⟨_, rfl⟩
  have hS : va_S A s.heap H locs := by rw [hH, hlo]; exact hS
  rw [← hH] at hP
  have hW : W p l e (headSpec wsX8_cleans rmX8_cleans).room s m ([.ref (bM 0)] : List Value).toArray below meth c H locs 0 0 (MQ below (qV g A (cM g bM vM1)) ([.ref (bM 0)] : List Value).toArray s 0 0 A) (F0 m 0 ls []) := by
    refine lv_iconst (v := (0 : Int32)) hx hb dX8_cleans_0 (by decide) ?_
    refine lv_istore_n (lv' := [(1, .int (0 : Int32)), (0, .ref (bM 0))]) hx hb dX8_cleans_1 rfl hl (by decide) rfl (fun ls hl => ?_)
    have hL4 : ∀ (x1_1 : Int32) (vM_2 : Vs), lp f_X8_cleans_L2 (fun _ _ => none) FU x1_1 vM_2 = some vM1 → ∀ (H : Heap) (locs : List Loc), va_P g.1 vwCl (cM g bM vM_2) H → va_D A (cM g bM vM_2) → va_S A s.heap H locs → ∀ ls : Array Slot, lv_has ls 2 [(0, .ref (bM 0)), (1, .int x1_1)] → W p l e (headSpec wsX8_cleans rmX8_cleans).room s m ([.ref (bM 0)] : List Value).toArray below meth c H locs 0 0 (MQ below (qV g A (cM g bM vM1)) ([.ref (bM 0)] : List Value).toArray s 0 0 A) (F0 m 2 ls []) := by
      refine lp_ind (T := Int32 → Vs → Option (Vs)) (fun self3 => ∀ (x1_1 : Int32) (vM_2 : Vs), self3 x1_1 vM_2 = some vM1 → ∀ (H : Heap) (locs : List Loc), va_P g.1 vwCl (cM g bM vM_2) H → va_D A (cM g bM vM_2) → va_S A s.heap H locs → ∀ ls : Array Slot, lv_has ls 2 [(0, .ref (bM 0)), (1, .int x1_1)] → W p l e (headSpec wsX8_cleans rmX8_cleans).room s m ([.ref (bM 0)] : List Value).toArray below meth c H locs 0 0 (MQ below (qV g A (cM g bM vM1)) ([.ref (bM 0)] : List Value).toArray s 0 0 A) (F0 m 2 ls [])) ?_ ?_ FU
      · intro x1_1 vM_2 hf; cases hf
      · intro self3 ih5 x1_1 vM_2 hf H locs hP hD hS ls hl
        unfold f_X8_cleans_L2 at hf
        refine lv_iload_n hx hb dX8_cleans_2 rfl (lv_at hl 1 rfl) ?_
        refine lv_aload_n hx hb dX8_cleans_3 rfl (lv_at hl 0 rfl) ?_
        obtain ⟨r6, hg7, hf⟩ := o1_at hf
        refine k_viW ⟨hx, hb, hml, hown, htu⟩ hK hP hD hS hA hG (c_X8_wires l g bM vM_2 r6 hg7) (cwV 0 htu (gU_V mw_6_24 hcX8_wires) rfl rfl rfl hdX8_wires ⟨Nat.le_of_ble_eq_true rfl, Nat.le_of_ble_eq_true rfl⟩) (q0 := 0) (ci := 8) (fs := fcM bM vM_2) (q := (RX8, TX8, 23)) rfl rfl rfl (As := []) (rest := [.int x1_1]) rfl rfl hl.1 (Nat.le_of_ble_eq_true rfl) dX8_cleans_4 (k1 := 0) (n1 := 0) rfl rfl ⟨Nat.zero_le _, Nat.zero_le _⟩ (fun H locs hP hD hS => ?_)
        refine lv_icmp_ge (tgt := 48) hx hb dX8_cleans_7 (by decide) (fun c8 => ?_) (fun c8 => ?_)
        · have hf := it_t hf c8
          have e9 := Option.some.inj hf
          rw [e9] at hP hD
          exact k_vret hx hb hr hlocks hK hP hD hS dX8_cleans_48
        · have hf := it_f hf c8
          refine lv_aload_n hx hb dX8_cleans_10 rfl (lv_at hl 0 rfl) ?_
          refine va_get (D := g.1) (ci := 8) (fs := fcM bM vM_2) (v := .ref (bM 8)) (C := RX8) (T := TX8) (N := 23) hx hb htu hinX8 hown hK hP 0 rfl rfl 7 (by decide) k_5_79 (fun _ h9 => h9) rfl dX8_cleans_11 ?_
          refine lv_iload_n hx hb dX8_cleans_14 rfl (lv_at hl 1 rfl) ?_
          refine lv_iload_n hx hb dX8_cleans_15 rfl (lv_at hl 1 rfl) ?_
          refine lv_aload_n hx hb dX8_cleans_16 rfl (lv_at hl 0 rfl) ?_
          obtain ⟨r10, hg11, hf⟩ := o1_at hf
          refine k_viW ⟨hx, hb, hml, hown, htu⟩ hK hP hD hS hA hG (c_X8_inputs l g bM vM_2 r10 hg11) (cwV 0 htu (gU_V mw_6_36 hcX8_inputs) rfl rfl rfl hdX8_inputs ⟨Nat.le_of_ble_eq_true rfl, Nat.le_of_ble_eq_true rfl⟩) (q0 := 0) (ci := 8) (fs := fcM bM vM_2) (q := (RX8, TX8, 23)) rfl rfl rfl (As := []) (rest := [.int x1_1, .int x1_1, .ref (bM 8)]) rfl rfl hl.1 (Nat.le_of_ble_eq_true rfl) dX8_cleans_17 (k1 := 0) (n1 := 0) rfl rfl ⟨Nat.zero_le _, Nat.zero_le _⟩ (fun H locs hP hD hS => ?_)
          obtain ⟨k13, hk17, hf⟩ := jn_at hf
          have hJ14 : ∀ (t12 : Int32), k13 t12 = some vM1 → ∀ (H : Heap) (locs : List Loc), va_P g.1 vwCl (cM g bM vM_2) H → va_D A (cM g bM vM_2) → va_S A s.heap H locs → ∀ ls : Array Slot, lv_has ls 2 [(0, .ref (bM 0)), (1, .int x1_1)] → W p l e (headSpec wsX8_cleans rmX8_cleans).room s m ([.ref (bM 0)] : List Value).toArray below meth c H locs 0 0 (MQ below (qV g A (cM g bM vM1)) ([.ref (bM 0)] : List Value).toArray s 0 0 A) (F0 m 41 ls [.int t12, .int x1_1, .ref (bM 8)]) := by
            intro t12 hf H locs hP hD hS ls hl
            rw [hk17] at hf
            dsimp only at hf
            clear hk17
            obtain ⟨h15, hf⟩ := gd_in hf
            refine va_iast (D := g.1) (f := (vM_2.2.1 7)) hx hb hK hP hD hS 5 0 rfl rfl h15 dX8_cleans_41 (fun H locs hP hD hS => ?_)
            obtain ⟨vM_16, evM_16⟩ : ∃ z, z = sI vM_2 7 (x1_1).toNatClampNeg t12 := ⟨_, rfl⟩
            have hf := bn_at hf evM_16
            have hP : va_P g.1 vwCl (cM g bM vM_16) H := by rw [evM_16]; exact hP
            have hD : va_D A (cM g bM vM_16) := by rw [evM_16]; exact hD
            refine lv_iinc (v := (x1_1 + (1 : Int32))) (lv' := [(1, .int (x1_1 + (1 : Int32))), (0, .ref (bM 0))]) hx hb dX8_cleans_42 hl (k := 1) rfl rfl (by decide) rfl (fun ls hl => ?_)
            refine lv_goto (tgt := 2) hx hb dX8_cleans_45 (by decide) ?_
            exact ih5 (x1_1 + (1 : Int32)) vM_16 hf H locs hP hD hS _ (lv_sub hl [1, 0] rfl)
          refine lv_icmp_ge (tgt := 32) hx hb dX8_cleans_20 (by decide) (fun c18 => ?_) (fun c18 => ?_)
          · have hf := it_t hf c18
            refine lv_aload_n hx hb dX8_cleans_32 rfl (lv_at hl 0 rfl) ?_
            refine lv_iload_n hx hb dX8_cleans_33 rfl (lv_at hl 1 rfl) ?_
            refine lv_aload_n hx hb dX8_cleans_34 rfl (lv_at hl 0 rfl) ?_
            refine va_get (D := g.1) (ci := 8) (fs := fcM bM vM_2) (v := .ref (bM 8)) (C := RX8) (T := TX8) (N := 23) hx hb htu hinX8 hown hK hP 0 rfl rfl 7 (by decide) k_5_79 (fun _ h9 => h9) rfl dX8_cleans_35 ?_
            obtain ⟨r19, hg20, hf⟩ := o1_at hf
            refine k_viW ⟨hx, hb, hml, hown, htu⟩ hK hP hD hS hA hG (c_X8_gate_clean l g bM vM_2 x1_1 r19 hg20) (cwV 2 htu (gU_V mw_6_76 hcX8_gate) rfl rfl rfl hdX8_gate ⟨Nat.le_of_ble_eq_true rfl, Nat.le_of_ble_eq_true rfl⟩) (q0 := 0) (ci := 8) (fs := fcM bM vM_2) (q := (RX8, TX8, 23)) rfl rfl rfl (As := [.int x1_1, .ref (bM 8)]) (rest := [.int x1_1, .ref (bM 8)]) rfl rfl hl.1 (Nat.le_of_ble_eq_true rfl) dX8_cleans_38 (k1 := 0) (n1 := 0) rfl rfl ⟨Nat.zero_le _, Nat.zero_le _⟩ (fun H locs hP hD hS => ?_)
            exact hJ14 r19 hf H locs hP hD hS _ (lv_sub hl [0, 1] rfl)
          · have hf := it_f hf c18
            refine lv_aload_n hx hb dX8_cleans_23 rfl (lv_at hl 0 rfl) ?_
            refine va_get (D := g.1) (ci := 8) (fs := fcM bM vM_2) (v := .ref (bM 7)) (C := RX8) (T := TX8) (N := 23) hx hb htu hinX8 hown hK hP 0 rfl rfl 6 (by decide) k_5_78 (fun _ h9 => h9) rfl dX8_cleans_24 ?_
            refine lv_iload_n hx hb dX8_cleans_27 rfl (lv_at hl 1 rfl) ?_
            obtain ⟨h21, hf⟩ := gd_in hf
            refine va_iald (D := g.1) (f := (vM_2.2.1 6)) hx hb hK hP 4 0 rfl rfl h21 dX8_cleans_28 ?_
            refine lv_goto (tgt := 41) hx hb dX8_cleans_29 (by decide) ?_
            exact hJ14 (vM_2.2.1 6 (x1_1).toNatClampNeg) hf H locs hP hD hS _ (lv_sub hl [0, 1] rfl)
    exact hL4 (0 : Int32) vM hf H locs hP hD hS _ (lv_sub hl [1, 0] rfl)
  rw [hH, hlo] at hW
  exact hW
def f_X8_bends_L84 (x1 : Int32) (r1 : Int32) (t5 : Int32) (t8 : Int32) (self13 : Int32 → Vs → Option (Vs)) (x5_11 : Int32) (vM_12 : Vs) : Option (Vs) :=
  o1 (f_X8_wires vM_12) (fun (r16 : Int32) => if r16 ≤ x5_11 then some (vM_12) else o1 (f_X8_inputs vM_12) (fun (r20 : Int32) => jn (fun (t22 : Int32) => gd (inb x5_11 24) (bn (sI vM_12 8 (x5_11).toNatClampNeg t22) (fun (vM_26 : Vs) => jn (fun (vM_27 : Vs) => jn (fun (vM_30 : Vs) => self13 (x5_11 + (1 : Int32)) vM_30) (fun k31 => if t5 = 0 then if x1 < 0 then k31 vM_27 else gd (nz (2 : Int32)) (if (x1 / (2 : Int32)) = x5_11 then gd (nz (2 : Int32)) (gd (inb x5_11 24) (bn (sI vM_27 8 (x5_11).toNatClampNeg (x1 - x1 / (2 : Int32) * (2 : Int32))) (fun (vM_40 : Vs) => k31 vM_40))) else k31 vM_27) else k31 vM_27)) (fun k28 => if t5 = 0 then k28 vM_26 else o1 (f_X8_get vM_26 (((158 : Int32) + ((3 : Int32) * (x1 - ((2 : Int32) * r1)))) + (1 : Int32))) (fun (r43 : Int32) => jn (gd (inb x5_11 24) (bn (sI vM_26 8 (x5_11).toNatClampNeg t8) (fun (vM_48 : Vs) => k28 vM_48))) (fun k45 => if x5_11 = r43 then k45 else o1 (f_X8_get vM_26 (((158 : Int32) + ((3 : Int32) * (x1 - ((2 : Int32) * r1)))) + (2 : Int32))) (fun (r51 : Int32) => if x5_11 = r51 then k45 else k28 vM_26))))))) (fun k23 => if r20 ≤ x5_11 then o1 (f_X8_gate_bent vM_12 x5_11) (fun (r56 : Int32) => k23 r56) else gd (inb x5_11 8) (k23 (vM_12.2.1 6 (x5_11).toNatClampNeg)))))
def f_X8_bends (vM : Vs) (x1 : Int32) : Option (Vs) :=
  o1 (f_X8_wires vM) (fun (r1 : Int32) => o1 (f_X8_wires vM) (fun (r3 : Int32) => jn (fun (t5 : Int32) => jn (fun (t8 : Int32) => lp (f_X8_bends_L84 x1 r1 t5 t8) (fun _ _ => none) FU (0 : Int32) vM) (fun k9 => if t5 = 0 then k9 (-1 : Int32) else o1 (f_X8_get vM (((158 : Int32) + ((3 : Int32) * (x1 - ((2 : Int32) * r1)))) + (1 : Int32))) (fun (r61 : Int32) => gd (inb r61 24) (o1 (f_X8_get vM (((158 : Int32) + ((3 : Int32) * (x1 - ((2 : Int32) * r1)))) + (2 : Int32))) (fun (r64 : Int32) => gd (inb r64 24) (o1 (f_X8_get vM ((158 : Int32) + ((3 : Int32) * (x1 - ((2 : Int32) * r1))))) (fun (r67 : Int32) => jn (fun (t69 : Int32) => o1 (f_X8_decided (vM.2.1 7 (r61).toNatClampNeg) (vM.2.1 7 (r64).toNatClampNeg) t69) (fun (r72 : Int32) => k9 r72)) (fun k70 => if r67 = 0 then k70 (0 : Int32) else k70 (1 : Int32))))))))) (fun k6 => if x1 < ((2 : Int32) * r3) then k6 (0 : Int32) else k6 (1 : Int32))))
abbrev wsX8_bends : List Cond := .code yX8_bends cX8_bends 6 none :: UW
abbrev rmX8_bends : Room := { frames := 3, cells := 0, slots := 0, locals := 70 }
set_option maxHeartbeats 4000000 in
set_option maxRecDepth 100000 in
theorem c_X8_bends (l : Launch) (g : Gx) (bM : Nat → Nat) (vM : Vs) (x1 : Int32) (vM1 : Vs) (hf : f_X8_bends vM x1 = some vM1) : CtV l yX8_bends wsX8_bends rmX8_bends g [.ref (bM 0), .int x1] (cM g bM vM) (cM g bM vM1) 0 0 := by
  unfold CtV
  intro sz
  refine Met.ofW (cc := cX8_bends) (maxL := 6) (ret := none) (by decide) rfl ?_
  intro p e s m args below meth c s₁ B hml hv
  obtain ⟨rfl, hsz, hP, hK, hD0, hG⟩ := hv
  have hx := B.exec
  have hb := B.bytes
  have hr := B.returns
  have hts := atoms_spec (ws := wsX8_bends) B.pre
  have hown : s.vm.findClass RX8 = some m.cls := findClass_of_methodNamed B.named
  have hlocks := B.notSynchronized
  subst hsz
  have hD := hD0.self (sz := s.heap.size)
  generalize hAe : va_A (cM g bM vM) s.heap.size = A at hD hG ⊢
  have hA : ∀ q : Nat, s.heap.size ≤ q → A q := fun q h => by rw [← hAe]; exact Or.inr h
  clear hAe hD0
  have hS : va_S A s.heap s.heap [] := va_S.rf
  have hl := lv_entry ([.ref (bM 0), .int x1]) (n := 6) (Nat.le_of_ble_eq_true rfl)
  rw [lg_entry_eq]
  generalize (lg_sl ([.ref (bM 0), .int x1]) ++ List.replicate (6 - (lg_sl ([.ref (bM 0), .int x1])).length) Slot.unset).toArray = ls at hl ⊢
  have hl : lv_has ls 6 [(0, .ref (bM 0)), (1, .int x1)] := hl
  have htu : ∀ w ∈ UW, w.before _ s = true := fun w h => hts w (List.mem_cons_of_mem _ h)
  have k_5_80 := htu _ mw_5_80
  have k_5_78 := htu _ mw_5_78
  have k_5_79 := htu _ mw_5_79
  unfold f_X8_bends at hf
  obtain ⟨H, hH⟩ : ∃ z, z = s.heap := ⟨_, rfl⟩
  obtain ⟨locs, hlo⟩ : ∃ z : List Loc, z = [] := ⟨_, rfl⟩
  have hS : va_S A s.heap H locs := by rw [hH, hlo]; exact hS
  rw [← hH] at hP
  have hW : W p l e (headSpec wsX8_bends rmX8_bends).room s m ([.ref (bM 0), .int x1] : List Value).toArray below meth c H locs 0 0 (MQ below (qV g A (cM g bM vM1)) ([.ref (bM 0), .int x1] : List Value).toArray s 0 0 A) (F0 m 0 ls []) := by
    refine lv_sipush (v := (158 : Int32)) hx hb dX8_bends_0 (by decide) ?_
    refine lv_iconst (v := (3 : Int32)) hx hb dX8_bends_3 (by decide) ?_
    refine lv_iload_n hx hb dX8_bends_4 rfl (lv_at hl 1 rfl) ?_
    refine lv_iconst (v := (2 : Int32)) hx hb dX8_bends_5 (by decide) ?_
    refine lv_aload_n hx hb dX8_bends_6 rfl (lv_at hl 0 rfl) ?_
    obtain ⟨r1, hg2, hf⟩ := o1_at hf
    refine k_viW ⟨hx, hb, hml, hown, htu⟩ hK hP hD hS hA hG (c_X8_wires l g bM vM r1 hg2) (cwV 0 htu (gU_V mw_6_24 hcX8_wires) rfl rfl rfl hdX8_wires ⟨Nat.le_of_ble_eq_true rfl, Nat.le_of_ble_eq_true rfl⟩) (q0 := 0) (ci := 8) (fs := fcM bM vM) (q := (RX8, TX8, 23)) rfl rfl rfl (As := []) (rest := [.int (2 : Int32), .int x1, .int (3 : Int32), .int (158 : Int32)]) rfl rfl hl.1 (Nat.le_of_ble_eq_true rfl) dX8_bends_7 (k1 := 0) (n1 := 0) rfl rfl ⟨Nat.zero_le _, Nat.zero_le _⟩ (fun H locs hP hD hS => ?_)
    refine lv_imul hx hb dX8_bends_10 ?_
    refine lv_isub hx hb dX8_bends_11 ?_
    refine lv_imul hx hb dX8_bends_12 ?_
    refine lv_iadd hx hb dX8_bends_13 ?_
    refine lv_istore_n (lv' := [(2, .int ((158 : Int32) + ((3 : Int32) * (x1 - ((2 : Int32) * r1))))), (0, .ref (bM 0)), (1, .int x1)]) hx hb dX8_bends_14 rfl hl (by decide) rfl (fun ls hl => ?_)
    refine lv_iload_n hx hb dX8_bends_15 rfl (lv_at hl 2 rfl) ?_
    refine lv_iconst (v := (2 : Int32)) hx hb dX8_bends_16 (by decide) ?_
    refine lv_aload_n hx hb dX8_bends_17 rfl (lv_at hl 1 rfl) ?_
    obtain ⟨r3, hg4, hf⟩ := o1_at hf
    refine k_viW ⟨hx, hb, hml, hown, htu⟩ hK hP hD hS hA hG (c_X8_wires l g bM vM r3 hg4) (cwV 0 htu (gU_V mw_6_24 hcX8_wires) rfl rfl rfl hdX8_wires ⟨Nat.le_of_ble_eq_true rfl, Nat.le_of_ble_eq_true rfl⟩) (q0 := 0) (ci := 8) (fs := fcM bM vM) (q := (RX8, TX8, 23)) rfl rfl rfl (As := []) (rest := [.int (2 : Int32), .int x1]) rfl rfl hl.1 (Nat.le_of_ble_eq_true rfl) dX8_bends_18 (k1 := 0) (n1 := 0) rfl rfl ⟨Nat.zero_le _, Nat.zero_le _⟩ (fun H locs hP hD hS => ?_)
    refine lv_imul hx hb dX8_bends_21 ?_
    obtain ⟨k6, hk76, hf⟩ := jn_at hf
    have hJ7 : ∀ (t5 : Int32), k6 t5 = some vM1 → ∀ (H : Heap) (locs : List Loc), va_P g.1 vwCl (cM g bM vM) H → va_D A (cM g bM vM) → va_S A s.heap H locs → ∀ ls : Array Slot, lv_has ls 6 [(0, .ref (bM 0)), (1, .int x1), (2, .int ((158 : Int32) + ((3 : Int32) * (x1 - ((2 : Int32) * r1)))))] → W p l e (headSpec wsX8_bends rmX8_bends).room s m ([.ref (bM 0), .int x1] : List Value).toArray below meth c H locs 0 0 (MQ below (qV g A (cM g bM vM1)) ([.ref (bM 0), .int x1] : List Value).toArray s 0 0 A) (F0 m 30 ls [.int t5]) := by
      intro t5 hf H locs hP hD hS ls hl
      rw [hk76] at hf
      dsimp only at hf
      clear hk76
      refine lv_istore_n (lv' := [(3, .int t5), (0, .ref (bM 0)), (1, .int x1), (2, .int ((158 : Int32) + ((3 : Int32) * (x1 - ((2 : Int32) * r1)))))]) hx hb dX8_bends_30 rfl hl (by decide) rfl (fun ls hl => ?_)
      refine lv_iload_n hx hb dX8_bends_31 rfl (lv_at hl 0 rfl) ?_
      obtain ⟨k9, hk59, hf⟩ := jn_at hf
      have hJ10 : ∀ (t8 : Int32), k9 t8 = some vM1 → ∀ (H : Heap) (locs : List Loc), va_P g.1 vwCl (cM g bM vM) H → va_D A (cM g bM vM) → va_S A s.heap H locs → ∀ ls : Array Slot, lv_has ls 6 [(0, .ref (bM 0)), (1, .int x1), (2, .int ((158 : Int32) + ((3 : Int32) * (x1 - ((2 : Int32) * r1))))), (3, .int t5)] → W p l e (headSpec wsX8_bends rmX8_bends).room s m ([.ref (bM 0), .int x1] : List Value).toArray below meth c H locs 0 0 (MQ below (qV g A (cM g bM vM1)) ([.ref (bM 0), .int x1] : List Value).toArray s 0 0 A) (F0 m 79 ls [.int t8]) := by
        intro t8 hf H locs hP hD hS ls hl
        rw [hk59] at hf
        dsimp only at hf
        clear hk59
        refine lv_istore (lv' := [(4, .int t8), (0, .ref (bM 0)), (1, .int x1), (2, .int ((158 : Int32) + ((3 : Int32) * (x1 - ((2 : Int32) * r1))))), (3, .int t5)]) hx hb dX8_bends_79 hl (by decide) rfl (fun ls hl => ?_)
        refine lv_iconst (v := (0 : Int32)) hx hb dX8_bends_81 (by decide) ?_
        refine lv_istore (lv' := [(5, .int (0 : Int32)), (4, .int t8), (0, .ref (bM 0)), (1, .int x1), (2, .int ((158 : Int32) + ((3 : Int32) * (x1 - ((2 : Int32) * r1))))), (3, .int t5)]) hx hb dX8_bends_82 hl (by decide) rfl (fun ls hl => ?_)
        have hL14 : ∀ (x5_11 : Int32) (vM_12 : Vs), lp (f_X8_bends_L84 x1 r1 t5 t8) (fun _ _ => none) FU x5_11 vM_12 = some vM1 → ∀ (H : Heap) (locs : List Loc), va_P g.1 vwCl (cM g bM vM_12) H → va_D A (cM g bM vM_12) → va_S A s.heap H locs → ∀ ls : Array Slot, lv_has ls 6 [(0, .ref (bM 0)), (1, .int x1), (2, .int ((158 : Int32) + ((3 : Int32) * (x1 - ((2 : Int32) * r1))))), (3, .int t5), (4, .int t8), (5, .int x5_11)] → W p l e (headSpec wsX8_bends rmX8_bends).room s m ([.ref (bM 0), .int x1] : List Value).toArray below meth c H locs 0 0 (MQ below (qV g A (cM g bM vM1)) ([.ref (bM 0), .int x1] : List Value).toArray s 0 0 A) (F0 m 84 ls []) := by
          refine lp_ind (T := Int32 → Vs → Option (Vs)) (fun self13 => ∀ (x5_11 : Int32) (vM_12 : Vs), self13 x5_11 vM_12 = some vM1 → ∀ (H : Heap) (locs : List Loc), va_P g.1 vwCl (cM g bM vM_12) H → va_D A (cM g bM vM_12) → va_S A s.heap H locs → ∀ ls : Array Slot, lv_has ls 6 [(0, .ref (bM 0)), (1, .int x1), (2, .int ((158 : Int32) + ((3 : Int32) * (x1 - ((2 : Int32) * r1))))), (3, .int t5), (4, .int t8), (5, .int x5_11)] → W p l e (headSpec wsX8_bends rmX8_bends).room s m ([.ref (bM 0), .int x1] : List Value).toArray below meth c H locs 0 0 (MQ below (qV g A (cM g bM vM1)) ([.ref (bM 0), .int x1] : List Value).toArray s 0 0 A) (F0 m 84 ls [])) ?_ ?_ FU
          · intro x5_11 vM_12 hf; cases hf
          · intro self13 ih15 x5_11 vM_12 hf H locs hP hD hS ls hl
            unfold f_X8_bends_L84 at hf
            refine lv_iload hx hb dX8_bends_84 (lv_at hl 5 rfl) ?_
            refine lv_aload_n hx hb dX8_bends_86 rfl (lv_at hl 0 rfl) ?_
            obtain ⟨r16, hg17, hf⟩ := o1_at hf
            refine k_viW ⟨hx, hb, hml, hown, htu⟩ hK hP hD hS hA hG (c_X8_wires l g bM vM_12 r16 hg17) (cwV 0 htu (gU_V mw_6_24 hcX8_wires) rfl rfl rfl hdX8_wires ⟨Nat.le_of_ble_eq_true rfl, Nat.le_of_ble_eq_true rfl⟩) (q0 := 0) (ci := 8) (fs := fcM bM vM_12) (q := (RX8, TX8, 23)) rfl rfl rfl (As := []) (rest := [.int x5_11]) rfl rfl hl.1 (Nat.le_of_ble_eq_true rfl) dX8_bends_87 (k1 := 0) (n1 := 0) rfl rfl ⟨Nat.zero_le _, Nat.zero_le _⟩ (fun H locs hP hD hS => ?_)
            refine lv_icmp_ge (tgt := 198) hx hb dX8_bends_90 (by decide) (fun c18 => ?_) (fun c18 => ?_)
            · have hf := it_t hf c18
              have e19 := Option.some.inj hf
              rw [e19] at hP hD
              exact k_vret hx hb hr hlocks hK hP hD hS dX8_bends_198
            · have hf := it_f hf c18
              refine lv_aload_n hx hb dX8_bends_93 rfl (lv_at hl 0 rfl) ?_
              refine va_get (D := g.1) (ci := 8) (fs := fcM bM vM_12) (v := .ref (bM 9)) (C := RX8) (T := TX8) (N := 23) hx hb htu hinX8 hown hK hP 0 rfl rfl 8 (by decide) k_5_80 (fun _ h9 => h9) rfl dX8_bends_94 ?_
              refine lv_iload hx hb dX8_bends_97 (lv_at hl 5 rfl) ?_
              refine lv_iload hx hb dX8_bends_99 (lv_at hl 5 rfl) ?_
              refine lv_aload_n hx hb dX8_bends_101 rfl (lv_at hl 0 rfl) ?_
              obtain ⟨r20, hg21, hf⟩ := o1_at hf
              refine k_viW ⟨hx, hb, hml, hown, htu⟩ hK hP hD hS hA hG (c_X8_inputs l g bM vM_12 r20 hg21) (cwV 0 htu (gU_V mw_6_36 hcX8_inputs) rfl rfl rfl hdX8_inputs ⟨Nat.le_of_ble_eq_true rfl, Nat.le_of_ble_eq_true rfl⟩) (q0 := 0) (ci := 8) (fs := fcM bM vM_12) (q := (RX8, TX8, 23)) rfl rfl rfl (As := []) (rest := [.int x5_11, .int x5_11, .ref (bM 9)]) rfl rfl hl.1 (Nat.le_of_ble_eq_true rfl) dX8_bends_102 (k1 := 0) (n1 := 0) rfl rfl ⟨Nat.zero_le _, Nat.zero_le _⟩ (fun H locs hP hD hS => ?_)
              obtain ⟨k23, hk54, hf⟩ := jn_at hf
              have hJ24 : ∀ (t22 : Int32), k23 t22 = some vM1 → ∀ (H : Heap) (locs : List Loc), va_P g.1 vwCl (cM g bM vM_12) H → va_D A (cM g bM vM_12) → va_S A s.heap H locs → ∀ ls : Array Slot, lv_has ls 6 [(0, .ref (bM 0)), (1, .int x1), (2, .int ((158 : Int32) + ((3 : Int32) * (x1 - ((2 : Int32) * r1))))), (3, .int t5), (4, .int t8), (5, .int x5_11)] → W p l e (headSpec wsX8_bends rmX8_bends).room s m ([.ref (bM 0), .int x1] : List Value).toArray below meth c H locs 0 0 (MQ below (qV g A (cM g bM vM1)) ([.ref (bM 0), .int x1] : List Value).toArray s 0 0 A) (F0 m 128 ls [.int t22, .int x5_11, .ref (bM 9)]) := by
                intro t22 hf H locs hP hD hS ls hl
                rw [hk54] at hf
                dsimp only at hf
                clear hk54
                obtain ⟨h25, hf⟩ := gd_in hf
                refine va_iast (D := g.1) (f := (vM_12.2.1 8)) hx hb hK hP hD hS 6 0 rfl rfl h25 dX8_bends_128 (fun H locs hP hD hS => ?_)
                obtain ⟨vM_26, evM_26⟩ : ∃ z, z = sI vM_12 8 (x5_11).toNatClampNeg t22 := ⟨_, rfl⟩
                have hf := bn_at hf evM_26
                have hP : va_P g.1 vwCl (cM g bM vM_26) H := by rw [evM_26]; exact hP
                have hD : va_D A (cM g bM vM_26) := by rw [evM_26]; exact hD
                refine lv_iload_n hx hb dX8_bends_129 rfl (lv_at hl 3 rfl) ?_
                obtain ⟨k28, hk41, hf⟩ := jn_at hf
                have hJ29 : ∀ (vM_27 : Vs), k28 vM_27 = some vM1 → ∀ (H : Heap) (locs : List Loc), va_P g.1 vwCl (cM g bM vM_27) H → va_D A (cM g bM vM_27) → va_S A s.heap H locs → ∀ ls : Array Slot, lv_has ls 6 [(0, .ref (bM 0)), (1, .int x1), (2, .int ((158 : Int32) + ((3 : Int32) * (x1 - ((2 : Int32) * r1))))), (3, .int t5), (4, .int t8), (5, .int x5_11)] → W p l e (headSpec wsX8_bends rmX8_bends).room s m ([.ref (bM 0), .int x1] : List Value).toArray below meth c H locs 0 0 (MQ below (qV g A (cM g bM vM1)) ([.ref (bM 0), .int x1] : List Value).toArray s 0 0 A) (F0 m 166 ls []) := by
                  intro vM_27 hf H locs hP hD hS ls hl
                  rw [hk41] at hf
                  dsimp only at hf
                  clear hk41
                  refine lv_iload_n hx hb dX8_bends_166 rfl (lv_at hl 3 rfl) ?_
                  obtain ⟨k31, hk33, hf⟩ := jn_at hf
                  have hJ32 : ∀ (vM_30 : Vs), k31 vM_30 = some vM1 → ∀ (H : Heap) (locs : List Loc), va_P g.1 vwCl (cM g bM vM_30) H → va_D A (cM g bM vM_30) → va_S A s.heap H locs → ∀ ls : Array Slot, lv_has ls 6 [(0, .ref (bM 0)), (1, .int x1), (2, .int ((158 : Int32) + ((3 : Int32) * (x1 - ((2 : Int32) * r1))))), (3, .int t5), (4, .int t8), (5, .int x5_11)] → W p l e (headSpec wsX8_bends rmX8_bends).room s m ([.ref (bM 0), .int x1] : List Value).toArray below meth c H locs 0 0 (MQ below (qV g A (cM g bM vM1)) ([.ref (bM 0), .int x1] : List Value).toArray s 0 0 A) (F0 m 192 ls []) := by
                    intro vM_30 hf H locs hP hD hS ls hl
                    rw [hk33] at hf
                    dsimp only at hf
                    clear hk33
                    refine lv_iinc (v := (x5_11 + (1 : Int32))) (lv' := [(5, .int (x5_11 + (1 : Int32))), (0, .ref (bM 0)), (1, .int x1), (2, .int ((158 : Int32) + ((3 : Int32) * (x1 - ((2 : Int32) * r1))))), (3, .int t5), (4, .int t8)]) hx hb dX8_bends_192 hl (k := 5) rfl rfl (by decide) rfl (fun ls hl => ?_)
                    refine lv_goto (tgt := 84) hx hb dX8_bends_195 (by decide) ?_
                    exact ih15 (x5_11 + (1 : Int32)) vM_30 hf H locs hP hD hS _ (lv_sub hl [1, 2, 3, 4, 5, 0] rfl)
                  refine lv_if_ne (tgt := 192) hx hb dX8_bends_167 (by decide) (fun c34 => ?_) (fun c34 => ?_)
                  · have hf := it_f hf c34
                    exact hJ32 vM_27 hf H locs hP hD hS _ (lv_sub hl [0, 1, 2, 3, 4, 5] rfl)
                  · have hf := it_t hf c34
                    refine lv_iload_n hx hb dX8_bends_170 rfl (lv_at hl 1 rfl) ?_
                    refine lv_if_lt (tgt := 192) hx hb dX8_bends_171 (by decide) (fun c35 => ?_) (fun c35 => ?_)
                    · have hf := it_t hf c35
                      exact hJ32 vM_27 hf H locs hP hD hS _ (lv_sub hl [0, 1, 2, 3, 4, 5] rfl)
                    · have hf := it_f hf c35
                      refine lv_iload_n hx hb dX8_bends_174 rfl (lv_at hl 1 rfl) ?_
                      refine lv_iconst (v := (2 : Int32)) hx hb dX8_bends_175 (by decide) ?_
                      obtain ⟨h36, hf⟩ := gd_nz hf
                      refine lv_idiv hx hb dX8_bends_176 h36 ?_
                      refine lv_iload hx hb dX8_bends_177 (lv_at hl 5 rfl) ?_
                      refine lv_icmp_ne (tgt := 192) hx hb dX8_bends_179 (by decide) (fun c37 => ?_) (fun c37 => ?_)
                      · have hf := it_f hf c37
                        exact hJ32 vM_27 hf H locs hP hD hS _ (lv_sub hl [0, 1, 2, 3, 4, 5] rfl)
                      · have hf := it_t hf c37
                        refine lv_aload_n hx hb dX8_bends_182 rfl (lv_at hl 0 rfl) ?_
                        refine va_get (D := g.1) (ci := 8) (fs := fcM bM vM_27) (v := .ref (bM 9)) (C := RX8) (T := TX8) (N := 23) hx hb htu hinX8 hown hK hP 0 rfl rfl 8 (by decide) k_5_80 (fun _ h9 => h9) rfl dX8_bends_183 ?_
                        refine lv_iload hx hb dX8_bends_186 (lv_at hl 5 rfl) ?_
                        refine lv_iload_n hx hb dX8_bends_188 rfl (lv_at hl 1 rfl) ?_
                        refine lv_iconst (v := (2 : Int32)) hx hb dX8_bends_189 (by decide) ?_
                        obtain ⟨h38, hf⟩ := gd_nz hf
                        refine lv_irem hx hb dX8_bends_190 h38 ?_
                        obtain ⟨h39, hf⟩ := gd_in hf
                        refine va_iast (D := g.1) (f := (vM_27.2.1 8)) hx hb hK hP hD hS 6 0 rfl rfl h39 dX8_bends_191 (fun H locs hP hD hS => ?_)
                        obtain ⟨vM_40, evM_40⟩ : ∃ z, z = sI vM_27 8 (x5_11).toNatClampNeg (x1 - x1 / (2 : Int32) * (2 : Int32)) := ⟨_, rfl⟩
                        have hf := bn_at hf evM_40
                        have hP : va_P g.1 vwCl (cM g bM vM_40) H := by rw [evM_40]; exact hP
                        have hD : va_D A (cM g bM vM_40) := by rw [evM_40]; exact hD
                        exact hJ32 vM_40 hf H locs hP hD hS _ (lv_sub hl [0, 1, 2, 3, 4, 5] rfl)
                refine lv_if_eq (tgt := 166) hx hb dX8_bends_130 (by decide) (fun c42 => ?_) (fun c42 => ?_)
                · have hf := it_t hf c42
                  exact hJ29 vM_26 hf H locs hP hD hS _ (lv_sub hl [0, 1, 2, 3, 4, 5] rfl)
                · have hf := it_f hf c42
                  refine lv_iload hx hb dX8_bends_133 (lv_at hl 5 rfl) ?_
                  refine lv_aload_n hx hb dX8_bends_135 rfl (lv_at hl 0 rfl) ?_
                  refine lv_iload_n hx hb dX8_bends_136 rfl (lv_at hl 2 rfl) ?_
                  refine lv_iconst (v := (1 : Int32)) hx hb dX8_bends_137 (by decide) ?_
                  refine lv_iadd hx hb dX8_bends_138 ?_
                  obtain ⟨r43, hg44, hf⟩ := o1_at hf
                  refine k_viW ⟨hx, hb, hml, hown, htu⟩ hK hP hD hS hA hG (c_X8_get l g bM vM_26 (((158 : Int32) + ((3 : Int32) * (x1 - ((2 : Int32) * r1)))) + (1 : Int32)) r43 hg44) (cwV 1 htu (gU_V mw_6_20 hcX8_get) rfl rfl rfl hdX8_get ⟨Nat.le_of_ble_eq_true rfl, Nat.le_of_ble_eq_true rfl⟩) (q0 := 0) (ci := 8) (fs := fcM bM vM_26) (q := (RX8, TX8, 23)) rfl rfl rfl (As := [.int (((158 : Int32) + ((3 : Int32) * (x1 - ((2 : Int32) * r1)))) + (1 : Int32))]) (rest := [.int x5_11]) rfl rfl hl.1 (Nat.le_of_ble_eq_true rfl) dX8_bends_139 (k1 := 0) (n1 := 0) rfl rfl ⟨Nat.zero_le _, Nat.zero_le _⟩ (fun H locs hP hD hS => ?_)
                  obtain ⟨k45, hk49, hf⟩ := jn_at hf
                  have hJ46 : k45 = some vM1 → ∀ (H : Heap) (locs : List Loc), va_P g.1 vwCl (cM g bM vM_26) H → va_D A (cM g bM vM_26) → va_S A s.heap H locs → ∀ ls : Array Slot, lv_has ls 6 [(0, .ref (bM 0)), (1, .int x1), (2, .int ((158 : Int32) + ((3 : Int32) * (x1 - ((2 : Int32) * r1))))), (3, .int t5), (4, .int t8), (5, .int x5_11)] → W p l e (headSpec wsX8_bends rmX8_bends).room s m ([.ref (bM 0), .int x1] : List Value).toArray below meth c H locs 0 0 (MQ below (qV g A (cM g bM vM1)) ([.ref (bM 0), .int x1] : List Value).toArray s 0 0 A) (F0 m 157 ls []) := by
                    intro hf H locs hP hD hS ls hl
                    rw [hk49] at hf
                    clear hk49
                    refine lv_aload_n hx hb dX8_bends_157 rfl (lv_at hl 0 rfl) ?_
                    refine va_get (D := g.1) (ci := 8) (fs := fcM bM vM_26) (v := .ref (bM 9)) (C := RX8) (T := TX8) (N := 23) hx hb htu hinX8 hown hK hP 0 rfl rfl 8 (by decide) k_5_80 (fun _ h9 => h9) rfl dX8_bends_158 ?_
                    refine lv_iload hx hb dX8_bends_161 (lv_at hl 5 rfl) ?_
                    refine lv_iload hx hb dX8_bends_163 (lv_at hl 4 rfl) ?_
                    obtain ⟨h47, hf⟩ := gd_in hf
                    refine va_iast (D := g.1) (f := (vM_26.2.1 8)) hx hb hK hP hD hS 6 0 rfl rfl h47 dX8_bends_165 (fun H locs hP hD hS => ?_)
                    obtain ⟨vM_48, evM_48⟩ : ∃ z, z = sI vM_26 8 (x5_11).toNatClampNeg t8 := ⟨_, rfl⟩
                    have hf := bn_at hf evM_48
                    have hP : va_P g.1 vwCl (cM g bM vM_48) H := by rw [evM_48]; exact hP
                    have hD : va_D A (cM g bM vM_48) := by rw [evM_48]; exact hD
                    exact hJ29 vM_48 hf H locs hP hD hS _ (lv_sub hl [0, 1, 2, 3, 4, 5] rfl)
                  refine lv_icmp_eq (tgt := 157) hx hb dX8_bends_142 (by decide) (fun c50 => ?_) (fun c50 => ?_)
                  · have hf := it_t hf c50
                    exact hJ46 hf H locs hP hD hS _ (lv_sub hl [0, 1, 2, 3, 4, 5] rfl)
                  · have hf := it_f hf c50
                    refine lv_iload hx hb dX8_bends_145 (lv_at hl 5 rfl) ?_
                    refine lv_aload_n hx hb dX8_bends_147 rfl (lv_at hl 0 rfl) ?_
                    refine lv_iload_n hx hb dX8_bends_148 rfl (lv_at hl 2 rfl) ?_
                    refine lv_iconst (v := (2 : Int32)) hx hb dX8_bends_149 (by decide) ?_
                    refine lv_iadd hx hb dX8_bends_150 ?_
                    obtain ⟨r51, hg52, hf⟩ := o1_at hf
                    refine k_viW ⟨hx, hb, hml, hown, htu⟩ hK hP hD hS hA hG (c_X8_get l g bM vM_26 (((158 : Int32) + ((3 : Int32) * (x1 - ((2 : Int32) * r1)))) + (2 : Int32)) r51 hg52) (cwV 1 htu (gU_V mw_6_20 hcX8_get) rfl rfl rfl hdX8_get ⟨Nat.le_of_ble_eq_true rfl, Nat.le_of_ble_eq_true rfl⟩) (q0 := 0) (ci := 8) (fs := fcM bM vM_26) (q := (RX8, TX8, 23)) rfl rfl rfl (As := [.int (((158 : Int32) + ((3 : Int32) * (x1 - ((2 : Int32) * r1)))) + (2 : Int32))]) (rest := [.int x5_11]) rfl rfl hl.1 (Nat.le_of_ble_eq_true rfl) dX8_bends_151 (k1 := 0) (n1 := 0) rfl rfl ⟨Nat.zero_le _, Nat.zero_le _⟩ (fun H locs hP hD hS => ?_)
                    refine lv_icmp_ne (tgt := 166) hx hb dX8_bends_154 (by decide) (fun c53 => ?_) (fun c53 => ?_)
                    · have hf := it_f hf c53
                      exact hJ29 vM_26 hf H locs hP hD hS _ (lv_sub hl [0, 1, 2, 3, 4, 5] rfl)
                    · have hf := it_t hf c53
                      exact hJ46 hf H locs hP hD hS _ (lv_sub hl [0, 1, 2, 3, 4, 5] rfl)
              refine lv_icmp_ge (tgt := 118) hx hb dX8_bends_105 (by decide) (fun c55 => ?_) (fun c55 => ?_)
              · have hf := it_t hf c55
                refine lv_aload_n hx hb dX8_bends_118 rfl (lv_at hl 0 rfl) ?_
                refine lv_iload hx hb dX8_bends_119 (lv_at hl 5 rfl) ?_
                refine lv_aload_n hx hb dX8_bends_121 rfl (lv_at hl 0 rfl) ?_
                refine va_get (D := g.1) (ci := 8) (fs := fcM bM vM_12) (v := .ref (bM 9)) (C := RX8) (T := TX8) (N := 23) hx hb htu hinX8 hown hK hP 0 rfl rfl 8 (by decide) k_5_80 (fun _ h9 => h9) rfl dX8_bends_122 ?_
                obtain ⟨r56, hg57, hf⟩ := o1_at hf
                refine k_viW ⟨hx, hb, hml, hown, htu⟩ hK hP hD hS hA hG (c_X8_gate_bent l g bM vM_12 x5_11 r56 hg57) (cwV 2 htu (gU_V mw_6_76 hcX8_gate) rfl rfl rfl hdX8_gate ⟨Nat.le_of_ble_eq_true rfl, Nat.le_of_ble_eq_true rfl⟩) (q0 := 0) (ci := 8) (fs := fcM bM vM_12) (q := (RX8, TX8, 23)) rfl rfl rfl (As := [.int x5_11, .ref (bM 9)]) (rest := [.int x5_11, .ref (bM 9)]) rfl rfl hl.1 (Nat.le_of_ble_eq_true rfl) dX8_bends_125 (k1 := 0) (n1 := 0) rfl rfl ⟨Nat.zero_le _, Nat.zero_le _⟩ (fun H locs hP hD hS => ?_)
                exact hJ24 r56 hf H locs hP hD hS _ (lv_sub hl [0, 1, 2, 3, 4, 5] rfl)
              · have hf := it_f hf c55
                refine lv_aload_n hx hb dX8_bends_108 rfl (lv_at hl 0 rfl) ?_
                refine va_get (D := g.1) (ci := 8) (fs := fcM bM vM_12) (v := .ref (bM 7)) (C := RX8) (T := TX8) (N := 23) hx hb htu hinX8 hown hK hP 0 rfl rfl 6 (by decide) k_5_78 (fun _ h9 => h9) rfl dX8_bends_109 ?_
                refine lv_iload hx hb dX8_bends_112 (lv_at hl 5 rfl) ?_
                obtain ⟨h58, hf⟩ := gd_in hf
                refine va_iald (D := g.1) (f := (vM_12.2.1 6)) hx hb hK hP 4 0 rfl rfl h58 dX8_bends_114 ?_
                refine lv_goto (tgt := 128) hx hb dX8_bends_115 (by decide) ?_
                exact hJ24 (vM_12.2.1 6 (x5_11).toNatClampNeg) hf H locs hP hD hS _ (lv_sub hl [0, 1, 2, 3, 4, 5] rfl)
        exact hL14 (0 : Int32) vM hf H locs hP hD hS _ (lv_sub hl [2, 3, 4, 5, 1, 0] rfl)
      refine lv_if_eq (tgt := 78) hx hb dX8_bends_32 (by decide) (fun c60 => ?_) (fun c60 => ?_)
      · have hf := it_t hf c60
        refine lv_iconst (v := (-1 : Int32)) hx hb dX8_bends_78 (by decide) ?_
        exact hJ10 (-1 : Int32) hf H locs hP hD hS _ (lv_sub hl [1, 2, 3, 0] rfl)
      · have hf := it_f hf c60
        refine lv_aload_n hx hb dX8_bends_35 rfl (lv_at hl 1 rfl) ?_
        refine va_get (D := g.1) (ci := 8) (fs := fcM bM vM) (v := .ref (bM 8)) (C := RX8) (T := TX8) (N := 23) hx hb htu hinX8 hown hK hP 0 rfl rfl 7 (by decide) k_5_79 (fun _ h9 => h9) rfl dX8_bends_36 ?_
        refine lv_aload_n hx hb dX8_bends_39 rfl (lv_at hl 1 rfl) ?_
        refine lv_iload_n hx hb dX8_bends_40 rfl (lv_at hl 3 rfl) ?_
        refine lv_iconst (v := (1 : Int32)) hx hb dX8_bends_41 (by decide) ?_
        refine lv_iadd hx hb dX8_bends_42 ?_
        obtain ⟨r61, hg62, hf⟩ := o1_at hf
        refine k_viW ⟨hx, hb, hml, hown, htu⟩ hK hP hD hS hA hG (c_X8_get l g bM vM (((158 : Int32) + ((3 : Int32) * (x1 - ((2 : Int32) * r1)))) + (1 : Int32)) r61 hg62) (cwV 1 htu (gU_V mw_6_20 hcX8_get) rfl rfl rfl hdX8_get ⟨Nat.le_of_ble_eq_true rfl, Nat.le_of_ble_eq_true rfl⟩) (q0 := 0) (ci := 8) (fs := fcM bM vM) (q := (RX8, TX8, 23)) rfl rfl rfl (As := [.int (((158 : Int32) + ((3 : Int32) * (x1 - ((2 : Int32) * r1)))) + (1 : Int32))]) (rest := [.ref (bM 8)]) rfl rfl hl.1 (Nat.le_of_ble_eq_true rfl) dX8_bends_43 (k1 := 0) (n1 := 0) rfl rfl ⟨Nat.zero_le _, Nat.zero_le _⟩ (fun H locs hP hD hS => ?_)
        obtain ⟨h63, hf⟩ := gd_in hf
        refine va_iald (D := g.1) (f := (vM.2.1 7)) hx hb hK hP 5 0 rfl rfl h63 dX8_bends_46 ?_
        refine lv_aload_n hx hb dX8_bends_47 rfl (lv_at hl 1 rfl) ?_
        refine va_get (D := g.1) (ci := 8) (fs := fcM bM vM) (v := .ref (bM 8)) (C := RX8) (T := TX8) (N := 23) hx hb htu hinX8 hown hK hP 0 rfl rfl 7 (by decide) k_5_79 (fun _ h9 => h9) rfl dX8_bends_48 ?_
        refine lv_aload_n hx hb dX8_bends_51 rfl (lv_at hl 1 rfl) ?_
        refine lv_iload_n hx hb dX8_bends_52 rfl (lv_at hl 3 rfl) ?_
        refine lv_iconst (v := (2 : Int32)) hx hb dX8_bends_53 (by decide) ?_
        refine lv_iadd hx hb dX8_bends_54 ?_
        obtain ⟨r64, hg65, hf⟩ := o1_at hf
        refine k_viW ⟨hx, hb, hml, hown, htu⟩ hK hP hD hS hA hG (c_X8_get l g bM vM (((158 : Int32) + ((3 : Int32) * (x1 - ((2 : Int32) * r1)))) + (2 : Int32)) r64 hg65) (cwV 1 htu (gU_V mw_6_20 hcX8_get) rfl rfl rfl hdX8_get ⟨Nat.le_of_ble_eq_true rfl, Nat.le_of_ble_eq_true rfl⟩) (q0 := 0) (ci := 8) (fs := fcM bM vM) (q := (RX8, TX8, 23)) rfl rfl rfl (As := [.int (((158 : Int32) + ((3 : Int32) * (x1 - ((2 : Int32) * r1)))) + (2 : Int32))]) (rest := [.ref (bM 8), .int (vM.2.1 7 (r61).toNatClampNeg)]) rfl rfl hl.1 (Nat.le_of_ble_eq_true rfl) dX8_bends_55 (k1 := 0) (n1 := 0) rfl rfl ⟨Nat.zero_le _, Nat.zero_le _⟩ (fun H locs hP hD hS => ?_)
        obtain ⟨h66, hf⟩ := gd_in hf
        refine va_iald (D := g.1) (f := (vM.2.1 7)) hx hb hK hP 5 0 rfl rfl h66 dX8_bends_58 ?_
        refine lv_aload_n hx hb dX8_bends_59 rfl (lv_at hl 1 rfl) ?_
        refine lv_iload_n hx hb dX8_bends_60 rfl (lv_at hl 3 rfl) ?_
        obtain ⟨r67, hg68, hf⟩ := o1_at hf
        refine k_viW ⟨hx, hb, hml, hown, htu⟩ hK hP hD hS hA hG (c_X8_get l g bM vM ((158 : Int32) + ((3 : Int32) * (x1 - ((2 : Int32) * r1)))) r67 hg68) (cwV 1 htu (gU_V mw_6_20 hcX8_get) rfl rfl rfl hdX8_get ⟨Nat.le_of_ble_eq_true rfl, Nat.le_of_ble_eq_true rfl⟩) (q0 := 0) (ci := 8) (fs := fcM bM vM) (q := (RX8, TX8, 23)) rfl rfl rfl (As := [.int ((158 : Int32) + ((3 : Int32) * (x1 - ((2 : Int32) * r1))))]) (rest := [.int (vM.2.1 7 (r64).toNatClampNeg), .int (vM.2.1 7 (r61).toNatClampNeg)]) rfl rfl hl.1 (Nat.le_of_ble_eq_true rfl) dX8_bends_61 (k1 := 0) (n1 := 0) rfl rfl ⟨Nat.zero_le _, Nat.zero_le _⟩ (fun H locs hP hD hS => ?_)
        obtain ⟨k70, hk74, hf⟩ := jn_at hf
        have hJ71 : ∀ (t69 : Int32), k70 t69 = some vM1 → ∀ (H : Heap) (locs : List Loc), va_P g.1 vwCl (cM g bM vM) H → va_D A (cM g bM vM) → va_S A s.heap H locs → ∀ ls : Array Slot, lv_has ls 6 [(0, .ref (bM 0)), (1, .int x1), (2, .int ((158 : Int32) + ((3 : Int32) * (x1 - ((2 : Int32) * r1))))), (3, .int t5)] → W p l e (headSpec wsX8_bends rmX8_bends).room s m ([.ref (bM 0), .int x1] : List Value).toArray below meth c H locs 0 0 (MQ below (qV g A (cM g bM vM1)) ([.ref (bM 0), .int x1] : List Value).toArray s 0 0 A) (F0 m 72 ls [.int t69, .int (vM.2.1 7 (r64).toNatClampNeg), .int (vM.2.1 7 (r61).toNatClampNeg)]) := by
          intro t69 hf H locs hP hD hS ls hl
          rw [hk74] at hf
          dsimp only at hf
          clear hk74
          obtain ⟨r72, hg73, hf⟩ := o1_at hf
          refine k_si0 ⟨hx, hb, hml, hown, htu⟩ hK hP hD hS hA hG (c_X8_decided l g (vM.2.1 7 (r61).toNatClampNeg) (vM.2.1 7 (r64).toNatClampNeg) t69 r72 hg73) (va_cwS 3 htu (gU_S mw_6_95 hcX8_decided) rfl rfl rfl hdX8_decided ⟨Nat.le_of_ble_eq_true rfl, Nat.le_of_ble_eq_true rfl⟩) (As := [.int (vM.2.1 7 (r61).toNatClampNeg), .int (vM.2.1 7 (r64).toNatClampNeg), .int t69]) (rest := []) rfl rfl hl.1 (Nat.le_of_ble_eq_true rfl) dX8_bends_72 (k1 := 0) (n1 := 0) rfl rfl ⟨Nat.zero_le _, Nat.zero_le _⟩ (fun H locs hP hD hS => ?_)
          refine lv_goto (tgt := 79) hx hb dX8_bends_75 (by decide) ?_
          exact hJ10 r72 hf H locs hP hD hS _ (lv_sub hl [0, 1, 2, 3] rfl)
        refine lv_if_ne (tgt := 71) hx hb dX8_bends_64 (by decide) (fun c75 => ?_) (fun c75 => ?_)
        · have hf := it_f hf c75
          refine lv_iconst (v := (1 : Int32)) hx hb dX8_bends_71 (by decide) ?_
          exact hJ71 (1 : Int32) hf H locs hP hD hS _ (lv_sub hl [1, 2, 3, 0] rfl)
        · have hf := it_t hf c75
          refine lv_iconst (v := (0 : Int32)) hx hb dX8_bends_67 (by decide) ?_
          refine lv_goto (tgt := 72) hx hb dX8_bends_68 (by decide) ?_
          exact hJ71 (0 : Int32) hf H locs hP hD hS _ (lv_sub hl [1, 2, 3, 0] rfl)
    refine lv_icmp_lt (tgt := 29) hx hb dX8_bends_22 (by decide) (fun c77 => ?_) (fun c77 => ?_)
    · have hf := it_t hf c77
      refine lv_iconst (v := (0 : Int32)) hx hb dX8_bends_29 (by decide) ?_
      exact hJ7 (0 : Int32) hf H locs hP hD hS _ (lv_sub hl [1, 2, 0] rfl)
    · have hf := it_f hf c77
      refine lv_iconst (v := (1 : Int32)) hx hb dX8_bends_25 (by decide) ?_
      refine lv_goto (tgt := 30) hx hb dX8_bends_26 (by decide) ?_
      exact hJ7 (1 : Int32) hf H locs hP hD hS _ (lv_sub hl [1, 2, 0] rfl)
  rw [hH, hlo] at hW
  exact hW
def f_X8_asksTest_L2 (x1 : Int32) (self3 : Int32 → Vs → Option (Vs)) (x2_1 : Int32) (vM_2 : Vs) : Option (Vs) :=
  o1 (f_X8_inputs vM_2) (fun (r6 : Int32) => if r6 ≤ x2_1 then o1 (f_X8_cleans vM_2) (fun (vM_9 : Vs) => some (vM_9)) else o1 (f_X8_get vM_2 (((182 : Int32) + ((8 : Int32) * x1)) + x2_1)) (fun (r12 : Int32) => gd (inb x2_1 8) (bn (sI vM_2 6 (x2_1).toNatClampNeg r12) (fun (vM_15 : Vs) => self3 (x2_1 + (1 : Int32)) vM_15))))
def f_X8_asksTest (vM : Vs) (x1 : Int32) : Option (Vs) :=
  lp (f_X8_asksTest_L2 x1) (fun _ _ => none) FU (0 : Int32) vM
abbrev wsX8_asksTest : List Cond := .code yX8_asksTest cX8_asksTest 3 none :: UW
abbrev rmX8_asksTest : Room := { frames := 4, cells := 0, slots := 0, locals := 91 }
set_option maxHeartbeats 4000000 in
set_option maxRecDepth 100000 in
theorem c_X8_asksTest (l : Launch) (g : Gx) (bM : Nat → Nat) (vM : Vs) (x1 : Int32) (vM1 : Vs) (hf : f_X8_asksTest vM x1 = some vM1) : CtV l yX8_asksTest wsX8_asksTest rmX8_asksTest g [.ref (bM 0), .int x1] (cM g bM vM) (cM g bM vM1) 0 0 := by
  unfold CtV
  intro sz
  refine Met.ofW (cc := cX8_asksTest) (maxL := 3) (ret := none) (by decide) rfl ?_
  intro p e s m args below meth c s₁ B hml hv
  obtain ⟨rfl, hsz, hP, hK, hD0, hG⟩ := hv
  have hx := B.exec
  have hb := B.bytes
  have hr := B.returns
  have hts := atoms_spec (ws := wsX8_asksTest) B.pre
  have hown : s.vm.findClass RX8 = some m.cls := findClass_of_methodNamed B.named
  have hlocks := B.notSynchronized
  subst hsz
  have hD := hD0.self (sz := s.heap.size)
  generalize hAe : va_A (cM g bM vM) s.heap.size = A at hD hG ⊢
  have hA : ∀ q : Nat, s.heap.size ≤ q → A q := fun q h => by rw [← hAe]; exact Or.inr h
  clear hAe hD0
  have hS : va_S A s.heap s.heap [] := va_S.rf
  have hl := lv_entry ([.ref (bM 0), .int x1]) (n := 3) (Nat.le_of_ble_eq_true rfl)
  rw [lg_entry_eq]
  generalize (lg_sl ([.ref (bM 0), .int x1]) ++ List.replicate (3 - (lg_sl ([.ref (bM 0), .int x1])).length) Slot.unset).toArray = ls at hl ⊢
  have hl : lv_has ls 3 [(0, .ref (bM 0)), (1, .int x1)] := hl
  have htu : ∀ w ∈ UW, w.before _ s = true := fun w h => hts w (List.mem_cons_of_mem _ h)
  have k_5_78 := htu _ mw_5_78
  unfold f_X8_asksTest at hf
  obtain ⟨H, hH⟩ : ∃ z, z = s.heap := ⟨_, rfl⟩
  obtain ⟨locs, hlo⟩ : ∃ z : List Loc, z = [] := ⟨_, rfl⟩
  have hS : va_S A s.heap H locs := by rw [hH, hlo]; exact hS
  rw [← hH] at hP
  have hW : W p l e (headSpec wsX8_asksTest rmX8_asksTest).room s m ([.ref (bM 0), .int x1] : List Value).toArray below meth c H locs 0 0 (MQ below (qV g A (cM g bM vM1)) ([.ref (bM 0), .int x1] : List Value).toArray s 0 0 A) (F0 m 0 ls []) := by
    refine lv_iconst (v := (0 : Int32)) hx hb dX8_asksTest_0 (by decide) ?_
    refine lv_istore_n (lv' := [(2, .int (0 : Int32)), (0, .ref (bM 0)), (1, .int x1)]) hx hb dX8_asksTest_1 rfl hl (by decide) rfl (fun ls hl => ?_)
    have hL4 : ∀ (x2_1 : Int32) (vM_2 : Vs), lp (f_X8_asksTest_L2 x1) (fun _ _ => none) FU x2_1 vM_2 = some vM1 → ∀ (H : Heap) (locs : List Loc), va_P g.1 vwCl (cM g bM vM_2) H → va_D A (cM g bM vM_2) → va_S A s.heap H locs → ∀ ls : Array Slot, lv_has ls 3 [(0, .ref (bM 0)), (1, .int x1), (2, .int x2_1)] → W p l e (headSpec wsX8_asksTest rmX8_asksTest).room s m ([.ref (bM 0), .int x1] : List Value).toArray below meth c H locs 0 0 (MQ below (qV g A (cM g bM vM1)) ([.ref (bM 0), .int x1] : List Value).toArray s 0 0 A) (F0 m 2 ls []) := by
      refine lp_ind (T := Int32 → Vs → Option (Vs)) (fun self3 => ∀ (x2_1 : Int32) (vM_2 : Vs), self3 x2_1 vM_2 = some vM1 → ∀ (H : Heap) (locs : List Loc), va_P g.1 vwCl (cM g bM vM_2) H → va_D A (cM g bM vM_2) → va_S A s.heap H locs → ∀ ls : Array Slot, lv_has ls 3 [(0, .ref (bM 0)), (1, .int x1), (2, .int x2_1)] → W p l e (headSpec wsX8_asksTest rmX8_asksTest).room s m ([.ref (bM 0), .int x1] : List Value).toArray below meth c H locs 0 0 (MQ below (qV g A (cM g bM vM1)) ([.ref (bM 0), .int x1] : List Value).toArray s 0 0 A) (F0 m 2 ls [])) ?_ ?_ FU
      · intro x2_1 vM_2 hf; cases hf
      · intro self3 ih5 x2_1 vM_2 hf H locs hP hD hS ls hl
        unfold f_X8_asksTest_L2 at hf
        refine lv_iload_n hx hb dX8_asksTest_2 rfl (lv_at hl 2 rfl) ?_
        refine lv_aload_n hx hb dX8_asksTest_3 rfl (lv_at hl 0 rfl) ?_
        obtain ⟨r6, hg7, hf⟩ := o1_at hf
        refine k_viW ⟨hx, hb, hml, hown, htu⟩ hK hP hD hS hA hG (c_X8_inputs l g bM vM_2 r6 hg7) (cwV 0 htu (gU_V mw_6_36 hcX8_inputs) rfl rfl rfl hdX8_inputs ⟨Nat.le_of_ble_eq_true rfl, Nat.le_of_ble_eq_true rfl⟩) (q0 := 0) (ci := 8) (fs := fcM bM vM_2) (q := (RX8, TX8, 23)) rfl rfl rfl (As := []) (rest := [.int x2_1]) rfl rfl hl.1 (Nat.le_of_ble_eq_true rfl) dX8_asksTest_4 (k1 := 0) (n1 := 0) rfl rfl ⟨Nat.zero_le _, Nat.zero_le _⟩ (fun H locs hP hD hS => ?_)
        refine lv_icmp_ge (tgt := 36) hx hb dX8_asksTest_7 (by decide) (fun c8 => ?_) (fun c8 => ?_)
        · have hf := it_t hf c8
          refine lv_aload_n hx hb dX8_asksTest_36 rfl (lv_at hl 0 rfl) ?_
          obtain ⟨vM_9, hg10, hf⟩ := o1_at hf
          refine k_vvW ⟨hx, hb, hml, hown, htu⟩ hK hP hD hS hA hG (c_X8_cleans l g bM vM_2 vM_9 hg10) (cwV 0 htu (gU_V mw_6_72 hcX8_cleans) rfl rfl rfl hdX8_cleans ⟨Nat.le_of_ble_eq_true rfl, Nat.le_of_ble_eq_true rfl⟩) (q0 := 0) (ci := 8) (fs := fcM bM vM_2) (q := (RX8, TX8, 23)) rfl rfl rfl (As := []) (rest := []) rfl rfl hl.1 (Nat.le_of_ble_eq_true rfl) dX8_asksTest_37 (k1 := 0) (n1 := 0) rfl rfl ⟨Nat.zero_le _, Nat.zero_le _⟩ (fun H locs hP hD hS => ?_)
          have e11 := Option.some.inj hf
          rw [e11] at hP hD
          exact k_vret hx hb hr hlocks hK hP hD hS dX8_asksTest_40
        · have hf := it_f hf c8
          refine lv_aload_n hx hb dX8_asksTest_10 rfl (lv_at hl 0 rfl) ?_
          refine va_get (D := g.1) (ci := 8) (fs := fcM bM vM_2) (v := .ref (bM 7)) (C := RX8) (T := TX8) (N := 23) hx hb htu hinX8 hown hK hP 0 rfl rfl 6 (by decide) k_5_78 (fun _ h9 => h9) rfl dX8_asksTest_11 ?_
          refine lv_iload_n hx hb dX8_asksTest_14 rfl (lv_at hl 2 rfl) ?_
          refine lv_aload_n hx hb dX8_asksTest_15 rfl (lv_at hl 0 rfl) ?_
          refine lv_sipush (v := (182 : Int32)) hx hb dX8_asksTest_16 (by decide) ?_
          refine lv_bipush (v := (8 : Int32)) hx hb dX8_asksTest_19 (by decide) ?_
          refine lv_iload_n hx hb dX8_asksTest_21 rfl (lv_at hl 1 rfl) ?_
          refine lv_imul hx hb dX8_asksTest_22 ?_
          refine lv_iadd hx hb dX8_asksTest_23 ?_
          refine lv_iload_n hx hb dX8_asksTest_24 rfl (lv_at hl 2 rfl) ?_
          refine lv_iadd hx hb dX8_asksTest_25 ?_
          obtain ⟨r12, hg13, hf⟩ := o1_at hf
          refine k_viW ⟨hx, hb, hml, hown, htu⟩ hK hP hD hS hA hG (c_X8_get l g bM vM_2 (((182 : Int32) + ((8 : Int32) * x1)) + x2_1) r12 hg13) (cwV 1 htu (gU_V mw_6_20 hcX8_get) rfl rfl rfl hdX8_get ⟨Nat.le_of_ble_eq_true rfl, Nat.le_of_ble_eq_true rfl⟩) (q0 := 0) (ci := 8) (fs := fcM bM vM_2) (q := (RX8, TX8, 23)) rfl rfl rfl (As := [.int (((182 : Int32) + ((8 : Int32) * x1)) + x2_1)]) (rest := [.int x2_1, .ref (bM 7)]) rfl rfl hl.1 (Nat.le_of_ble_eq_true rfl) dX8_asksTest_26 (k1 := 0) (n1 := 0) rfl rfl ⟨Nat.zero_le _, Nat.zero_le _⟩ (fun H locs hP hD hS => ?_)
          obtain ⟨h14, hf⟩ := gd_in hf
          refine va_iast (D := g.1) (f := (vM_2.2.1 6)) hx hb hK hP hD hS 4 0 rfl rfl h14 dX8_asksTest_29 (fun H locs hP hD hS => ?_)
          obtain ⟨vM_15, evM_15⟩ : ∃ z, z = sI vM_2 6 (x2_1).toNatClampNeg r12 := ⟨_, rfl⟩
          have hf := bn_at hf evM_15
          have hP : va_P g.1 vwCl (cM g bM vM_15) H := by rw [evM_15]; exact hP
          have hD : va_D A (cM g bM vM_15) := by rw [evM_15]; exact hD
          refine lv_iinc (v := (x2_1 + (1 : Int32))) (lv' := [(2, .int (x2_1 + (1 : Int32))), (0, .ref (bM 0)), (1, .int x1)]) hx hb dX8_asksTest_30 hl (k := 2) rfl rfl (by decide) rfl (fun ls hl => ?_)
          refine lv_goto (tgt := 2) hx hb dX8_asksTest_33 (by decide) ?_
          exact ih5 (x2_1 + (1 : Int32)) vM_15 hf H locs hP hD hS _ (lv_sub hl [1, 2, 0] rfl)
    exact hL4 (0 : Int32) vM hf H locs hP hD hS _ (lv_sub hl [1, 2, 0] rfl)
  rw [hH, hlo] at hW
  exact hW
def f_X8_asksFull_L2 (x1 : Int32) (self3 : Int32 → Vs → Option (Vs)) (x2_1 : Int32) (vM_2 : Vs) : Option (Vs) :=
  o1 (f_X8_inputs vM_2) (fun (r6 : Int32) => if r6 ≤ x2_1 then o1 (f_X8_cleans vM_2) (fun (vM_9 : Vs) => some (vM_9)) else gd (inb x2_1 8) (bn (sI vM_2 6 (x2_1).toNatClampNeg ((x1 >>> (x2_1 &&& 31)) &&& (1 : Int32))) (fun (vM_13 : Vs) => self3 (x2_1 + (1 : Int32)) vM_13)))
def f_X8_asksFull (vM : Vs) (x1 : Int32) : Option (Vs) :=
  lp (f_X8_asksFull_L2 x1) (fun _ _ => none) FU (0 : Int32) vM
abbrev wsX8_asksFull : List Cond := .code yX8_asksFull cX8_asksFull 3 none :: UW
abbrev rmX8_asksFull : Room := { frames := 4, cells := 0, slots := 0, locals := 91 }
set_option maxHeartbeats 4000000 in
set_option maxRecDepth 100000 in
theorem c_X8_asksFull (l : Launch) (g : Gx) (bM : Nat → Nat) (vM : Vs) (x1 : Int32) (vM1 : Vs) (hf : f_X8_asksFull vM x1 = some vM1) : CtV l yX8_asksFull wsX8_asksFull rmX8_asksFull g [.ref (bM 0), .int x1] (cM g bM vM) (cM g bM vM1) 0 0 := by
  unfold CtV
  intro sz
  refine Met.ofW (cc := cX8_asksFull) (maxL := 3) (ret := none) (by decide) rfl ?_
  intro p e s m args below meth c s₁ B hml hv
  obtain ⟨rfl, hsz, hP, hK, hD0, hG⟩ := hv
  have hx := B.exec
  have hb := B.bytes
  have hr := B.returns
  have hts := atoms_spec (ws := wsX8_asksFull) B.pre
  have hown : s.vm.findClass RX8 = some m.cls := findClass_of_methodNamed B.named
  have hlocks := B.notSynchronized
  subst hsz
  have hD := hD0.self (sz := s.heap.size)
  generalize hAe : va_A (cM g bM vM) s.heap.size = A at hD hG ⊢
  have hA : ∀ q : Nat, s.heap.size ≤ q → A q := fun q h => by rw [← hAe]; exact Or.inr h
  clear hAe hD0
  have hS : va_S A s.heap s.heap [] := va_S.rf
  have hl := lv_entry ([.ref (bM 0), .int x1]) (n := 3) (Nat.le_of_ble_eq_true rfl)
  rw [lg_entry_eq]
  generalize (lg_sl ([.ref (bM 0), .int x1]) ++ List.replicate (3 - (lg_sl ([.ref (bM 0), .int x1])).length) Slot.unset).toArray = ls at hl ⊢
  have hl : lv_has ls 3 [(0, .ref (bM 0)), (1, .int x1)] := hl
  have htu : ∀ w ∈ UW, w.before _ s = true := fun w h => hts w (List.mem_cons_of_mem _ h)
  have k_5_78 := htu _ mw_5_78
  unfold f_X8_asksFull at hf
  obtain ⟨H, hH⟩ : ∃ z, z = s.heap := ⟨_, rfl⟩
  obtain ⟨locs, hlo⟩ : ∃ z : List Loc, z = [] := ⟨_, rfl⟩
  have hS : va_S A s.heap H locs := by rw [hH, hlo]; exact hS
  rw [← hH] at hP
  have hW : W p l e (headSpec wsX8_asksFull rmX8_asksFull).room s m ([.ref (bM 0), .int x1] : List Value).toArray below meth c H locs 0 0 (MQ below (qV g A (cM g bM vM1)) ([.ref (bM 0), .int x1] : List Value).toArray s 0 0 A) (F0 m 0 ls []) := by
    refine lv_iconst (v := (0 : Int32)) hx hb dX8_asksFull_0 (by decide) ?_
    refine lv_istore_n (lv' := [(2, .int (0 : Int32)), (0, .ref (bM 0)), (1, .int x1)]) hx hb dX8_asksFull_1 rfl hl (by decide) rfl (fun ls hl => ?_)
    have hL4 : ∀ (x2_1 : Int32) (vM_2 : Vs), lp (f_X8_asksFull_L2 x1) (fun _ _ => none) FU x2_1 vM_2 = some vM1 → ∀ (H : Heap) (locs : List Loc), va_P g.1 vwCl (cM g bM vM_2) H → va_D A (cM g bM vM_2) → va_S A s.heap H locs → ∀ ls : Array Slot, lv_has ls 3 [(0, .ref (bM 0)), (1, .int x1), (2, .int x2_1)] → W p l e (headSpec wsX8_asksFull rmX8_asksFull).room s m ([.ref (bM 0), .int x1] : List Value).toArray below meth c H locs 0 0 (MQ below (qV g A (cM g bM vM1)) ([.ref (bM 0), .int x1] : List Value).toArray s 0 0 A) (F0 m 2 ls []) := by
      refine lp_ind (T := Int32 → Vs → Option (Vs)) (fun self3 => ∀ (x2_1 : Int32) (vM_2 : Vs), self3 x2_1 vM_2 = some vM1 → ∀ (H : Heap) (locs : List Loc), va_P g.1 vwCl (cM g bM vM_2) H → va_D A (cM g bM vM_2) → va_S A s.heap H locs → ∀ ls : Array Slot, lv_has ls 3 [(0, .ref (bM 0)), (1, .int x1), (2, .int x2_1)] → W p l e (headSpec wsX8_asksFull rmX8_asksFull).room s m ([.ref (bM 0), .int x1] : List Value).toArray below meth c H locs 0 0 (MQ below (qV g A (cM g bM vM1)) ([.ref (bM 0), .int x1] : List Value).toArray s 0 0 A) (F0 m 2 ls [])) ?_ ?_ FU
      · intro x2_1 vM_2 hf; cases hf
      · intro self3 ih5 x2_1 vM_2 hf H locs hP hD hS ls hl
        unfold f_X8_asksFull_L2 at hf
        refine lv_iload_n hx hb dX8_asksFull_2 rfl (lv_at hl 2 rfl) ?_
        refine lv_aload_n hx hb dX8_asksFull_3 rfl (lv_at hl 0 rfl) ?_
        obtain ⟨r6, hg7, hf⟩ := o1_at hf
        refine k_viW ⟨hx, hb, hml, hown, htu⟩ hK hP hD hS hA hG (c_X8_inputs l g bM vM_2 r6 hg7) (cwV 0 htu (gU_V mw_6_36 hcX8_inputs) rfl rfl rfl hdX8_inputs ⟨Nat.le_of_ble_eq_true rfl, Nat.le_of_ble_eq_true rfl⟩) (q0 := 0) (ci := 8) (fs := fcM bM vM_2) (q := (RX8, TX8, 23)) rfl rfl rfl (As := []) (rest := [.int x2_1]) rfl rfl hl.1 (Nat.le_of_ble_eq_true rfl) dX8_asksFull_4 (k1 := 0) (n1 := 0) rfl rfl ⟨Nat.zero_le _, Nat.zero_le _⟩ (fun H locs hP hD hS => ?_)
        refine lv_icmp_ge (tgt := 27) hx hb dX8_asksFull_7 (by decide) (fun c8 => ?_) (fun c8 => ?_)
        · have hf := it_t hf c8
          refine lv_aload_n hx hb dX8_asksFull_27 rfl (lv_at hl 0 rfl) ?_
          obtain ⟨vM_9, hg10, hf⟩ := o1_at hf
          refine k_vvW ⟨hx, hb, hml, hown, htu⟩ hK hP hD hS hA hG (c_X8_cleans l g bM vM_2 vM_9 hg10) (cwV 0 htu (gU_V mw_6_72 hcX8_cleans) rfl rfl rfl hdX8_cleans ⟨Nat.le_of_ble_eq_true rfl, Nat.le_of_ble_eq_true rfl⟩) (q0 := 0) (ci := 8) (fs := fcM bM vM_2) (q := (RX8, TX8, 23)) rfl rfl rfl (As := []) (rest := []) rfl rfl hl.1 (Nat.le_of_ble_eq_true rfl) dX8_asksFull_28 (k1 := 0) (n1 := 0) rfl rfl ⟨Nat.zero_le _, Nat.zero_le _⟩ (fun H locs hP hD hS => ?_)
          have e11 := Option.some.inj hf
          rw [e11] at hP hD
          exact k_vret hx hb hr hlocks hK hP hD hS dX8_asksFull_31
        · have hf := it_f hf c8
          refine lv_aload_n hx hb dX8_asksFull_10 rfl (lv_at hl 0 rfl) ?_
          refine va_get (D := g.1) (ci := 8) (fs := fcM bM vM_2) (v := .ref (bM 7)) (C := RX8) (T := TX8) (N := 23) hx hb htu hinX8 hown hK hP 0 rfl rfl 6 (by decide) k_5_78 (fun _ h9 => h9) rfl dX8_asksFull_11 ?_
          refine lv_iload_n hx hb dX8_asksFull_14 rfl (lv_at hl 2 rfl) ?_
          refine lv_iload_n hx hb dX8_asksFull_15 rfl (lv_at hl 1 rfl) ?_
          refine lv_iload_n hx hb dX8_asksFull_16 rfl (lv_at hl 2 rfl) ?_
          refine lv_ishr hx hb dX8_asksFull_17 ?_
          refine lv_iconst (v := (1 : Int32)) hx hb dX8_asksFull_18 (by decide) ?_
          refine lv_iand hx hb dX8_asksFull_19 ?_
          obtain ⟨h12, hf⟩ := gd_in hf
          refine va_iast (D := g.1) (f := (vM_2.2.1 6)) hx hb hK hP hD hS 4 0 rfl rfl h12 dX8_asksFull_20 (fun H locs hP hD hS => ?_)
          obtain ⟨vM_13, evM_13⟩ : ∃ z, z = sI vM_2 6 (x2_1).toNatClampNeg ((x1 >>> (x2_1 &&& 31)) &&& (1 : Int32)) := ⟨_, rfl⟩
          have hf := bn_at hf evM_13
          have hP : va_P g.1 vwCl (cM g bM vM_13) H := by rw [evM_13]; exact hP
          have hD : va_D A (cM g bM vM_13) := by rw [evM_13]; exact hD
          refine lv_iinc (v := (x2_1 + (1 : Int32))) (lv' := [(2, .int (x2_1 + (1 : Int32))), (0, .ref (bM 0)), (1, .int x1)]) hx hb dX8_asksFull_21 hl (k := 2) rfl rfl (by decide) rfl (fun ls hl => ?_)
          refine lv_goto (tgt := 2) hx hb dX8_asksFull_24 (by decide) ?_
          exact ih5 (x2_1 + (1 : Int32)) vM_13 hf H locs hP hD hS _ (lv_sub hl [1, 2, 0] rfl)
    exact hL4 (0 : Int32) vM hf H locs hP hD hS _ (lv_sub hl [1, 2, 0] rfl)
  rw [hH, hlo] at hW
  exact hW
def f_X8_found_L9 (vM_1 : Vs) (self5 : Int32 → Int32 → Option (Int32 × Vs)) (x2_3 : Int32) (x3_4 : Int32) : Option (Int32 × Vs) :=
  o1 (f_X8_outputs vM_1) (fun (r8 : Int32) => if r8 ≤ x3_4 then some (x2_3, vM_1) else o1 (f_X8_atOutput_clean vM_1 x3_4) (fun (r13 : Int32) => o1 (f_X8_atOutput_bent vM_1 x3_4) (fun (r15 : Int32) => jn (fun (x2_17 : Int32) => self5 x2_17 (x3_4 + (1 : Int32))) (fun k18 => if r13 = (2 : Int32) then k18 x2_3 else if r13 = r15 then k18 x2_3 else jn (fun (t23 : Int32) => k18 t23) (fun k24 => if r15 = (2 : Int32) then if x2_3 = 0 then k24 (1 : Int32) else k24 x2_3 else k24 (2 : Int32))))))
def f_X8_found (vM : Vs) (x1 : Int32) : Option (Int32 × Vs) :=
  o1 (f_X8_bends vM x1) (fun (vM_1 : Vs) => lp (f_X8_found_L9 vM_1) (fun _ _ => none) FU (0 : Int32) (0 : Int32))
abbrev wsX8_found : List Cond := .code yX8_found cX8_found 6 (some .int) :: UW
abbrev rmX8_found : Room := { frames := 4, cells := 0, slots := 0, locals := 95 }
set_option maxHeartbeats 4000000 in
set_option maxRecDepth 100000 in
theorem c_X8_found (l : Launch) (g : Gx) (bM : Nat → Nat) (vM : Vs) (x1 : Int32) (r : Int32) (vM1 : Vs) (hf : f_X8_found vM x1 = some (r, vM1)) : CtI l yX8_found wsX8_found rmX8_found g [.ref (bM 0), .int x1] (cM g bM vM) (cM g bM vM1) r 0 0 := by
  unfold CtI
  intro sz
  refine Met.ofW (cc := cX8_found) (maxL := 6) (ret := (some .int)) (by decide) rfl ?_
  intro p e s m args below meth c s₁ B hml hv
  obtain ⟨rfl, hsz, hP, hK, hD0, hG⟩ := hv
  have hx := B.exec
  have hb := B.bytes
  have hr := B.returns
  have hts := atoms_spec (ws := wsX8_found) B.pre
  have hown : s.vm.findClass RX8 = some m.cls := findClass_of_methodNamed B.named
  have hlocks := B.notSynchronized
  subst hsz
  have hD := hD0.self (sz := s.heap.size)
  generalize hAe : va_A (cM g bM vM) s.heap.size = A at hD hG ⊢
  have hA : ∀ q : Nat, s.heap.size ≤ q → A q := fun q h => by rw [← hAe]; exact Or.inr h
  clear hAe hD0
  have hS : va_S A s.heap s.heap [] := va_S.rf
  have hl := lv_entry ([.ref (bM 0), .int x1]) (n := 6) (Nat.le_of_ble_eq_true rfl)
  rw [lg_entry_eq]
  generalize (lg_sl ([.ref (bM 0), .int x1]) ++ List.replicate (6 - (lg_sl ([.ref (bM 0), .int x1])).length) Slot.unset).toArray = ls at hl ⊢
  have hl : lv_has ls 6 [(0, .ref (bM 0)), (1, .int x1)] := hl
  have htu : ∀ w ∈ UW, w.before _ s = true := fun w h => hts w (List.mem_cons_of_mem _ h)
  have k_5_79 := htu _ mw_5_79
  have k_5_80 := htu _ mw_5_80
  unfold f_X8_found at hf
  obtain ⟨H, hH⟩ : ∃ z, z = s.heap := ⟨_, rfl⟩
  obtain ⟨locs, hlo⟩ : ∃ z : List Loc, z = [] := ⟨_, rfl⟩
  have hS : va_S A s.heap H locs := by rw [hH, hlo]; exact hS
  rw [← hH] at hP
  have hW : W p l e (headSpec wsX8_found rmX8_found).room s m ([.ref (bM 0), .int x1] : List Value).toArray below meth c H locs 0 0 (MQ below (qI g A (cM g bM vM1) r) ([.ref (bM 0), .int x1] : List Value).toArray s 0 0 A) (F0 m 0 ls []) := by
    refine lv_aload_n hx hb dX8_found_0 rfl (lv_at hl 0 rfl) ?_
    refine lv_iload_n hx hb dX8_found_1 rfl (lv_at hl 1 rfl) ?_
    obtain ⟨vM_1, hg2, hf⟩ := o1_at hf
    refine k_vvW ⟨hx, hb, hml, hown, htu⟩ hK hP hD hS hA hG (c_X8_bends l g bM vM x1 vM_1 hg2) (cwV 1 htu (gU_V mw_6_102 hcX8_bends) rfl rfl rfl hdX8_bends ⟨Nat.le_of_ble_eq_true rfl, Nat.le_of_ble_eq_true rfl⟩) (q0 := 0) (ci := 8) (fs := fcM bM vM) (q := (RX8, TX8, 23)) rfl rfl rfl (As := [.int x1]) (rest := []) rfl rfl hl.1 (Nat.le_of_ble_eq_true rfl) dX8_found_2 (k1 := 0) (n1 := 0) rfl rfl ⟨Nat.zero_le _, Nat.zero_le _⟩ (fun H locs hP hD hS => ?_)
    refine lv_iconst (v := (0 : Int32)) hx hb dX8_found_5 (by decide) ?_
    refine lv_istore_n (lv' := [(2, .int (0 : Int32)), (0, .ref (bM 0)), (1, .int x1)]) hx hb dX8_found_6 rfl hl (by decide) rfl (fun ls hl => ?_)
    refine lv_iconst (v := (0 : Int32)) hx hb dX8_found_7 (by decide) ?_
    refine lv_istore_n (lv' := [(3, .int (0 : Int32)), (2, .int (0 : Int32)), (0, .ref (bM 0)), (1, .int x1)]) hx hb dX8_found_8 rfl hl (by decide) rfl (fun ls hl => ?_)
    have hL6 : ∀ (x2_3 : Int32) (x3_4 : Int32), lp (f_X8_found_L9 vM_1) (fun _ _ => none) FU x2_3 x3_4 = some (r, vM1) → ∀ (H : Heap) (locs : List Loc), va_P g.1 vwCl (cM g bM vM_1) H → va_D A (cM g bM vM_1) → va_S A s.heap H locs → ∀ ls : Array Slot, lv_has ls 6 [(0, .ref (bM 0)), (2, .int x2_3), (3, .int x3_4)] → W p l e (headSpec wsX8_found rmX8_found).room s m ([.ref (bM 0), .int x1] : List Value).toArray below meth c H locs 0 0 (MQ below (qI g A (cM g bM vM1) r) ([.ref (bM 0), .int x1] : List Value).toArray s 0 0 A) (F0 m 9 ls []) := by
      refine lp_ind (T := Int32 → Int32 → Option (Int32 × Vs)) (fun self5 => ∀ (x2_3 : Int32) (x3_4 : Int32), self5 x2_3 x3_4 = some (r, vM1) → ∀ (H : Heap) (locs : List Loc), va_P g.1 vwCl (cM g bM vM_1) H → va_D A (cM g bM vM_1) → va_S A s.heap H locs → ∀ ls : Array Slot, lv_has ls 6 [(0, .ref (bM 0)), (2, .int x2_3), (3, .int x3_4)] → W p l e (headSpec wsX8_found rmX8_found).room s m ([.ref (bM 0), .int x1] : List Value).toArray below meth c H locs 0 0 (MQ below (qI g A (cM g bM vM1) r) ([.ref (bM 0), .int x1] : List Value).toArray s 0 0 A) (F0 m 9 ls [])) ?_ ?_ FU
      · intro x2_3 x3_4 hf; cases hf
      · intro self5 ih7 x2_3 x3_4 hf H locs hP hD hS ls hl
        unfold f_X8_found_L9 at hf
        refine lv_iload_n hx hb dX8_found_9 rfl (lv_at hl 2 rfl) ?_
        refine lv_aload_n hx hb dX8_found_10 rfl (lv_at hl 0 rfl) ?_
        obtain ⟨r8, hg9, hf⟩ := o1_at hf
        refine k_viW ⟨hx, hb, hml, hown, htu⟩ hK hP hD hS hA hG (c_X8_outputs l g bM vM_1 r8 hg9) (cwV 0 htu (gU_V mw_6_40 hcX8_outputs) rfl rfl rfl hdX8_outputs ⟨Nat.le_of_ble_eq_true rfl, Nat.le_of_ble_eq_true rfl⟩) (q0 := 0) (ci := 8) (fs := fcM bM vM_1) (q := (RX8, TX8, 23)) rfl rfl rfl (As := []) (rest := [.int x3_4]) rfl rfl hl.1 (Nat.le_of_ble_eq_true rfl) dX8_found_11 (k1 := 0) (n1 := 0) rfl rfl ⟨Nat.zero_le _, Nat.zero_le _⟩ (fun H locs hP hD hS => ?_)
        refine lv_icmp_ge (tgt := 81) hx hb dX8_found_14 (by decide) (fun c10 => ?_) (fun c10 => ?_)
        · have hf := it_t hf c10
          refine lv_iload_n hx hb dX8_found_81 rfl (lv_at hl 1 rfl) ?_
          obtain ⟨e11, e12⟩ := kp_2 hf
          rw [e12] at hP hD
          exact k_iret hx hb hr hlocks hK hP hD hS e11 dX8_found_82
        · have hf := it_f hf c10
          refine lv_aload_n hx hb dX8_found_17 rfl (lv_at hl 0 rfl) ?_
          refine lv_iload_n hx hb dX8_found_18 rfl (lv_at hl 2 rfl) ?_
          refine lv_aload_n hx hb dX8_found_19 rfl (lv_at hl 0 rfl) ?_
          refine va_get (D := g.1) (ci := 8) (fs := fcM bM vM_1) (v := .ref (bM 8)) (C := RX8) (T := TX8) (N := 23) hx hb htu hinX8 hown hK hP 0 rfl rfl 7 (by decide) k_5_79 (fun _ h9 => h9) rfl dX8_found_20 ?_
          obtain ⟨r13, hg14, hf⟩ := o1_at hf
          refine k_viW ⟨hx, hb, hml, hown, htu⟩ hK hP hD hS hA hG (c_X8_atOutput_clean l g bM vM_1 x3_4 r13 hg14) (cwV 2 htu (gU_V mw_6_106 hcX8_atOutput) rfl rfl rfl hdX8_atOutput ⟨Nat.le_of_ble_eq_true rfl, Nat.le_of_ble_eq_true rfl⟩) (q0 := 0) (ci := 8) (fs := fcM bM vM_1) (q := (RX8, TX8, 23)) rfl rfl rfl (As := [.int x3_4, .ref (bM 8)]) (rest := []) rfl rfl hl.1 (Nat.le_of_ble_eq_true rfl) dX8_found_23 (k1 := 0) (n1 := 0) rfl rfl ⟨Nat.zero_le _, Nat.zero_le _⟩ (fun H locs hP hD hS => ?_)
          refine lv_istore (lv' := [(4, .int r13), (0, .ref (bM 0)), (2, .int x2_3), (3, .int x3_4)]) hx hb dX8_found_26 hl (by decide) rfl (fun ls hl => ?_)
          refine lv_aload_n hx hb dX8_found_28 rfl (lv_at hl 1 rfl) ?_
          refine lv_iload_n hx hb dX8_found_29 rfl (lv_at hl 3 rfl) ?_
          refine lv_aload_n hx hb dX8_found_30 rfl (lv_at hl 1 rfl) ?_
          refine va_get (D := g.1) (ci := 8) (fs := fcM bM vM_1) (v := .ref (bM 9)) (C := RX8) (T := TX8) (N := 23) hx hb htu hinX8 hown hK hP 0 rfl rfl 8 (by decide) k_5_80 (fun _ h9 => h9) rfl dX8_found_31 ?_
          obtain ⟨r15, hg16, hf⟩ := o1_at hf
          refine k_viW ⟨hx, hb, hml, hown, htu⟩ hK hP hD hS hA hG (c_X8_atOutput_bent l g bM vM_1 x3_4 r15 hg16) (cwV 2 htu (gU_V mw_6_106 hcX8_atOutput) rfl rfl rfl hdX8_atOutput ⟨Nat.le_of_ble_eq_true rfl, Nat.le_of_ble_eq_true rfl⟩) (q0 := 0) (ci := 8) (fs := fcM bM vM_1) (q := (RX8, TX8, 23)) rfl rfl rfl (As := [.int x3_4, .ref (bM 9)]) (rest := []) rfl rfl hl.1 (Nat.le_of_ble_eq_true rfl) dX8_found_34 (k1 := 0) (n1 := 0) rfl rfl ⟨Nat.zero_le _, Nat.zero_le _⟩ (fun H locs hP hD hS => ?_)
          refine lv_istore (lv' := [(5, .int r15), (4, .int r13), (0, .ref (bM 0)), (2, .int x2_3), (3, .int x3_4)]) hx hb dX8_found_37 hl (by decide) rfl (fun ls hl => ?_)
          refine lv_iload hx hb dX8_found_39 (lv_at hl 1 rfl) ?_
          refine lv_iconst (v := (2 : Int32)) hx hb dX8_found_41 (by decide) ?_
          obtain ⟨k18, hk20, hf⟩ := jn_at hf
          have hJ19 : ∀ (x2_17 : Int32), k18 x2_17 = some (r, vM1) → ∀ (H : Heap) (locs : List Loc), va_P g.1 vwCl (cM g bM vM_1) H → va_D A (cM g bM vM_1) → va_S A s.heap H locs → ∀ ls : Array Slot, lv_has ls 6 [(0, .ref (bM 0)), (2, .int x2_17), (3, .int x3_4)] → W p l e (headSpec wsX8_found rmX8_found).room s m ([.ref (bM 0), .int x1] : List Value).toArray below meth c H locs 0 0 (MQ below (qI g A (cM g bM vM1) r) ([.ref (bM 0), .int x1] : List Value).toArray s 0 0 A) (F0 m 75 ls []) := by
            intro x2_17 hf H locs hP hD hS ls hl
            rw [hk20] at hf
            dsimp only at hf
            clear hk20
            refine lv_iinc (v := (x3_4 + (1 : Int32))) (lv' := [(3, .int (x3_4 + (1 : Int32))), (0, .ref (bM 0)), (2, .int x2_17)]) hx hb dX8_found_75 hl (k := 2) rfl rfl (by decide) rfl (fun ls hl => ?_)
            refine lv_goto (tgt := 9) hx hb dX8_found_78 (by decide) ?_
            exact ih7 x2_17 (x3_4 + (1 : Int32)) hf H locs hP hD hS _ (lv_sub hl [1, 2, 0] rfl)
          refine lv_icmp_eq (tgt := 75) hx hb dX8_found_42 (by decide) (fun c21 => ?_) (fun c21 => ?_)
          · have hf := it_t hf c21
            exact hJ19 x2_3 hf H locs hP hD hS _ (lv_sub hl [2, 3, 4] rfl)
          · have hf := it_f hf c21
            refine lv_iload hx hb dX8_found_45 (lv_at hl 1 rfl) ?_
            refine lv_iload hx hb dX8_found_47 (lv_at hl 0 rfl) ?_
            refine lv_icmp_ne (tgt := 55) hx hb dX8_found_49 (by decide) (fun c22 => ?_) (fun c22 => ?_)
            · have hf := it_f hf c22
              refine lv_iload hx hb dX8_found_55 (lv_at hl 0 rfl) ?_
              refine lv_iconst (v := (2 : Int32)) hx hb dX8_found_57 (by decide) ?_
              obtain ⟨k24, hk26, hf⟩ := jn_at hf
              have hJ25 : ∀ (t23 : Int32), k24 t23 = some (r, vM1) → ∀ (H : Heap) (locs : List Loc), va_P g.1 vwCl (cM g bM vM_1) H → va_D A (cM g bM vM_1) → va_S A s.heap H locs → ∀ ls : Array Slot, lv_has ls 6 [(0, .ref (bM 0)), (3, .int x3_4)] → W p l e (headSpec wsX8_found rmX8_found).room s m ([.ref (bM 0), .int x1] : List Value).toArray below meth c H locs 0 0 (MQ below (qI g A (cM g bM vM1) r) ([.ref (bM 0), .int x1] : List Value).toArray s 0 0 A) (F0 m 74 ls [.int t23]) := by
                intro t23 hf H locs hP hD hS ls hl
                rw [hk26] at hf
                dsimp only at hf
                clear hk26
                refine lv_istore_n (lv' := [(2, .int t23), (0, .ref (bM 0)), (3, .int x3_4)]) hx hb dX8_found_74 rfl hl (by decide) rfl (fun ls hl => ?_)
                exact hJ19 t23 hf H locs hP hD hS _ (lv_sub hl [1, 0, 2] rfl)
              refine lv_icmp_eq (tgt := 65) hx hb dX8_found_58 (by decide) (fun c27 => ?_) (fun c27 => ?_)
              · have hf := it_t hf c27
                refine lv_iload_n hx hb dX8_found_65 rfl (lv_at hl 3 rfl) ?_
                refine lv_if_ne (tgt := 73) hx hb dX8_found_66 (by decide) (fun c28 => ?_) (fun c28 => ?_)
                · have hf := it_f hf c28
                  refine lv_iload_n hx hb dX8_found_73 rfl (lv_at hl 3 rfl) ?_
                  exact hJ25 x2_3 hf H locs hP hD hS _ (lv_sub hl [2, 4] rfl)
                · have hf := it_t hf c28
                  refine lv_iconst (v := (1 : Int32)) hx hb dX8_found_69 (by decide) ?_
                  refine lv_goto (tgt := 74) hx hb dX8_found_70 (by decide) ?_
                  exact hJ25 (1 : Int32) hf H locs hP hD hS _ (lv_sub hl [2, 4] rfl)
              · have hf := it_f hf c27
                refine lv_iconst (v := (2 : Int32)) hx hb dX8_found_61 (by decide) ?_
                refine lv_goto (tgt := 74) hx hb dX8_found_62 (by decide) ?_
                exact hJ25 (2 : Int32) hf H locs hP hD hS _ (lv_sub hl [2, 4] rfl)
            · have hf := it_t hf c22
              refine lv_goto (tgt := 75) hx hb dX8_found_52 (by decide) ?_
              exact hJ19 x2_3 hf H locs hP hD hS _ (lv_sub hl [2, 3, 4] rfl)
    exact hL6 (0 : Int32) (0 : Int32) hf H locs hP hD hS _ (lv_sub hl [2, 1, 0] rfl)
  rw [hH, hlo] at hW
  exact hW
def f_X8_worthOf_L9 (self6 : Int32 → Int32 → Vs → Option (Int32 × Vs)) (x2_3 : Int32) (x3_4 : Int32) (vM_5 : Vs) : Option (Int32 × Vs) :=
  o1 (f_X8_faults vM_5) (fun (r9 : Int32) => if r9 ≤ x3_4 then some (x2_3, vM_5) else o2 (f_X8_found vM_5 x3_4) (fun (r14 : Int32) (vM_15 : Vs) => jn (fun (t17 : Int32) => self6 (x2_3 + t17) (x3_4 + (1 : Int32)) vM_15) (fun k18 => if r14 = (2 : Int32) then k18 (1 : Int32) else k18 (0 : Int32))))
def f_X8_worthOf (vM : Vs) (x1 : Int32) : Option (Int32 × Vs) :=
  o1 (f_X8_asksTest vM x1) (fun (vM_1 : Vs) => lp f_X8_worthOf_L9 (fun _ _ _ => none) FU (0 : Int32) (0 : Int32) vM_1)
abbrev wsX8_worthOf : List Cond := .code yX8_worthOf cX8_worthOf 4 (some .int) :: UW
abbrev rmX8_worthOf : Room := { frames := 5, cells := 0, slots := 0, locals := 120 }
set_option maxHeartbeats 4000000 in
set_option maxRecDepth 100000 in
theorem c_X8_worthOf (l : Launch) (g : Gx) (bM : Nat → Nat) (vM : Vs) (x1 : Int32) (r : Int32) (vM1 : Vs) (hf : f_X8_worthOf vM x1 = some (r, vM1)) : CtI l yX8_worthOf wsX8_worthOf rmX8_worthOf g [.ref (bM 0), .int x1] (cM g bM vM) (cM g bM vM1) r 0 0 := by
  unfold CtI
  intro sz
  refine Met.ofW (cc := cX8_worthOf) (maxL := 4) (ret := (some .int)) (by decide) rfl ?_
  intro p e s m args below meth c s₁ B hml hv
  obtain ⟨rfl, hsz, hP, hK, hD0, hG⟩ := hv
  have hx := B.exec
  have hb := B.bytes
  have hr := B.returns
  have hts := atoms_spec (ws := wsX8_worthOf) B.pre
  have hown : s.vm.findClass RX8 = some m.cls := findClass_of_methodNamed B.named
  have hlocks := B.notSynchronized
  subst hsz
  have hD := hD0.self (sz := s.heap.size)
  generalize hAe : va_A (cM g bM vM) s.heap.size = A at hD hG ⊢
  have hA : ∀ q : Nat, s.heap.size ≤ q → A q := fun q h => by rw [← hAe]; exact Or.inr h
  clear hAe hD0
  have hS : va_S A s.heap s.heap [] := va_S.rf
  have hl := lv_entry ([.ref (bM 0), .int x1]) (n := 4) (Nat.le_of_ble_eq_true rfl)
  rw [lg_entry_eq]
  generalize (lg_sl ([.ref (bM 0), .int x1]) ++ List.replicate (4 - (lg_sl ([.ref (bM 0), .int x1])).length) Slot.unset).toArray = ls at hl ⊢
  have hl : lv_has ls 4 [(0, .ref (bM 0)), (1, .int x1)] := hl
  have htu : ∀ w ∈ UW, w.before _ s = true := fun w h => hts w (List.mem_cons_of_mem _ h)
  unfold f_X8_worthOf at hf
  obtain ⟨H, hH⟩ : ∃ z, z = s.heap := ⟨_, rfl⟩
  obtain ⟨locs, hlo⟩ : ∃ z : List Loc, z = [] := ⟨_, rfl⟩
  have hS : va_S A s.heap H locs := by rw [hH, hlo]; exact hS
  rw [← hH] at hP
  have hW : W p l e (headSpec wsX8_worthOf rmX8_worthOf).room s m ([.ref (bM 0), .int x1] : List Value).toArray below meth c H locs 0 0 (MQ below (qI g A (cM g bM vM1) r) ([.ref (bM 0), .int x1] : List Value).toArray s 0 0 A) (F0 m 0 ls []) := by
    refine lv_aload_n hx hb dX8_worthOf_0 rfl (lv_at hl 0 rfl) ?_
    refine lv_iload_n hx hb dX8_worthOf_1 rfl (lv_at hl 1 rfl) ?_
    obtain ⟨vM_1, hg2, hf⟩ := o1_at hf
    refine k_vvW ⟨hx, hb, hml, hown, htu⟩ hK hP hD hS hA hG (c_X8_asksTest l g bM vM x1 vM_1 hg2) (cwV 1 htu (gU_V mw_6_68 hcX8_asksTest) rfl rfl rfl hdX8_asksTest ⟨Nat.le_of_ble_eq_true rfl, Nat.le_of_ble_eq_true rfl⟩) (q0 := 0) (ci := 8) (fs := fcM bM vM) (q := (RX8, TX8, 23)) rfl rfl rfl (As := [.int x1]) (rest := []) rfl rfl hl.1 (Nat.le_of_ble_eq_true rfl) dX8_worthOf_2 (k1 := 0) (n1 := 0) rfl rfl ⟨Nat.zero_le _, Nat.zero_le _⟩ (fun H locs hP hD hS => ?_)
    refine lv_iconst (v := (0 : Int32)) hx hb dX8_worthOf_5 (by decide) ?_
    refine lv_istore_n (lv' := [(2, .int (0 : Int32)), (0, .ref (bM 0)), (1, .int x1)]) hx hb dX8_worthOf_6 rfl hl (by decide) rfl (fun ls hl => ?_)
    refine lv_iconst (v := (0 : Int32)) hx hb dX8_worthOf_7 (by decide) ?_
    refine lv_istore_n (lv' := [(3, .int (0 : Int32)), (2, .int (0 : Int32)), (0, .ref (bM 0)), (1, .int x1)]) hx hb dX8_worthOf_8 rfl hl (by decide) rfl (fun ls hl => ?_)
    have hL7 : ∀ (x2_3 : Int32) (x3_4 : Int32) (vM_5 : Vs), lp f_X8_worthOf_L9 (fun _ _ _ => none) FU x2_3 x3_4 vM_5 = some (r, vM1) → ∀ (H : Heap) (locs : List Loc), va_P g.1 vwCl (cM g bM vM_5) H → va_D A (cM g bM vM_5) → va_S A s.heap H locs → ∀ ls : Array Slot, lv_has ls 4 [(0, .ref (bM 0)), (2, .int x2_3), (3, .int x3_4)] → W p l e (headSpec wsX8_worthOf rmX8_worthOf).room s m ([.ref (bM 0), .int x1] : List Value).toArray below meth c H locs 0 0 (MQ below (qI g A (cM g bM vM1) r) ([.ref (bM 0), .int x1] : List Value).toArray s 0 0 A) (F0 m 9 ls []) := by
      refine lp_ind (T := Int32 → Int32 → Vs → Option (Int32 × Vs)) (fun self6 => ∀ (x2_3 : Int32) (x3_4 : Int32) (vM_5 : Vs), self6 x2_3 x3_4 vM_5 = some (r, vM1) → ∀ (H : Heap) (locs : List Loc), va_P g.1 vwCl (cM g bM vM_5) H → va_D A (cM g bM vM_5) → va_S A s.heap H locs → ∀ ls : Array Slot, lv_has ls 4 [(0, .ref (bM 0)), (2, .int x2_3), (3, .int x3_4)] → W p l e (headSpec wsX8_worthOf rmX8_worthOf).room s m ([.ref (bM 0), .int x1] : List Value).toArray below meth c H locs 0 0 (MQ below (qI g A (cM g bM vM1) r) ([.ref (bM 0), .int x1] : List Value).toArray s 0 0 A) (F0 m 9 ls [])) ?_ ?_ FU
      · intro x2_3 x3_4 vM_5 hf; cases hf
      · intro self6 ih8 x2_3 x3_4 vM_5 hf H locs hP hD hS ls hl
        unfold f_X8_worthOf_L9 at hf
        refine lv_iload_n hx hb dX8_worthOf_9 rfl (lv_at hl 2 rfl) ?_
        refine lv_aload_n hx hb dX8_worthOf_10 rfl (lv_at hl 0 rfl) ?_
        obtain ⟨r9, hg10, hf⟩ := o1_at hf
        refine k_viW ⟨hx, hb, hml, hown, htu⟩ hK hP hD hS hA hG (c_X8_faults l g bM vM_5 r9 hg10) (cwV 0 htu (gU_V mw_6_44 hcX8_faults) rfl rfl rfl hdX8_faults ⟨Nat.le_of_ble_eq_true rfl, Nat.le_of_ble_eq_true rfl⟩) (q0 := 0) (ci := 8) (fs := fcM bM vM_5) (q := (RX8, TX8, 23)) rfl rfl rfl (As := []) (rest := [.int x3_4]) rfl rfl hl.1 (Nat.le_of_ble_eq_true rfl) dX8_worthOf_11 (k1 := 0) (n1 := 0) rfl rfl ⟨Nat.zero_le _, Nat.zero_le _⟩ (fun H locs hP hD hS => ?_)
        refine lv_icmp_ge (tgt := 40) hx hb dX8_worthOf_14 (by decide) (fun c11 => ?_) (fun c11 => ?_)
        · have hf := it_t hf c11
          refine lv_iload_n hx hb dX8_worthOf_40 rfl (lv_at hl 1 rfl) ?_
          obtain ⟨e12, e13⟩ := kp_2 hf
          rw [e13] at hP hD
          exact k_iret hx hb hr hlocks hK hP hD hS e12 dX8_worthOf_41
        · have hf := it_f hf c11
          refine lv_iload_n hx hb dX8_worthOf_17 rfl (lv_at hl 1 rfl) ?_
          refine lv_aload_n hx hb dX8_worthOf_18 rfl (lv_at hl 0 rfl) ?_
          refine lv_iload_n hx hb dX8_worthOf_19 rfl (lv_at hl 2 rfl) ?_
          obtain ⟨r14, vM_15, hg16, hf⟩ := o2_at hf
          refine k_viW ⟨hx, hb, hml, hown, htu⟩ hK hP hD hS hA hG (c_X8_found l g bM vM_5 x3_4 r14 vM_15 hg16) (cwV 1 htu (gU_V mw_6_98 hcX8_found) rfl rfl rfl hdX8_found ⟨Nat.le_of_ble_eq_true rfl, Nat.le_of_ble_eq_true rfl⟩) (q0 := 0) (ci := 8) (fs := fcM bM vM_5) (q := (RX8, TX8, 23)) rfl rfl rfl (As := [.int x3_4]) (rest := [.int x2_3]) rfl rfl hl.1 (Nat.le_of_ble_eq_true rfl) dX8_worthOf_20 (k1 := 0) (n1 := 0) rfl rfl ⟨Nat.zero_le _, Nat.zero_le _⟩ (fun H locs hP hD hS => ?_)
          refine lv_iconst (v := (2 : Int32)) hx hb dX8_worthOf_23 (by decide) ?_
          obtain ⟨k18, hk20, hf⟩ := jn_at hf
          have hJ19 : ∀ (t17 : Int32), k18 t17 = some (r, vM1) → ∀ (H : Heap) (locs : List Loc), va_P g.1 vwCl (cM g bM vM_15) H → va_D A (cM g bM vM_15) → va_S A s.heap H locs → ∀ ls : Array Slot, lv_has ls 4 [(0, .ref (bM 0)), (3, .int x3_4)] → W p l e (headSpec wsX8_worthOf rmX8_worthOf).room s m ([.ref (bM 0), .int x1] : List Value).toArray below meth c H locs 0 0 (MQ below (qI g A (cM g bM vM1) r) ([.ref (bM 0), .int x1] : List Value).toArray s 0 0 A) (F0 m 32 ls [.int t17, .int x2_3]) := by
            intro t17 hf H locs hP hD hS ls hl
            rw [hk20] at hf
            dsimp only at hf
            clear hk20
            refine lv_iadd hx hb dX8_worthOf_32 ?_
            refine lv_istore_n (lv' := [(2, .int (x2_3 + t17)), (0, .ref (bM 0)), (3, .int x3_4)]) hx hb dX8_worthOf_33 rfl hl (by decide) rfl (fun ls hl => ?_)
            refine lv_iinc (v := (x3_4 + (1 : Int32))) (lv' := [(3, .int (x3_4 + (1 : Int32))), (2, .int (x2_3 + t17)), (0, .ref (bM 0))]) hx hb dX8_worthOf_34 hl (k := 2) rfl rfl (by decide) rfl (fun ls hl => ?_)
            refine lv_goto (tgt := 9) hx hb dX8_worthOf_37 (by decide) ?_
            exact ih8 (x2_3 + t17) (x3_4 + (1 : Int32)) vM_15 hf H locs hP hD hS _ (lv_sub hl [2, 1, 0] rfl)
          refine lv_icmp_ne (tgt := 31) hx hb dX8_worthOf_24 (by decide) (fun c21 => ?_) (fun c21 => ?_)
          · have hf := it_f hf c21
            refine lv_iconst (v := (0 : Int32)) hx hb dX8_worthOf_31 (by decide) ?_
            exact hJ19 (0 : Int32) hf H locs hP hD hS _ (lv_sub hl [0, 2] rfl)
          · have hf := it_t hf c21
            refine lv_iconst (v := (1 : Int32)) hx hb dX8_worthOf_27 (by decide) ?_
            refine lv_goto (tgt := 32) hx hb dX8_worthOf_28 (by decide) ?_
            exact hJ19 (1 : Int32) hf H locs hP hD hS _ (lv_sub hl [0, 2] rfl)
    exact hL7 (0 : Int32) (0 : Int32) vM_1 hf H locs hP hD hS _ (lv_sub hl [2, 1, 0] rfl)
  rw [hH, hlo] at hW
  exact hW
def f_X8_finders_L40 (x1_9 : Int32) (self11 : Int32 → Vs → Option (Vs)) (self22 : Int32 → Vs → Option (Vs)) (x2_20 : Int32) (vM_21 : Vs) : Option (Vs) :=
  o1 (f_X8_faults vM_21) (fun (r25 : Int32) => if r25 ≤ x2_20 then self11 (x1_9 + (1 : Int32)) vM_21 else gd (inb x2_20 56) (o2 (f_X8_found vM_21 x2_20) (fun (r29 : Int32) (vM_30 : Vs) => jn (fun (t32 : Int32) => gd (inb x2_20 56) (bn (sI vM_30 9 (x2_20).toNatClampNeg ((vM_21.2.1 9 (x2_20).toNatClampNeg) ||| t32)) (fun (vM_36 : Vs) => self22 (x2_20 + (1 : Int32)) vM_36))) (fun k33 => if r29 = (2 : Int32) then k33 ((1 : Int32) <<< (x1_9 &&& 31)) else k33 (0 : Int32)))))
def f_X8_finders_L25 (self11 : Int32 → Vs → Option (Vs)) (x1_9 : Int32) (vM_10 : Vs) : Option (Vs) :=
  o1 (f_X8_tests vM_10) (fun (r14 : Int32) => if r14 ≤ x1_9 then some (vM_10) else o1 (f_X8_asksTest vM_10 x1_9) (fun (vM_18 : Vs) => lp (f_X8_finders_L40 x1_9 self11) (fun _ _ => none) FU (0 : Int32) vM_18))
def f_X8_finders_L2 (self3 : Int32 → Vs → Option (Vs)) (x1_1 : Int32) (vM_2 : Vs) : Option (Vs) :=
  o1 (f_X8_faults vM_2) (fun (r6 : Int32) => if r6 ≤ x1_1 then lp f_X8_finders_L25 (fun _ _ => none) FU (0 : Int32) vM_2 else gd (inb x1_1 56) (bn (sI vM_2 9 (x1_1).toNatClampNeg (0 : Int32)) (fun (vM_40 : Vs) => self3 (x1_1 + (1 : Int32)) vM_40)))
def f_X8_finders (vM : Vs) : Option (Vs) :=
  lp f_X8_finders_L2 (fun _ _ => none) FU (0 : Int32) vM
abbrev wsX8_finders : List Cond := .code yX8_finders cX8_finders 3 none :: UW
abbrev rmX8_finders : Room := { frames := 5, cells := 0, slots := 0, locals := 120 }
set_option maxHeartbeats 4000000 in
set_option maxRecDepth 100000 in
theorem c_X8_finders (l : Launch) (g : Gx) (bM : Nat → Nat) (vM : Vs) (vM1 : Vs) (hf : f_X8_finders vM = some vM1) : CtV l yX8_finders wsX8_finders rmX8_finders g [.ref (bM 0)] (cM g bM vM) (cM g bM vM1) 0 0 := by
  unfold CtV
  intro sz
  refine Met.ofW (cc := cX8_finders) (maxL := 3) (ret := none) (by decide) rfl ?_
  intro p e s m args below meth c s₁ B hml hv
  obtain ⟨rfl, hsz, hP, hK, hD0, hG⟩ := hv
  have hx := B.exec
  have hb := B.bytes
  have hr := B.returns
  have hts := atoms_spec (ws := wsX8_finders) B.pre
  have hown : s.vm.findClass RX8 = some m.cls := findClass_of_methodNamed B.named
  have hlocks := B.notSynchronized
  subst hsz
  have hD := hD0.self (sz := s.heap.size)
  generalize hAe : va_A (cM g bM vM) s.heap.size = A at hD hG ⊢
  have hA : ∀ q : Nat, s.heap.size ≤ q → A q := fun q h => by rw [← hAe]; exact Or.inr h
  clear hAe hD0
  have hS : va_S A s.heap s.heap [] := va_S.rf
  have hl := lv_entry ([.ref (bM 0)]) (n := 3) (Nat.le_of_ble_eq_true rfl)
  rw [lg_entry_eq]
  generalize (lg_sl ([.ref (bM 0)]) ++ List.replicate (3 - (lg_sl ([.ref (bM 0)])).length) Slot.unset).toArray = ls at hl ⊢
  have hl : lv_has ls 3 [(0, .ref (bM 0))] := hl
  have htu : ∀ w ∈ UW, w.before _ s = true := fun w h => hts w (List.mem_cons_of_mem _ h)
  have k_5_81 := htu _ mw_5_81
  unfold f_X8_finders at hf
  obtain ⟨H, hH⟩ : ∃ z, z = s.heap := ⟨_, rfl⟩
  obtain ⟨locs, hlo⟩ : ∃ z : List Loc, z = [] := ⟨_, rfl⟩
  have hS : va_S A s.heap H locs := by rw [hH, hlo]; exact hS
  rw [← hH] at hP
  have hW : W p l e (headSpec wsX8_finders rmX8_finders).room s m ([.ref (bM 0)] : List Value).toArray below meth c H locs 0 0 (MQ below (qV g A (cM g bM vM1)) ([.ref (bM 0)] : List Value).toArray s 0 0 A) (F0 m 0 ls []) := by
    refine lv_iconst (v := (0 : Int32)) hx hb dX8_finders_0 (by decide) ?_
    refine lv_istore_n (lv' := [(1, .int (0 : Int32)), (0, .ref (bM 0))]) hx hb dX8_finders_1 rfl hl (by decide) rfl (fun ls hl => ?_)
    have hL4 : ∀ (x1_1 : Int32) (vM_2 : Vs), lp f_X8_finders_L2 (fun _ _ => none) FU x1_1 vM_2 = some vM1 → ∀ (H : Heap) (locs : List Loc), va_P g.1 vwCl (cM g bM vM_2) H → va_D A (cM g bM vM_2) → va_S A s.heap H locs → ∀ ls : Array Slot, lv_has ls 3 [(0, .ref (bM 0)), (1, .int x1_1)] → W p l e (headSpec wsX8_finders rmX8_finders).room s m ([.ref (bM 0)] : List Value).toArray below meth c H locs 0 0 (MQ below (qV g A (cM g bM vM1)) ([.ref (bM 0)] : List Value).toArray s 0 0 A) (F0 m 2 ls []) := by
      refine lp_ind (T := Int32 → Vs → Option (Vs)) (fun self3 => ∀ (x1_1 : Int32) (vM_2 : Vs), self3 x1_1 vM_2 = some vM1 → ∀ (H : Heap) (locs : List Loc), va_P g.1 vwCl (cM g bM vM_2) H → va_D A (cM g bM vM_2) → va_S A s.heap H locs → ∀ ls : Array Slot, lv_has ls 3 [(0, .ref (bM 0)), (1, .int x1_1)] → W p l e (headSpec wsX8_finders rmX8_finders).room s m ([.ref (bM 0)] : List Value).toArray below meth c H locs 0 0 (MQ below (qV g A (cM g bM vM1)) ([.ref (bM 0)] : List Value).toArray s 0 0 A) (F0 m 2 ls [])) ?_ ?_ FU
      · intro x1_1 vM_2 hf; cases hf
      · intro self3 ih5 x1_1 vM_2 hf H locs hP hD hS ls hl
        unfold f_X8_finders_L2 at hf
        refine lv_iload_n hx hb dX8_finders_2 rfl (lv_at hl 1 rfl) ?_
        refine lv_aload_n hx hb dX8_finders_3 rfl (lv_at hl 0 rfl) ?_
        obtain ⟨r6, hg7, hf⟩ := o1_at hf
        refine k_viW ⟨hx, hb, hml, hown, htu⟩ hK hP hD hS hA hG (c_X8_faults l g bM vM_2 r6 hg7) (cwV 0 htu (gU_V mw_6_44 hcX8_faults) rfl rfl rfl hdX8_faults ⟨Nat.le_of_ble_eq_true rfl, Nat.le_of_ble_eq_true rfl⟩) (q0 := 0) (ci := 8) (fs := fcM bM vM_2) (q := (RX8, TX8, 23)) rfl rfl rfl (As := []) (rest := [.int x1_1]) rfl rfl hl.1 (Nat.le_of_ble_eq_true rfl) dX8_finders_4 (k1 := 0) (n1 := 0) rfl rfl ⟨Nat.zero_le _, Nat.zero_le _⟩ (fun H locs hP hD hS => ?_)
        refine lv_icmp_ge (tgt := 23) hx hb dX8_finders_7 (by decide) (fun c8 => ?_) (fun c8 => ?_)
        · have hf := it_t hf c8
          refine lv_iconst (v := (0 : Int32)) hx hb dX8_finders_23 (by decide) ?_
          refine lv_istore_n (lv' := [(1, .int (0 : Int32)), (0, .ref (bM 0))]) hx hb dX8_finders_24 rfl hl (by decide) rfl (fun ls hl => ?_)
          have hL12 : ∀ (x1_9 : Int32) (vM_10 : Vs), lp f_X8_finders_L25 (fun _ _ => none) FU x1_9 vM_10 = some vM1 → ∀ (H : Heap) (locs : List Loc), va_P g.1 vwCl (cM g bM vM_10) H → va_D A (cM g bM vM_10) → va_S A s.heap H locs → ∀ ls : Array Slot, lv_has ls 3 [(0, .ref (bM 0)), (1, .int x1_9)] → W p l e (headSpec wsX8_finders rmX8_finders).room s m ([.ref (bM 0)] : List Value).toArray below meth c H locs 0 0 (MQ below (qV g A (cM g bM vM1)) ([.ref (bM 0)] : List Value).toArray s 0 0 A) (F0 m 25 ls []) := by
            refine lp_ind (T := Int32 → Vs → Option (Vs)) (fun self11 => ∀ (x1_9 : Int32) (vM_10 : Vs), self11 x1_9 vM_10 = some vM1 → ∀ (H : Heap) (locs : List Loc), va_P g.1 vwCl (cM g bM vM_10) H → va_D A (cM g bM vM_10) → va_S A s.heap H locs → ∀ ls : Array Slot, lv_has ls 3 [(0, .ref (bM 0)), (1, .int x1_9)] → W p l e (headSpec wsX8_finders rmX8_finders).room s m ([.ref (bM 0)] : List Value).toArray below meth c H locs 0 0 (MQ below (qV g A (cM g bM vM1)) ([.ref (bM 0)] : List Value).toArray s 0 0 A) (F0 m 25 ls [])) ?_ ?_ FU
            · intro x1_9 vM_10 hf; cases hf
            · intro self11 ih13 x1_9 vM_10 hf H locs hP hD hS ls hl
              unfold f_X8_finders_L25 at hf
              refine lv_iload_n hx hb dX8_finders_25 rfl (lv_at hl 1 rfl) ?_
              refine lv_aload_n hx hb dX8_finders_26 rfl (lv_at hl 0 rfl) ?_
              obtain ⟨r14, hg15, hf⟩ := o1_at hf
              refine k_viW ⟨hx, hb, hml, hown, htu⟩ hK hP hD hS hA hG (c_X8_tests l g bM vM_10 r14 hg15) (cwV 0 htu (gU_V mw_6_48 hcX8_tests) rfl rfl rfl hdX8_tests ⟨Nat.le_of_ble_eq_true rfl, Nat.le_of_ble_eq_true rfl⟩) (q0 := 0) (ci := 8) (fs := fcM bM vM_10) (q := (RX8, TX8, 23)) rfl rfl rfl (As := []) (rest := [.int x1_9]) rfl rfl hl.1 (Nat.le_of_ble_eq_true rfl) dX8_finders_27 (k1 := 0) (n1 := 0) rfl rfl ⟨Nat.zero_le _, Nat.zero_le _⟩ (fun H locs hP hD hS => ?_)
              refine lv_icmp_ge (tgt := 85) hx hb dX8_finders_30 (by decide) (fun c16 => ?_) (fun c16 => ?_)
              · have hf := it_t hf c16
                have e17 := Option.some.inj hf
                rw [e17] at hP hD
                exact k_vret hx hb hr hlocks hK hP hD hS dX8_finders_85
              · have hf := it_f hf c16
                refine lv_aload_n hx hb dX8_finders_33 rfl (lv_at hl 0 rfl) ?_
                refine lv_iload_n hx hb dX8_finders_34 rfl (lv_at hl 1 rfl) ?_
                obtain ⟨vM_18, hg19, hf⟩ := o1_at hf
                refine k_vvW ⟨hx, hb, hml, hown, htu⟩ hK hP hD hS hA hG (c_X8_asksTest l g bM vM_10 x1_9 vM_18 hg19) (cwV 1 htu (gU_V mw_6_68 hcX8_asksTest) rfl rfl rfl hdX8_asksTest ⟨Nat.le_of_ble_eq_true rfl, Nat.le_of_ble_eq_true rfl⟩) (q0 := 0) (ci := 8) (fs := fcM bM vM_10) (q := (RX8, TX8, 23)) rfl rfl rfl (As := [.int x1_9]) (rest := []) rfl rfl hl.1 (Nat.le_of_ble_eq_true rfl) dX8_finders_35 (k1 := 0) (n1 := 0) rfl rfl ⟨Nat.zero_le _, Nat.zero_le _⟩ (fun H locs hP hD hS => ?_)
                refine lv_iconst (v := (0 : Int32)) hx hb dX8_finders_38 (by decide) ?_
                refine lv_istore_n (lv' := [(2, .int (0 : Int32)), (0, .ref (bM 0)), (1, .int x1_9)]) hx hb dX8_finders_39 rfl hl (by decide) rfl (fun ls hl => ?_)
                have hL23 : ∀ (x2_20 : Int32) (vM_21 : Vs), lp (f_X8_finders_L40 x1_9 self11) (fun _ _ => none) FU x2_20 vM_21 = some vM1 → ∀ (H : Heap) (locs : List Loc), va_P g.1 vwCl (cM g bM vM_21) H → va_D A (cM g bM vM_21) → va_S A s.heap H locs → ∀ ls : Array Slot, lv_has ls 3 [(0, .ref (bM 0)), (1, .int x1_9), (2, .int x2_20)] → W p l e (headSpec wsX8_finders rmX8_finders).room s m ([.ref (bM 0)] : List Value).toArray below meth c H locs 0 0 (MQ below (qV g A (cM g bM vM1)) ([.ref (bM 0)] : List Value).toArray s 0 0 A) (F0 m 40 ls []) := by
                  refine lp_ind (T := Int32 → Vs → Option (Vs)) (fun self22 => ∀ (x2_20 : Int32) (vM_21 : Vs), self22 x2_20 vM_21 = some vM1 → ∀ (H : Heap) (locs : List Loc), va_P g.1 vwCl (cM g bM vM_21) H → va_D A (cM g bM vM_21) → va_S A s.heap H locs → ∀ ls : Array Slot, lv_has ls 3 [(0, .ref (bM 0)), (1, .int x1_9), (2, .int x2_20)] → W p l e (headSpec wsX8_finders rmX8_finders).room s m ([.ref (bM 0)] : List Value).toArray below meth c H locs 0 0 (MQ below (qV g A (cM g bM vM1)) ([.ref (bM 0)] : List Value).toArray s 0 0 A) (F0 m 40 ls [])) ?_ ?_ FU
                  · intro x2_20 vM_21 hf; cases hf
                  · intro self22 ih24 x2_20 vM_21 hf H locs hP hD hS ls hl
                    unfold f_X8_finders_L40 at hf
                    refine lv_iload_n hx hb dX8_finders_40 rfl (lv_at hl 2 rfl) ?_
                    refine lv_aload_n hx hb dX8_finders_41 rfl (lv_at hl 0 rfl) ?_
                    obtain ⟨r25, hg26, hf⟩ := o1_at hf
                    refine k_viW ⟨hx, hb, hml, hown, htu⟩ hK hP hD hS hA hG (c_X8_faults l g bM vM_21 r25 hg26) (cwV 0 htu (gU_V mw_6_44 hcX8_faults) rfl rfl rfl hdX8_faults ⟨Nat.le_of_ble_eq_true rfl, Nat.le_of_ble_eq_true rfl⟩) (q0 := 0) (ci := 8) (fs := fcM bM vM_21) (q := (RX8, TX8, 23)) rfl rfl rfl (As := []) (rest := [.int x2_20]) rfl rfl hl.1 (Nat.le_of_ble_eq_true rfl) dX8_finders_42 (k1 := 0) (n1 := 0) rfl rfl ⟨Nat.zero_le _, Nat.zero_le _⟩ (fun H locs hP hD hS => ?_)
                    refine lv_icmp_ge (tgt := 79) hx hb dX8_finders_45 (by decide) (fun c27 => ?_) (fun c27 => ?_)
                    · have hf := it_t hf c27
                      refine lv_iinc (v := (x1_9 + (1 : Int32))) (lv' := [(1, .int (x1_9 + (1 : Int32))), (0, .ref (bM 0)), (2, .int x2_20)]) hx hb dX8_finders_79 hl (k := 1) rfl rfl (by decide) rfl (fun ls hl => ?_)
                      refine lv_goto (tgt := 25) hx hb dX8_finders_82 (by decide) ?_
                      exact ih13 (x1_9 + (1 : Int32)) vM_21 hf H locs hP hD hS _ (lv_sub hl [1, 0] rfl)
                    · have hf := it_f hf c27
                      refine lv_aload_n hx hb dX8_finders_48 rfl (lv_at hl 0 rfl) ?_
                      refine va_get (D := g.1) (ci := 8) (fs := fcM bM vM_21) (v := .ref (bM 10)) (C := RX8) (T := TX8) (N := 23) hx hb htu hinX8 hown hK hP 0 rfl rfl 9 (by decide) k_5_81 (fun _ h9 => h9) rfl dX8_finders_49 ?_
                      refine lv_iload_n hx hb dX8_finders_52 rfl (lv_at hl 2 rfl) ?_
                      refine lv_dup2_11 hx hb dX8_finders_53 rfl rfl ?_
                      obtain ⟨h28, hf⟩ := gd_in hf
                      refine va_iald (D := g.1) (f := (vM_21.2.1 9)) hx hb hK hP 7 0 rfl rfl h28 dX8_finders_54 ?_
                      refine lv_aload_n hx hb dX8_finders_55 rfl (lv_at hl 0 rfl) ?_
                      refine lv_iload_n hx hb dX8_finders_56 rfl (lv_at hl 2 rfl) ?_
                      obtain ⟨r29, vM_30, hg31, hf⟩ := o2_at hf
                      refine k_viW ⟨hx, hb, hml, hown, htu⟩ hK hP hD hS hA hG (c_X8_found l g bM vM_21 x2_20 r29 vM_30 hg31) (cwV 1 htu (gU_V mw_6_98 hcX8_found) rfl rfl rfl hdX8_found ⟨Nat.le_of_ble_eq_true rfl, Nat.le_of_ble_eq_true rfl⟩) (q0 := 0) (ci := 8) (fs := fcM bM vM_21) (q := (RX8, TX8, 23)) rfl rfl rfl (As := [.int x2_20]) (rest := [.int (vM_21.2.1 9 (x2_20).toNatClampNeg), .int x2_20, .ref (bM 10)]) rfl rfl hl.1 (Nat.le_of_ble_eq_true rfl) dX8_finders_57 (k1 := 0) (n1 := 0) rfl rfl ⟨Nat.zero_le _, Nat.zero_le _⟩ (fun H locs hP hD hS => ?_)
                      refine lv_iconst (v := (2 : Int32)) hx hb dX8_finders_60 (by decide) ?_
                      obtain ⟨k33, hk37, hf⟩ := jn_at hf
                      have hJ34 : ∀ (t32 : Int32), k33 t32 = some vM1 → ∀ (H : Heap) (locs : List Loc), va_P g.1 vwCl (cM g bM vM_30) H → va_D A (cM g bM vM_30) → va_S A s.heap H locs → ∀ ls : Array Slot, lv_has ls 3 [(0, .ref (bM 0)), (1, .int x1_9), (2, .int x2_20)] → W p l e (headSpec wsX8_finders rmX8_finders).room s m ([.ref (bM 0)] : List Value).toArray below meth c H locs 0 0 (MQ below (qV g A (cM g bM vM1)) ([.ref (bM 0)] : List Value).toArray s 0 0 A) (F0 m 71 ls [.int t32, .int (vM_21.2.1 9 (x2_20).toNatClampNeg), .int x2_20, .ref (bM 10)]) := by
                        intro t32 hf H locs hP hD hS ls hl
                        rw [hk37] at hf
                        dsimp only at hf
                        clear hk37
                        refine lv_ior hx hb dX8_finders_71 ?_
                        obtain ⟨h35, hf⟩ := gd_in hf
                        refine va_iast (D := g.1) (f := (vM_30.2.1 9)) hx hb hK hP hD hS 7 0 rfl rfl h35 dX8_finders_72 (fun H locs hP hD hS => ?_)
                        obtain ⟨vM_36, evM_36⟩ : ∃ z, z = sI vM_30 9 (x2_20).toNatClampNeg ((vM_21.2.1 9 (x2_20).toNatClampNeg) ||| t32) := ⟨_, rfl⟩
                        have hf := bn_at hf evM_36
                        have hP : va_P g.1 vwCl (cM g bM vM_36) H := by rw [evM_36]; exact hP
                        have hD : va_D A (cM g bM vM_36) := by rw [evM_36]; exact hD
                        refine lv_iinc (v := (x2_20 + (1 : Int32))) (lv' := [(2, .int (x2_20 + (1 : Int32))), (0, .ref (bM 0)), (1, .int x1_9)]) hx hb dX8_finders_73 hl (k := 2) rfl rfl (by decide) rfl (fun ls hl => ?_)
                        refine lv_goto (tgt := 40) hx hb dX8_finders_76 (by decide) ?_
                        exact ih24 (x2_20 + (1 : Int32)) vM_36 hf H locs hP hD hS _ (lv_sub hl [1, 2, 0] rfl)
                      refine lv_icmp_ne (tgt := 70) hx hb dX8_finders_61 (by decide) (fun c38 => ?_) (fun c38 => ?_)
                      · have hf := it_f hf c38
                        refine lv_iconst (v := (0 : Int32)) hx hb dX8_finders_70 (by decide) ?_
                        exact hJ34 (0 : Int32) hf H locs hP hD hS _ (lv_sub hl [0, 1, 2] rfl)
                      · have hf := it_t hf c38
                        refine lv_iconst (v := (1 : Int32)) hx hb dX8_finders_64 (by decide) ?_
                        refine lv_iload_n hx hb dX8_finders_65 rfl (lv_at hl 1 rfl) ?_
                        refine lv_ishl hx hb dX8_finders_66 ?_
                        refine lv_goto (tgt := 71) hx hb dX8_finders_67 (by decide) ?_
                        exact hJ34 ((1 : Int32) <<< (x1_9 &&& 31)) hf H locs hP hD hS _ (lv_sub hl [0, 1, 2] rfl)
                exact hL23 (0 : Int32) vM_18 hf H locs hP hD hS _ (lv_sub hl [1, 2, 0] rfl)
          exact hL12 (0 : Int32) vM_2 hf H locs hP hD hS _ (lv_sub hl [1, 0] rfl)
        · have hf := it_f hf c8
          refine lv_aload_n hx hb dX8_finders_10 rfl (lv_at hl 0 rfl) ?_
          refine va_get (D := g.1) (ci := 8) (fs := fcM bM vM_2) (v := .ref (bM 10)) (C := RX8) (T := TX8) (N := 23) hx hb htu hinX8 hown hK hP 0 rfl rfl 9 (by decide) k_5_81 (fun _ h9 => h9) rfl dX8_finders_11 ?_
          refine lv_iload_n hx hb dX8_finders_14 rfl (lv_at hl 1 rfl) ?_
          refine lv_iconst (v := (0 : Int32)) hx hb dX8_finders_15 (by decide) ?_
          obtain ⟨h39, hf⟩ := gd_in hf
          refine va_iast (D := g.1) (f := (vM_2.2.1 9)) hx hb hK hP hD hS 7 0 rfl rfl h39 dX8_finders_16 (fun H locs hP hD hS => ?_)
          obtain ⟨vM_40, evM_40⟩ : ∃ z, z = sI vM_2 9 (x1_1).toNatClampNeg (0 : Int32) := ⟨_, rfl⟩
          have hf := bn_at hf evM_40
          have hP : va_P g.1 vwCl (cM g bM vM_40) H := by rw [evM_40]; exact hP
          have hD : va_D A (cM g bM vM_40) := by rw [evM_40]; exact hD
          refine lv_iinc (v := (x1_1 + (1 : Int32))) (lv' := [(1, .int (x1_1 + (1 : Int32))), (0, .ref (bM 0))]) hx hb dX8_finders_17 hl (k := 1) rfl rfl (by decide) rfl (fun ls hl => ?_)
          refine lv_goto (tgt := 2) hx hb dX8_finders_20 (by decide) ?_
          exact ih5 (x1_1 + (1 : Int32)) vM_40 hf H locs hP hD hS _ (lv_sub hl [1, 0] rfl)
    exact hL4 (0 : Int32) vM hf H locs hP hD hS _ (lv_sub hl [1, 0] rfl)
  rw [hH, hlo] at hW
  exact hW
def f_X8_foundMany_L8 (vM_1 : Vs) (self5 : Int32 → Int32 → Option (Int32 × Vs)) (x1_3 : Int32) (x2_4 : Int32) : Option (Int32 × Vs) :=
  o1 (f_X8_faults vM_1) (fun (r8 : Int32) => if r8 ≤ x2_4 then some (x1_3, vM_1) else gd (inb x2_4 56) (jn (fun (t14 : Int32) => self5 (x1_3 + t14) (x2_4 + (1 : Int32))) (fun k15 => if (vM_1.2.1 9 (x2_4).toNatClampNeg) = 0 then k15 (0 : Int32) else k15 (1 : Int32))))
def f_X8_foundMany (vM : Vs) : Option (Int32 × Vs) :=
  o1 (f_X8_finders vM) (fun (vM_1 : Vs) => lp (f_X8_foundMany_L8 vM_1) (fun _ _ => none) FU (0 : Int32) (0 : Int32))
abbrev wsX8_foundMany : List Cond := .code yX8_foundMany cX8_foundMany 3 (some .int) :: UW
abbrev rmX8_foundMany : Room := { frames := 6, cells := 0, slots := 0, locals := 142 }
set_option maxHeartbeats 4000000 in
set_option maxRecDepth 100000 in
theorem c_X8_foundMany (l : Launch) (g : Gx) (bM : Nat → Nat) (vM : Vs) (r : Int32) (vM1 : Vs) (hf : f_X8_foundMany vM = some (r, vM1)) : CtI l yX8_foundMany wsX8_foundMany rmX8_foundMany g [.ref (bM 0)] (cM g bM vM) (cM g bM vM1) r 0 0 := by
  unfold CtI
  intro sz
  refine Met.ofW (cc := cX8_foundMany) (maxL := 3) (ret := (some .int)) (by decide) rfl ?_
  intro p e s m args below meth c s₁ B hml hv
  obtain ⟨rfl, hsz, hP, hK, hD0, hG⟩ := hv
  have hx := B.exec
  have hb := B.bytes
  have hr := B.returns
  have hts := atoms_spec (ws := wsX8_foundMany) B.pre
  have hown : s.vm.findClass RX8 = some m.cls := findClass_of_methodNamed B.named
  have hlocks := B.notSynchronized
  subst hsz
  have hD := hD0.self (sz := s.heap.size)
  generalize hAe : va_A (cM g bM vM) s.heap.size = A at hD hG ⊢
  have hA : ∀ q : Nat, s.heap.size ≤ q → A q := fun q h => by rw [← hAe]; exact Or.inr h
  clear hAe hD0
  have hS : va_S A s.heap s.heap [] := va_S.rf
  have hl := lv_entry ([.ref (bM 0)]) (n := 3) (Nat.le_of_ble_eq_true rfl)
  rw [lg_entry_eq]
  generalize (lg_sl ([.ref (bM 0)]) ++ List.replicate (3 - (lg_sl ([.ref (bM 0)])).length) Slot.unset).toArray = ls at hl ⊢
  have hl : lv_has ls 3 [(0, .ref (bM 0))] := hl
  have htu : ∀ w ∈ UW, w.before _ s = true := fun w h => hts w (List.mem_cons_of_mem _ h)
  have k_5_81 := htu _ mw_5_81
  unfold f_X8_foundMany at hf
  obtain ⟨H, hH⟩ : ∃ z, z = s.heap := ⟨_, rfl⟩
  obtain ⟨locs, hlo⟩ : ∃ z : List Loc, z = [] := ⟨_, rfl⟩
  have hS : va_S A s.heap H locs := by rw [hH, hlo]; exact hS
  rw [← hH] at hP
  have hW : W p l e (headSpec wsX8_foundMany rmX8_foundMany).room s m ([.ref (bM 0)] : List Value).toArray below meth c H locs 0 0 (MQ below (qI g A (cM g bM vM1) r) ([.ref (bM 0)] : List Value).toArray s 0 0 A) (F0 m 0 ls []) := by
    refine lv_aload_n hx hb dX8_foundMany_0 rfl (lv_at hl 0 rfl) ?_
    obtain ⟨vM_1, hg2, hf⟩ := o1_at hf
    refine k_vvW ⟨hx, hb, hml, hown, htu⟩ hK hP hD hS hA hG (c_X8_finders l g bM vM vM_1 hg2) (cwV 0 htu (gU_V mw_6_64 hcX8_finders) rfl rfl rfl hdX8_finders ⟨Nat.le_of_ble_eq_true rfl, Nat.le_of_ble_eq_true rfl⟩) (q0 := 0) (ci := 8) (fs := fcM bM vM) (q := (RX8, TX8, 23)) rfl rfl rfl (As := []) (rest := []) rfl rfl hl.1 (Nat.le_of_ble_eq_true rfl) dX8_foundMany_1 (k1 := 0) (n1 := 0) rfl rfl ⟨Nat.zero_le _, Nat.zero_le _⟩ (fun H locs hP hD hS => ?_)
    refine lv_iconst (v := (0 : Int32)) hx hb dX8_foundMany_4 (by decide) ?_
    refine lv_istore_n (lv' := [(1, .int (0 : Int32)), (0, .ref (bM 0))]) hx hb dX8_foundMany_5 rfl hl (by decide) rfl (fun ls hl => ?_)
    refine lv_iconst (v := (0 : Int32)) hx hb dX8_foundMany_6 (by decide) ?_
    refine lv_istore_n (lv' := [(2, .int (0 : Int32)), (1, .int (0 : Int32)), (0, .ref (bM 0))]) hx hb dX8_foundMany_7 rfl hl (by decide) rfl (fun ls hl => ?_)
    have hL6 : ∀ (x1_3 : Int32) (x2_4 : Int32), lp (f_X8_foundMany_L8 vM_1) (fun _ _ => none) FU x1_3 x2_4 = some (r, vM1) → ∀ (H : Heap) (locs : List Loc), va_P g.1 vwCl (cM g bM vM_1) H → va_D A (cM g bM vM_1) → va_S A s.heap H locs → ∀ ls : Array Slot, lv_has ls 3 [(0, .ref (bM 0)), (1, .int x1_3), (2, .int x2_4)] → W p l e (headSpec wsX8_foundMany rmX8_foundMany).room s m ([.ref (bM 0)] : List Value).toArray below meth c H locs 0 0 (MQ below (qI g A (cM g bM vM1) r) ([.ref (bM 0)] : List Value).toArray s 0 0 A) (F0 m 8 ls []) := by
      refine lp_ind (T := Int32 → Int32 → Option (Int32 × Vs)) (fun self5 => ∀ (x1_3 : Int32) (x2_4 : Int32), self5 x1_3 x2_4 = some (r, vM1) → ∀ (H : Heap) (locs : List Loc), va_P g.1 vwCl (cM g bM vM_1) H → va_D A (cM g bM vM_1) → va_S A s.heap H locs → ∀ ls : Array Slot, lv_has ls 3 [(0, .ref (bM 0)), (1, .int x1_3), (2, .int x2_4)] → W p l e (headSpec wsX8_foundMany rmX8_foundMany).room s m ([.ref (bM 0)] : List Value).toArray below meth c H locs 0 0 (MQ below (qI g A (cM g bM vM1) r) ([.ref (bM 0)] : List Value).toArray s 0 0 A) (F0 m 8 ls [])) ?_ ?_ FU
      · intro x1_3 x2_4 hf; cases hf
      · intro self5 ih7 x1_3 x2_4 hf H locs hP hD hS ls hl
        unfold f_X8_foundMany_L8 at hf
        refine lv_iload_n hx hb dX8_foundMany_8 rfl (lv_at hl 2 rfl) ?_
        refine lv_aload_n hx hb dX8_foundMany_9 rfl (lv_at hl 0 rfl) ?_
        obtain ⟨r8, hg9, hf⟩ := o1_at hf
        refine k_viW ⟨hx, hb, hml, hown, htu⟩ hK hP hD hS hA hG (c_X8_faults l g bM vM_1 r8 hg9) (cwV 0 htu (gU_V mw_6_44 hcX8_faults) rfl rfl rfl hdX8_faults ⟨Nat.le_of_ble_eq_true rfl, Nat.le_of_ble_eq_true rfl⟩) (q0 := 0) (ci := 8) (fs := fcM bM vM_1) (q := (RX8, TX8, 23)) rfl rfl rfl (As := []) (rest := [.int x2_4]) rfl rfl hl.1 (Nat.le_of_ble_eq_true rfl) dX8_foundMany_10 (k1 := 0) (n1 := 0) rfl rfl ⟨Nat.zero_le _, Nat.zero_le _⟩ (fun H locs hP hD hS => ?_)
        refine lv_icmp_ge (tgt := 39) hx hb dX8_foundMany_13 (by decide) (fun c10 => ?_) (fun c10 => ?_)
        · have hf := it_t hf c10
          refine lv_iload_n hx hb dX8_foundMany_39 rfl (lv_at hl 1 rfl) ?_
          obtain ⟨e11, e12⟩ := kp_2 hf
          rw [e12] at hP hD
          exact k_iret hx hb hr hlocks hK hP hD hS e11 dX8_foundMany_40
        · have hf := it_f hf c10
          refine lv_iload_n hx hb dX8_foundMany_16 rfl (lv_at hl 1 rfl) ?_
          refine lv_aload_n hx hb dX8_foundMany_17 rfl (lv_at hl 0 rfl) ?_
          refine va_get (D := g.1) (ci := 8) (fs := fcM bM vM_1) (v := .ref (bM 10)) (C := RX8) (T := TX8) (N := 23) hx hb htu hinX8 hown hK hP 0 rfl rfl 9 (by decide) k_5_81 (fun _ h9 => h9) rfl dX8_foundMany_18 ?_
          refine lv_iload_n hx hb dX8_foundMany_21 rfl (lv_at hl 2 rfl) ?_
          obtain ⟨h13, hf⟩ := gd_in hf
          refine va_iald (D := g.1) (f := (vM_1.2.1 9)) hx hb hK hP 7 0 rfl rfl h13 dX8_foundMany_22 ?_
          obtain ⟨k15, hk17, hf⟩ := jn_at hf
          have hJ16 : ∀ (t14 : Int32), k15 t14 = some (r, vM1) → ∀ (H : Heap) (locs : List Loc), va_P g.1 vwCl (cM g bM vM_1) H → va_D A (cM g bM vM_1) → va_S A s.heap H locs → ∀ ls : Array Slot, lv_has ls 3 [(0, .ref (bM 0)), (2, .int x2_4)] → W p l e (headSpec wsX8_foundMany rmX8_foundMany).room s m ([.ref (bM 0)] : List Value).toArray below meth c H locs 0 0 (MQ below (qI g A (cM g bM vM1) r) ([.ref (bM 0)] : List Value).toArray s 0 0 A) (F0 m 31 ls [.int t14, .int x1_3]) := by
            intro t14 hf H locs hP hD hS ls hl
            rw [hk17] at hf
            dsimp only at hf
            clear hk17
            refine lv_iadd hx hb dX8_foundMany_31 ?_
            refine lv_istore_n (lv' := [(1, .int (x1_3 + t14)), (0, .ref (bM 0)), (2, .int x2_4)]) hx hb dX8_foundMany_32 rfl hl (by decide) rfl (fun ls hl => ?_)
            refine lv_iinc (v := (x2_4 + (1 : Int32))) (lv' := [(2, .int (x2_4 + (1 : Int32))), (1, .int (x1_3 + t14)), (0, .ref (bM 0))]) hx hb dX8_foundMany_33 hl (k := 2) rfl rfl (by decide) rfl (fun ls hl => ?_)
            refine lv_goto (tgt := 8) hx hb dX8_foundMany_36 (by decide) ?_
            exact ih7 (x1_3 + t14) (x2_4 + (1 : Int32)) hf H locs hP hD hS _ (lv_sub hl [2, 1, 0] rfl)
          refine lv_if_eq (tgt := 30) hx hb dX8_foundMany_23 (by decide) (fun c18 => ?_) (fun c18 => ?_)
          · have hf := it_t hf c18
            refine lv_iconst (v := (0 : Int32)) hx hb dX8_foundMany_30 (by decide) ?_
            exact hJ16 (0 : Int32) hf H locs hP hD hS _ (lv_sub hl [0, 2] rfl)
          · have hf := it_f hf c18
            refine lv_iconst (v := (1 : Int32)) hx hb dX8_foundMany_26 (by decide) ?_
            refine lv_goto (tgt := 31) hx hb dX8_foundMany_27 (by decide) ?_
            exact hJ16 (1 : Int32) hf H locs hP hD hS _ (lv_sub hl [0, 2] rfl)
    exact hL6 (0 : Int32) (0 : Int32) hf H locs hP hD hS _ (lv_sub hl [2, 1, 0] rfl)
  rw [hH, hlo] at hW
  exact hW
def f_X8_fulls (vM : Vs) : Option (Int32) :=
  o1 (f_X8_inputs vM) (fun (r1 : Int32) => some (((1 : Int32) <<< (r1 &&& 31))))
abbrev wsX8_fulls : List Cond := .code yX8_fulls cX8_fulls 1 (some .int) :: UW
abbrev rmX8_fulls : Room := { frames := 2, cells := 0, slots := 0, locals := 41 }
set_option maxHeartbeats 4000000 in
set_option maxRecDepth 100000 in
theorem c_X8_fulls (l : Launch) (g : Gx) (bM : Nat → Nat) (vM : Vs) (r : Int32) (hf : f_X8_fulls vM = some r) : CtI l yX8_fulls wsX8_fulls rmX8_fulls g [.ref (bM 0)] (cM g bM vM) (cM g bM vM) r 0 0 := by
  unfold CtI
  intro sz
  refine Met.ofW (cc := cX8_fulls) (maxL := 1) (ret := (some .int)) (by decide) rfl ?_
  intro p e s m args below meth c s₁ B hml hv
  obtain ⟨rfl, hsz, hP, hK, hD0, hG⟩ := hv
  have hx := B.exec
  have hb := B.bytes
  have hr := B.returns
  have hts := atoms_spec (ws := wsX8_fulls) B.pre
  have hown : s.vm.findClass RX8 = some m.cls := findClass_of_methodNamed B.named
  have hlocks := B.notSynchronized
  subst hsz
  have hD := hD0.self (sz := s.heap.size)
  generalize hAe : va_A (cM g bM vM) s.heap.size = A at hD hG ⊢
  have hA : ∀ q : Nat, s.heap.size ≤ q → A q := fun q h => by rw [← hAe]; exact Or.inr h
  clear hAe hD0
  have hS : va_S A s.heap s.heap [] := va_S.rf
  have hl := lv_entry ([.ref (bM 0)]) (n := 1) (Nat.le_of_ble_eq_true rfl)
  rw [lg_entry_eq]
  generalize (lg_sl ([.ref (bM 0)]) ++ List.replicate (1 - (lg_sl ([.ref (bM 0)])).length) Slot.unset).toArray = ls at hl ⊢
  have hl : lv_has ls 1 [(0, .ref (bM 0))] := hl
  have htu : ∀ w ∈ UW, w.before _ s = true := fun w h => hts w (List.mem_cons_of_mem _ h)
  unfold f_X8_fulls at hf
  obtain ⟨H, hH⟩ : ∃ z, z = s.heap := ⟨_, rfl⟩
  obtain ⟨locs, hlo⟩ : ∃ z : List Loc, z = [] := ⟨_, rfl⟩
  have hS : va_S A s.heap H locs := by rw [hH, hlo]; exact hS
  rw [← hH] at hP
  have hW : W p l e (headSpec wsX8_fulls rmX8_fulls).room s m ([.ref (bM 0)] : List Value).toArray below meth c H locs 0 0 (MQ below (qI g A (cM g bM vM) r) ([.ref (bM 0)] : List Value).toArray s 0 0 A) (F0 m 0 ls []) := by
    refine lv_iconst (v := (1 : Int32)) hx hb dX8_fulls_0 (by decide) ?_
    refine lv_aload_n hx hb dX8_fulls_1 rfl (lv_at hl 0 rfl) ?_
    obtain ⟨r1, hg2, hf⟩ := o1_at hf
    refine k_viW ⟨hx, hb, hml, hown, htu⟩ hK hP hD hS hA hG (c_X8_inputs l g bM vM r1 hg2) (cwV 0 htu (gU_V mw_6_36 hcX8_inputs) rfl rfl rfl hdX8_inputs ⟨Nat.le_of_ble_eq_true rfl, Nat.le_of_ble_eq_true rfl⟩) (q0 := 0) (ci := 8) (fs := fcM bM vM) (q := (RX8, TX8, 23)) rfl rfl rfl (As := []) (rest := [.int (1 : Int32)]) rfl rfl hl.1 (Nat.le_of_ble_eq_true rfl) dX8_fulls_2 (k1 := 0) (n1 := 0) rfl rfl ⟨Nat.zero_le _, Nat.zero_le _⟩ (fun H locs hP hD hS => ?_)
    refine lv_ishl hx hb dX8_fulls_5 ?_
    have e3 := Option.some.inj hf
    exact k_iret hx hb hr hlocks hK hP hD hS e3 dX8_fulls_6
  rw [hH, hlo] at hW
  exact hW
def f_X8_lays_L35 (x1_1 : Int32) (self3 : Int32 → Vs → Option (Vs)) (self18 : Int32 → Vs → Option (Vs)) (x2_16 : Int32) (vM_17 : Vs) : Option (Vs) :=
  o1 (f_X8_faults vM_17) (fun (r21 : Int32) => if r21 ≤ x2_16 then self3 (x1_1 + (1 : Int32)) vM_17 else o1 (f_X8_bends vM_17 x2_16) (fun (vM_24 : Vs) => o1 (f_X8_bitsAt_bent vM_24) (fun (r26 : Int32) => gd (inb (((256 : Int32) * x2_16) + x1_1) 14592) (bn (sI vM_24 10 ((((256 : Int32) * x2_16) + x1_1)).toNatClampNeg r26) (fun (vM_29 : Vs) => self18 (x2_16 + (1 : Int32)) vM_29)))))
def f_X8_lays_L2 (self3 : Int32 → Vs → Option (Vs)) (x1_1 : Int32) (vM_2 : Vs) : Option (Vs) :=
  o1 (f_X8_fulls vM_2) (fun (r6 : Int32) => if r6 ≤ x1_1 then some (vM_2) else o1 (f_X8_asksFull vM_2 x1_1) (fun (vM_10 : Vs) => o1 (f_X8_bitsAt_clean vM_10) (fun (r12 : Int32) => gd (inb ((14336 : Int32) + x1_1) 14592) (bn (sI vM_10 10 (((14336 : Int32) + x1_1)).toNatClampNeg r12) (fun (vM_15 : Vs) => lp (f_X8_lays_L35 x1_1 self3) (fun _ _ => none) FU (0 : Int32) vM_15)))))
def f_X8_lays (vM : Vs) : Option (Vs) :=
  lp f_X8_lays_L2 (fun _ _ => none) FU (0 : Int32) vM
abbrev wsX8_lays : List Cond := .code yX8_lays cX8_lays 3 none :: UW
abbrev rmX8_lays : Room := { frames := 5, cells := 0, slots := 0, locals := 113 }
set_option maxHeartbeats 4000000 in
set_option maxRecDepth 100000 in
theorem c_X8_lays (l : Launch) (g : Gx) (bM : Nat → Nat) (vM : Vs) (vM1 : Vs) (hf : f_X8_lays vM = some vM1) : CtV l yX8_lays wsX8_lays rmX8_lays g [.ref (bM 0)] (cM g bM vM) (cM g bM vM1) 0 0 := by
  unfold CtV
  intro sz
  refine Met.ofW (cc := cX8_lays) (maxL := 3) (ret := none) (by decide) rfl ?_
  intro p e s m args below meth c s₁ B hml hv
  obtain ⟨rfl, hsz, hP, hK, hD0, hG⟩ := hv
  have hx := B.exec
  have hb := B.bytes
  have hr := B.returns
  have hts := atoms_spec (ws := wsX8_lays) B.pre
  have hown : s.vm.findClass RX8 = some m.cls := findClass_of_methodNamed B.named
  have hlocks := B.notSynchronized
  subst hsz
  have hD := hD0.self (sz := s.heap.size)
  generalize hAe : va_A (cM g bM vM) s.heap.size = A at hD hG ⊢
  have hA : ∀ q : Nat, s.heap.size ≤ q → A q := fun q h => by rw [← hAe]; exact Or.inr h
  clear hAe hD0
  have hS : va_S A s.heap s.heap [] := va_S.rf
  have hl := lv_entry ([.ref (bM 0)]) (n := 3) (Nat.le_of_ble_eq_true rfl)
  rw [lg_entry_eq]
  generalize (lg_sl ([.ref (bM 0)]) ++ List.replicate (3 - (lg_sl ([.ref (bM 0)])).length) Slot.unset).toArray = ls at hl ⊢
  have hl : lv_has ls 3 [(0, .ref (bM 0))] := hl
  have htu : ∀ w ∈ UW, w.before _ s = true := fun w h => hts w (List.mem_cons_of_mem _ h)
  have k_5_82 := htu _ mw_5_82
  have k_5_79 := htu _ mw_5_79
  have k_5_80 := htu _ mw_5_80
  unfold f_X8_lays at hf
  obtain ⟨H, hH⟩ : ∃ z, z = s.heap := ⟨_, rfl⟩
  obtain ⟨locs, hlo⟩ : ∃ z : List Loc, z = [] := ⟨_, rfl⟩
  have hS : va_S A s.heap H locs := by rw [hH, hlo]; exact hS
  rw [← hH] at hP
  have hW : W p l e (headSpec wsX8_lays rmX8_lays).room s m ([.ref (bM 0)] : List Value).toArray below meth c H locs 0 0 (MQ below (qV g A (cM g bM vM1)) ([.ref (bM 0)] : List Value).toArray s 0 0 A) (F0 m 0 ls []) := by
    refine lv_iconst (v := (0 : Int32)) hx hb dX8_lays_0 (by decide) ?_
    refine lv_istore_n (lv' := [(1, .int (0 : Int32)), (0, .ref (bM 0))]) hx hb dX8_lays_1 rfl hl (by decide) rfl (fun ls hl => ?_)
    have hL4 : ∀ (x1_1 : Int32) (vM_2 : Vs), lp f_X8_lays_L2 (fun _ _ => none) FU x1_1 vM_2 = some vM1 → ∀ (H : Heap) (locs : List Loc), va_P g.1 vwCl (cM g bM vM_2) H → va_D A (cM g bM vM_2) → va_S A s.heap H locs → ∀ ls : Array Slot, lv_has ls 3 [(0, .ref (bM 0)), (1, .int x1_1)] → W p l e (headSpec wsX8_lays rmX8_lays).room s m ([.ref (bM 0)] : List Value).toArray below meth c H locs 0 0 (MQ below (qV g A (cM g bM vM1)) ([.ref (bM 0)] : List Value).toArray s 0 0 A) (F0 m 2 ls []) := by
      refine lp_ind (T := Int32 → Vs → Option (Vs)) (fun self3 => ∀ (x1_1 : Int32) (vM_2 : Vs), self3 x1_1 vM_2 = some vM1 → ∀ (H : Heap) (locs : List Loc), va_P g.1 vwCl (cM g bM vM_2) H → va_D A (cM g bM vM_2) → va_S A s.heap H locs → ∀ ls : Array Slot, lv_has ls 3 [(0, .ref (bM 0)), (1, .int x1_1)] → W p l e (headSpec wsX8_lays rmX8_lays).room s m ([.ref (bM 0)] : List Value).toArray below meth c H locs 0 0 (MQ below (qV g A (cM g bM vM1)) ([.ref (bM 0)] : List Value).toArray s 0 0 A) (F0 m 2 ls [])) ?_ ?_ FU
      · intro x1_1 vM_2 hf; cases hf
      · intro self3 ih5 x1_1 vM_2 hf H locs hP hD hS ls hl
        unfold f_X8_lays_L2 at hf
        refine lv_iload_n hx hb dX8_lays_2 rfl (lv_at hl 1 rfl) ?_
        refine lv_aload_n hx hb dX8_lays_3 rfl (lv_at hl 0 rfl) ?_
        obtain ⟨r6, hg7, hf⟩ := o1_at hf
        refine k_viW ⟨hx, hb, hml, hown, htu⟩ hK hP hD hS hA hG (c_X8_fulls l g bM vM_2 r6 hg7) (cwV 0 htu (gU_V mw_6_178 hcX8_fulls) rfl rfl rfl hdX8_fulls ⟨Nat.le_of_ble_eq_true rfl, Nat.le_of_ble_eq_true rfl⟩) (q0 := 0) (ci := 8) (fs := fcM bM vM_2) (q := (RX8, TX8, 23)) rfl rfl rfl (As := []) (rest := [.int x1_1]) rfl rfl hl.1 (Nat.le_of_ble_eq_true rfl) dX8_lays_4 (k1 := 0) (n1 := 0) rfl rfl ⟨Nat.zero_le _, Nat.zero_le _⟩ (fun H locs hP hD hS => ?_)
        refine lv_icmp_ge (tgt := 80) hx hb dX8_lays_7 (by decide) (fun c8 => ?_) (fun c8 => ?_)
        · have hf := it_t hf c8
          have e9 := Option.some.inj hf
          rw [e9] at hP hD
          exact k_vret hx hb hr hlocks hK hP hD hS dX8_lays_80
        · have hf := it_f hf c8
          refine lv_aload_n hx hb dX8_lays_10 rfl (lv_at hl 0 rfl) ?_
          refine lv_iload_n hx hb dX8_lays_11 rfl (lv_at hl 1 rfl) ?_
          obtain ⟨vM_10, hg11, hf⟩ := o1_at hf
          refine k_vvW ⟨hx, hb, hml, hown, htu⟩ hK hP hD hS hA hG (c_X8_asksFull l g bM vM_2 x1_1 vM_10 hg11) (cwV 1 htu (gU_V mw_6_182 hcX8_asksFull) rfl rfl rfl hdX8_asksFull ⟨Nat.le_of_ble_eq_true rfl, Nat.le_of_ble_eq_true rfl⟩) (q0 := 0) (ci := 8) (fs := fcM bM vM_2) (q := (RX8, TX8, 23)) rfl rfl rfl (As := [.int x1_1]) (rest := []) rfl rfl hl.1 (Nat.le_of_ble_eq_true rfl) dX8_lays_12 (k1 := 0) (n1 := 0) rfl rfl ⟨Nat.zero_le _, Nat.zero_le _⟩ (fun H locs hP hD hS => ?_)
          refine lv_aload_n hx hb dX8_lays_15 rfl (lv_at hl 0 rfl) ?_
          refine va_get (D := g.1) (ci := 8) (fs := fcM bM vM_10) (v := .ref (bM 11)) (C := RX8) (T := TX8) (N := 23) hx hb htu hinX8 hown hK hP 0 rfl rfl 10 (by decide) k_5_82 (fun _ h9 => h9) rfl dX8_lays_16 ?_
          refine lv_sipush (v := (14336 : Int32)) hx hb dX8_lays_19 (by decide) ?_
          refine lv_iload_n hx hb dX8_lays_22 rfl (lv_at hl 1 rfl) ?_
          refine lv_iadd hx hb dX8_lays_23 ?_
          refine lv_aload_n hx hb dX8_lays_24 rfl (lv_at hl 0 rfl) ?_
          refine lv_aload_n hx hb dX8_lays_25 rfl (lv_at hl 0 rfl) ?_
          refine va_get (D := g.1) (ci := 8) (fs := fcM bM vM_10) (v := .ref (bM 8)) (C := RX8) (T := TX8) (N := 23) hx hb htu hinX8 hown hK hP 0 rfl rfl 7 (by decide) k_5_79 (fun _ h9 => h9) rfl dX8_lays_26 ?_
          obtain ⟨r12, hg13, hf⟩ := o1_at hf
          refine k_viW ⟨hx, hb, hml, hown, htu⟩ hK hP hD hS hA hG (c_X8_bitsAt_clean l g bM vM_10 r12 hg13) (cwV 1 htu (gU_V mw_6_186 hcX8_bitsAt) rfl rfl rfl hdX8_bitsAt ⟨Nat.le_of_ble_eq_true rfl, Nat.le_of_ble_eq_true rfl⟩) (q0 := 0) (ci := 8) (fs := fcM bM vM_10) (q := (RX8, TX8, 23)) rfl rfl rfl (As := [.ref (bM 8)]) (rest := [.int ((14336 : Int32) + x1_1), .ref (bM 11)]) rfl rfl hl.1 (Nat.le_of_ble_eq_true rfl) dX8_lays_29 (k1 := 0) (n1 := 0) rfl rfl ⟨Nat.zero_le _, Nat.zero_le _⟩ (fun H locs hP hD hS => ?_)
          obtain ⟨h14, hf⟩ := gd_in hf
          refine va_iast (D := g.1) (f := (vM_10.2.1 10)) hx hb hK hP hD hS 8 0 rfl rfl h14 dX8_lays_32 (fun H locs hP hD hS => ?_)
          obtain ⟨vM_15, evM_15⟩ : ∃ z, z = sI vM_10 10 (((14336 : Int32) + x1_1)).toNatClampNeg r12 := ⟨_, rfl⟩
          have hf := bn_at hf evM_15
          have hP : va_P g.1 vwCl (cM g bM vM_15) H := by rw [evM_15]; exact hP
          have hD : va_D A (cM g bM vM_15) := by rw [evM_15]; exact hD
          refine lv_iconst (v := (0 : Int32)) hx hb dX8_lays_33 (by decide) ?_
          refine lv_istore_n (lv' := [(2, .int (0 : Int32)), (0, .ref (bM 0)), (1, .int x1_1)]) hx hb dX8_lays_34 rfl hl (by decide) rfl (fun ls hl => ?_)
          have hL19 : ∀ (x2_16 : Int32) (vM_17 : Vs), lp (f_X8_lays_L35 x1_1 self3) (fun _ _ => none) FU x2_16 vM_17 = some vM1 → ∀ (H : Heap) (locs : List Loc), va_P g.1 vwCl (cM g bM vM_17) H → va_D A (cM g bM vM_17) → va_S A s.heap H locs → ∀ ls : Array Slot, lv_has ls 3 [(0, .ref (bM 0)), (1, .int x1_1), (2, .int x2_16)] → W p l e (headSpec wsX8_lays rmX8_lays).room s m ([.ref (bM 0)] : List Value).toArray below meth c H locs 0 0 (MQ below (qV g A (cM g bM vM1)) ([.ref (bM 0)] : List Value).toArray s 0 0 A) (F0 m 35 ls []) := by
            refine lp_ind (T := Int32 → Vs → Option (Vs)) (fun self18 => ∀ (x2_16 : Int32) (vM_17 : Vs), self18 x2_16 vM_17 = some vM1 → ∀ (H : Heap) (locs : List Loc), va_P g.1 vwCl (cM g bM vM_17) H → va_D A (cM g bM vM_17) → va_S A s.heap H locs → ∀ ls : Array Slot, lv_has ls 3 [(0, .ref (bM 0)), (1, .int x1_1), (2, .int x2_16)] → W p l e (headSpec wsX8_lays rmX8_lays).room s m ([.ref (bM 0)] : List Value).toArray below meth c H locs 0 0 (MQ below (qV g A (cM g bM vM1)) ([.ref (bM 0)] : List Value).toArray s 0 0 A) (F0 m 35 ls [])) ?_ ?_ FU
            · intro x2_16 vM_17 hf; cases hf
            · intro self18 ih20 x2_16 vM_17 hf H locs hP hD hS ls hl
              unfold f_X8_lays_L35 at hf
              refine lv_iload_n hx hb dX8_lays_35 rfl (lv_at hl 2 rfl) ?_
              refine lv_aload_n hx hb dX8_lays_36 rfl (lv_at hl 0 rfl) ?_
              obtain ⟨r21, hg22, hf⟩ := o1_at hf
              refine k_viW ⟨hx, hb, hml, hown, htu⟩ hK hP hD hS hA hG (c_X8_faults l g bM vM_17 r21 hg22) (cwV 0 htu (gU_V mw_6_44 hcX8_faults) rfl rfl rfl hdX8_faults ⟨Nat.le_of_ble_eq_true rfl, Nat.le_of_ble_eq_true rfl⟩) (q0 := 0) (ci := 8) (fs := fcM bM vM_17) (q := (RX8, TX8, 23)) rfl rfl rfl (As := []) (rest := [.int x2_16]) rfl rfl hl.1 (Nat.le_of_ble_eq_true rfl) dX8_lays_37 (k1 := 0) (n1 := 0) rfl rfl ⟨Nat.zero_le _, Nat.zero_le _⟩ (fun H locs hP hD hS => ?_)
              refine lv_icmp_ge (tgt := 74) hx hb dX8_lays_40 (by decide) (fun c23 => ?_) (fun c23 => ?_)
              · have hf := it_t hf c23
                refine lv_iinc (v := (x1_1 + (1 : Int32))) (lv' := [(1, .int (x1_1 + (1 : Int32))), (0, .ref (bM 0)), (2, .int x2_16)]) hx hb dX8_lays_74 hl (k := 1) rfl rfl (by decide) rfl (fun ls hl => ?_)
                refine lv_goto (tgt := 2) hx hb dX8_lays_77 (by decide) ?_
                exact ih5 (x1_1 + (1 : Int32)) vM_17 hf H locs hP hD hS _ (lv_sub hl [1, 0] rfl)
              · have hf := it_f hf c23
                refine lv_aload_n hx hb dX8_lays_43 rfl (lv_at hl 0 rfl) ?_
                refine lv_iload_n hx hb dX8_lays_44 rfl (lv_at hl 2 rfl) ?_
                obtain ⟨vM_24, hg25, hf⟩ := o1_at hf
                refine k_vvW ⟨hx, hb, hml, hown, htu⟩ hK hP hD hS hA hG (c_X8_bends l g bM vM_17 x2_16 vM_24 hg25) (cwV 1 htu (gU_V mw_6_102 hcX8_bends) rfl rfl rfl hdX8_bends ⟨Nat.le_of_ble_eq_true rfl, Nat.le_of_ble_eq_true rfl⟩) (q0 := 0) (ci := 8) (fs := fcM bM vM_17) (q := (RX8, TX8, 23)) rfl rfl rfl (As := [.int x2_16]) (rest := []) rfl rfl hl.1 (Nat.le_of_ble_eq_true rfl) dX8_lays_45 (k1 := 0) (n1 := 0) rfl rfl ⟨Nat.zero_le _, Nat.zero_le _⟩ (fun H locs hP hD hS => ?_)
                refine lv_aload_n hx hb dX8_lays_48 rfl (lv_at hl 0 rfl) ?_
                refine va_get (D := g.1) (ci := 8) (fs := fcM bM vM_24) (v := .ref (bM 11)) (C := RX8) (T := TX8) (N := 23) hx hb htu hinX8 hown hK hP 0 rfl rfl 10 (by decide) k_5_82 (fun _ h9 => h9) rfl dX8_lays_49 ?_
                refine lv_sipush (v := (256 : Int32)) hx hb dX8_lays_52 (by decide) ?_
                refine lv_iload_n hx hb dX8_lays_55 rfl (lv_at hl 2 rfl) ?_
                refine lv_imul hx hb dX8_lays_56 ?_
                refine lv_iload_n hx hb dX8_lays_57 rfl (lv_at hl 1 rfl) ?_
                refine lv_iadd hx hb dX8_lays_58 ?_
                refine lv_aload_n hx hb dX8_lays_59 rfl (lv_at hl 0 rfl) ?_
                refine lv_aload_n hx hb dX8_lays_60 rfl (lv_at hl 0 rfl) ?_
                refine va_get (D := g.1) (ci := 8) (fs := fcM bM vM_24) (v := .ref (bM 9)) (C := RX8) (T := TX8) (N := 23) hx hb htu hinX8 hown hK hP 0 rfl rfl 8 (by decide) k_5_80 (fun _ h9 => h9) rfl dX8_lays_61 ?_
                obtain ⟨r26, hg27, hf⟩ := o1_at hf
                refine k_viW ⟨hx, hb, hml, hown, htu⟩ hK hP hD hS hA hG (c_X8_bitsAt_bent l g bM vM_24 r26 hg27) (cwV 1 htu (gU_V mw_6_186 hcX8_bitsAt) rfl rfl rfl hdX8_bitsAt ⟨Nat.le_of_ble_eq_true rfl, Nat.le_of_ble_eq_true rfl⟩) (q0 := 0) (ci := 8) (fs := fcM bM vM_24) (q := (RX8, TX8, 23)) rfl rfl rfl (As := [.ref (bM 9)]) (rest := [.int (((256 : Int32) * x2_16) + x1_1), .ref (bM 11)]) rfl rfl hl.1 (Nat.le_of_ble_eq_true rfl) dX8_lays_64 (k1 := 0) (n1 := 0) rfl rfl ⟨Nat.zero_le _, Nat.zero_le _⟩ (fun H locs hP hD hS => ?_)
                obtain ⟨h28, hf⟩ := gd_in hf
                refine va_iast (D := g.1) (f := (vM_24.2.1 10)) hx hb hK hP hD hS 8 0 rfl rfl h28 dX8_lays_67 (fun H locs hP hD hS => ?_)
                obtain ⟨vM_29, evM_29⟩ : ∃ z, z = sI vM_24 10 ((((256 : Int32) * x2_16) + x1_1)).toNatClampNeg r26 := ⟨_, rfl⟩
                have hf := bn_at hf evM_29
                have hP : va_P g.1 vwCl (cM g bM vM_29) H := by rw [evM_29]; exact hP
                have hD : va_D A (cM g bM vM_29) := by rw [evM_29]; exact hD
                refine lv_iinc (v := (x2_16 + (1 : Int32))) (lv' := [(2, .int (x2_16 + (1 : Int32))), (0, .ref (bM 0)), (1, .int x1_1)]) hx hb dX8_lays_68 hl (k := 2) rfl rfl (by decide) rfl (fun ls hl => ?_)
                refine lv_goto (tgt := 35) hx hb dX8_lays_71 (by decide) ?_
                exact ih20 (x2_16 + (1 : Int32)) vM_29 hf H locs hP hD hS _ (lv_sub hl [1, 2, 0] rfl)
          exact hL19 (0 : Int32) vM_15 hf H locs hP hD hS _ (lv_sub hl [1, 2, 0] rfl)
    exact hL4 (0 : Int32) vM hf H locs hP hD hS _ (lv_sub hl [1, 0] rfl)
  rw [hH, hlo] at hW
  exact hW
def f_X8_between_L2 (vM : Vs) (x1 : Int32) (x2 : Int32) (self2 : Int32 → Option (Int32)) (x3_1 : Int32) : Option (Int32) :=
  o1 (f_X8_fulls vM) (fun (r5 : Int32) => if r5 ≤ x3_1 then some ((-1 : Int32)) else gd (inb (((256 : Int32) * x1) + x3_1) 14592) (gd (inb (((256 : Int32) * x2) + x3_1) 14592) (if (vM.2.1 10 ((((256 : Int32) * x1) + x3_1)).toNatClampNeg) = (vM.2.1 10 ((((256 : Int32) * x2) + x3_1)).toNatClampNeg) then self2 (x3_1 + (1 : Int32)) else some (x3_1))))
def f_X8_between (vM : Vs) (x1 : Int32) (x2 : Int32) : Option (Int32) :=
  lp (f_X8_between_L2 vM x1 x2) (fun _ => none) FU (0 : Int32)
abbrev wsX8_between : List Cond := .code yX8_between cX8_between 4 (some .int) :: UW
abbrev rmX8_between : Room := { frames := 3, cells := 0, slots := 0, locals := 61 }
set_option maxHeartbeats 4000000 in
set_option maxRecDepth 100000 in
theorem c_X8_between (l : Launch) (g : Gx) (bM : Nat → Nat) (vM : Vs) (x1 : Int32) (x2 : Int32) (r : Int32) (hf : f_X8_between vM x1 x2 = some r) : CtI l yX8_between wsX8_between rmX8_between g [.ref (bM 0), .int x1, .int x2] (cM g bM vM) (cM g bM vM) r 0 0 := by
  unfold CtI
  intro sz
  refine Met.ofW (cc := cX8_between) (maxL := 4) (ret := (some .int)) (by decide) rfl ?_
  intro p e s m args below meth c s₁ B hml hv
  obtain ⟨rfl, hsz, hP, hK, hD0, hG⟩ := hv
  have hx := B.exec
  have hb := B.bytes
  have hr := B.returns
  have hts := atoms_spec (ws := wsX8_between) B.pre
  have hown : s.vm.findClass RX8 = some m.cls := findClass_of_methodNamed B.named
  have hlocks := B.notSynchronized
  subst hsz
  have hD := hD0.self (sz := s.heap.size)
  generalize hAe : va_A (cM g bM vM) s.heap.size = A at hD hG ⊢
  have hA : ∀ q : Nat, s.heap.size ≤ q → A q := fun q h => by rw [← hAe]; exact Or.inr h
  clear hAe hD0
  have hS : va_S A s.heap s.heap [] := va_S.rf
  have hl := lv_entry ([.ref (bM 0), .int x1, .int x2]) (n := 4) (Nat.le_of_ble_eq_true rfl)
  rw [lg_entry_eq]
  generalize (lg_sl ([.ref (bM 0), .int x1, .int x2]) ++ List.replicate (4 - (lg_sl ([.ref (bM 0), .int x1, .int x2])).length) Slot.unset).toArray = ls at hl ⊢
  have hl : lv_has ls 4 [(0, .ref (bM 0)), (1, .int x1), (2, .int x2)] := hl
  have htu : ∀ w ∈ UW, w.before _ s = true := fun w h => hts w (List.mem_cons_of_mem _ h)
  have k_5_82 := htu _ mw_5_82
  unfold f_X8_between at hf
  obtain ⟨H, hH⟩ : ∃ z, z = s.heap := ⟨_, rfl⟩
  obtain ⟨locs, hlo⟩ : ∃ z : List Loc, z = [] := ⟨_, rfl⟩
  have hS : va_S A s.heap H locs := by rw [hH, hlo]; exact hS
  rw [← hH] at hP
  have hW : W p l e (headSpec wsX8_between rmX8_between).room s m ([.ref (bM 0), .int x1, .int x2] : List Value).toArray below meth c H locs 0 0 (MQ below (qI g A (cM g bM vM) r) ([.ref (bM 0), .int x1, .int x2] : List Value).toArray s 0 0 A) (F0 m 0 ls []) := by
    refine lv_iconst (v := (0 : Int32)) hx hb dX8_between_0 (by decide) ?_
    refine lv_istore_n (lv' := [(3, .int (0 : Int32)), (0, .ref (bM 0)), (1, .int x1), (2, .int x2)]) hx hb dX8_between_1 rfl hl (by decide) rfl (fun ls hl => ?_)
    have hL3 : ∀ (x3_1 : Int32), lp (f_X8_between_L2 vM x1 x2) (fun _ => none) FU x3_1 = some r → ∀ (H : Heap) (locs : List Loc), va_P g.1 vwCl (cM g bM vM) H → va_D A (cM g bM vM) → va_S A s.heap H locs → ∀ ls : Array Slot, lv_has ls 4 [(0, .ref (bM 0)), (1, .int x1), (2, .int x2), (3, .int x3_1)] → W p l e (headSpec wsX8_between rmX8_between).room s m ([.ref (bM 0), .int x1, .int x2] : List Value).toArray below meth c H locs 0 0 (MQ below (qI g A (cM g bM vM) r) ([.ref (bM 0), .int x1, .int x2] : List Value).toArray s 0 0 A) (F0 m 2 ls []) := by
      refine lp_ind (T := Int32 → Option (Int32)) (fun self2 => ∀ (x3_1 : Int32), self2 x3_1 = some r → ∀ (H : Heap) (locs : List Loc), va_P g.1 vwCl (cM g bM vM) H → va_D A (cM g bM vM) → va_S A s.heap H locs → ∀ ls : Array Slot, lv_has ls 4 [(0, .ref (bM 0)), (1, .int x1), (2, .int x2), (3, .int x3_1)] → W p l e (headSpec wsX8_between rmX8_between).room s m ([.ref (bM 0), .int x1, .int x2] : List Value).toArray below meth c H locs 0 0 (MQ below (qI g A (cM g bM vM) r) ([.ref (bM 0), .int x1, .int x2] : List Value).toArray s 0 0 A) (F0 m 2 ls [])) ?_ ?_ FU
      · intro x3_1 hf; cases hf
      · intro self2 ih4 x3_1 hf H locs hP hD hS ls hl
        unfold f_X8_between_L2 at hf
        refine lv_iload_n hx hb dX8_between_2 rfl (lv_at hl 3 rfl) ?_
        refine lv_aload_n hx hb dX8_between_3 rfl (lv_at hl 0 rfl) ?_
        obtain ⟨r5, hg6, hf⟩ := o1_at hf
        refine k_viW ⟨hx, hb, hml, hown, htu⟩ hK hP hD hS hA hG (c_X8_fulls l g bM vM r5 hg6) (cwV 0 htu (gU_V mw_6_178 hcX8_fulls) rfl rfl rfl hdX8_fulls ⟨Nat.le_of_ble_eq_true rfl, Nat.le_of_ble_eq_true rfl⟩) (q0 := 0) (ci := 8) (fs := fcM bM vM) (q := (RX8, TX8, 23)) rfl rfl rfl (As := []) (rest := [.int x3_1]) rfl rfl hl.1 (Nat.le_of_ble_eq_true rfl) dX8_between_4 (k1 := 0) (n1 := 0) rfl rfl ⟨Nat.zero_le _, Nat.zero_le _⟩ (fun H locs hP hD hS => ?_)
        refine lv_icmp_ge (tgt := 45) hx hb dX8_between_7 (by decide) (fun c7 => ?_) (fun c7 => ?_)
        · have hf := it_t hf c7
          refine lv_iconst (v := (-1 : Int32)) hx hb dX8_between_45 (by decide) ?_
          have e8 := Option.some.inj hf
          exact k_iret hx hb hr hlocks hK hP hD hS e8 dX8_between_46
        · have hf := it_f hf c7
          refine lv_aload_n hx hb dX8_between_10 rfl (lv_at hl 0 rfl) ?_
          refine va_get (D := g.1) (ci := 8) (fs := fcM bM vM) (v := .ref (bM 11)) (C := RX8) (T := TX8) (N := 23) hx hb htu hinX8 hown hK hP 0 rfl rfl 10 (by decide) k_5_82 (fun _ h9 => h9) rfl dX8_between_11 ?_
          refine lv_sipush (v := (256 : Int32)) hx hb dX8_between_14 (by decide) ?_
          refine lv_iload_n hx hb dX8_between_17 rfl (lv_at hl 1 rfl) ?_
          refine lv_imul hx hb dX8_between_18 ?_
          refine lv_iload_n hx hb dX8_between_19 rfl (lv_at hl 3 rfl) ?_
          refine lv_iadd hx hb dX8_between_20 ?_
          obtain ⟨h9, hf⟩ := gd_in hf
          refine va_iald (D := g.1) (f := (vM.2.1 10)) hx hb hK hP 8 0 rfl rfl h9 dX8_between_21 ?_
          refine lv_aload_n hx hb dX8_between_22 rfl (lv_at hl 0 rfl) ?_
          refine va_get (D := g.1) (ci := 8) (fs := fcM bM vM) (v := .ref (bM 11)) (C := RX8) (T := TX8) (N := 23) hx hb htu hinX8 hown hK hP 0 rfl rfl 10 (by decide) k_5_82 (fun _ h9 => h9) rfl dX8_between_23 ?_
          refine lv_sipush (v := (256 : Int32)) hx hb dX8_between_26 (by decide) ?_
          refine lv_iload_n hx hb dX8_between_29 rfl (lv_at hl 2 rfl) ?_
          refine lv_imul hx hb dX8_between_30 ?_
          refine lv_iload_n hx hb dX8_between_31 rfl (lv_at hl 3 rfl) ?_
          refine lv_iadd hx hb dX8_between_32 ?_
          obtain ⟨h10, hf⟩ := gd_in hf
          refine va_iald (D := g.1) (f := (vM.2.1 10)) hx hb hK hP 8 0 rfl rfl h10 dX8_between_33 ?_
          refine lv_icmp_eq (tgt := 39) hx hb dX8_between_34 (by decide) (fun c11 => ?_) (fun c11 => ?_)
          · have hf := it_t hf c11
            refine lv_iinc (v := (x3_1 + (1 : Int32))) (lv' := [(3, .int (x3_1 + (1 : Int32))), (0, .ref (bM 0)), (1, .int x1), (2, .int x2)]) hx hb dX8_between_39 hl (k := 3) rfl rfl (by decide) rfl (fun ls hl => ?_)
            refine lv_goto (tgt := 2) hx hb dX8_between_42 (by decide) ?_
            exact ih4 (x3_1 + (1 : Int32)) hf H locs hP hD hS _ (lv_sub hl [1, 2, 3, 0] rfl)
          · have hf := it_f hf c11
            refine lv_iload_n hx hb dX8_between_37 rfl (lv_at hl 3 rfl) ?_
            have e12 := Option.some.inj hf
            exact k_iret hx hb hr hlocks hK hP hD hS e12 dX8_between_38
    exact hL3 (0 : Int32) hf H locs hP hD hS _ (lv_sub hl [1, 2, 3, 0] rfl)
  rw [hH, hlo] at hW
  exact hW
def f_X8_isHidden (vM : Vs) (x1 : Int32) : Option (Int32) :=
  o1 (f_X8_between vM x1 (56 : Int32)) (fun (r1 : Int32) => jn (fun (t3 : Int32) => gd (isB t3) (some (t3))) (fun k4 => if r1 = (-1 : Int32) then k4 (1 : Int32) else k4 (0 : Int32)))
abbrev wsX8_isHidden : List Cond := .code yX8_isHidden cX8_isHidden 2 (some .boolean) :: UW
abbrev rmX8_isHidden : Room := { frames := 4, cells := 0, slots := 0, locals := 84 }
set_option maxHeartbeats 4000000 in
set_option maxRecDepth 100000 in
theorem c_X8_isHidden (l : Launch) (g : Gx) (bM : Nat → Nat) (vM : Vs) (x1 : Int32) (r : Int32) (hf : f_X8_isHidden vM x1 = some r) : CtI l yX8_isHidden wsX8_isHidden rmX8_isHidden g [.ref (bM 0), .int x1] (cM g bM vM) (cM g bM vM) r 0 0 := by
  unfold CtI
  intro sz
  refine Met.ofW (cc := cX8_isHidden) (maxL := 2) (ret := (some .boolean)) (by decide) rfl ?_
  intro p e s m args below meth c s₁ B hml hv
  obtain ⟨rfl, hsz, hP, hK, hD0, hG⟩ := hv
  have hx := B.exec
  have hb := B.bytes
  have hr := B.returns
  have hts := atoms_spec (ws := wsX8_isHidden) B.pre
  have hown : s.vm.findClass RX8 = some m.cls := findClass_of_methodNamed B.named
  have hlocks := B.notSynchronized
  subst hsz
  have hD := hD0.self (sz := s.heap.size)
  generalize hAe : va_A (cM g bM vM) s.heap.size = A at hD hG ⊢
  have hA : ∀ q : Nat, s.heap.size ≤ q → A q := fun q h => by rw [← hAe]; exact Or.inr h
  clear hAe hD0
  have hS : va_S A s.heap s.heap [] := va_S.rf
  have hl := lv_entry ([.ref (bM 0), .int x1]) (n := 2) (Nat.le_of_ble_eq_true rfl)
  rw [lg_entry_eq]
  generalize (lg_sl ([.ref (bM 0), .int x1]) ++ List.replicate (2 - (lg_sl ([.ref (bM 0), .int x1])).length) Slot.unset).toArray = ls at hl ⊢
  have hl : lv_has ls 2 [(0, .ref (bM 0)), (1, .int x1)] := hl
  have htu : ∀ w ∈ UW, w.before _ s = true := fun w h => hts w (List.mem_cons_of_mem _ h)
  unfold f_X8_isHidden at hf
  obtain ⟨H, hH⟩ : ∃ z, z = s.heap := ⟨_, rfl⟩
  obtain ⟨locs, hlo⟩ : ∃ z : List Loc, z = [] := ⟨_, rfl⟩
  have hS : va_S A s.heap H locs := by rw [hH, hlo]; exact hS
  rw [← hH] at hP
  have hW : W p l e (headSpec wsX8_isHidden rmX8_isHidden).room s m ([.ref (bM 0), .int x1] : List Value).toArray below meth c H locs 0 0 (MQ below (qI g A (cM g bM vM) r) ([.ref (bM 0), .int x1] : List Value).toArray s 0 0 A) (F0 m 0 ls []) := by
    refine lv_aload_n hx hb dX8_isHidden_0 rfl (lv_at hl 0 rfl) ?_
    refine lv_iload_n hx hb dX8_isHidden_1 rfl (lv_at hl 1 rfl) ?_
    refine lv_bipush (v := (56 : Int32)) hx hb dX8_isHidden_2 (by decide) ?_
    obtain ⟨r1, hg2, hf⟩ := o1_at hf
    refine k_viW ⟨hx, hb, hml, hown, htu⟩ hK hP hD hS hA hG (c_X8_between l g bM vM x1 (56 : Int32) r1 hg2) (cwV 2 htu (gU_V mw_6_190 hcX8_between) rfl rfl rfl hdX8_between ⟨Nat.le_of_ble_eq_true rfl, Nat.le_of_ble_eq_true rfl⟩) (q0 := 0) (ci := 8) (fs := fcM bM vM) (q := (RX8, TX8, 23)) rfl rfl rfl (As := [.int x1, .int (56 : Int32)]) (rest := []) rfl rfl hl.1 (Nat.le_of_ble_eq_true rfl) dX8_isHidden_4 (k1 := 0) (n1 := 0) rfl rfl ⟨Nat.zero_le _, Nat.zero_le _⟩ (fun H locs hP hD hS => ?_)
    refine lv_iconst (v := (-1 : Int32)) hx hb dX8_isHidden_7 (by decide) ?_
    obtain ⟨k4, hk8, hf⟩ := jn_at hf
    have hJ5 : ∀ (t3 : Int32), k4 t3 = some r → ∀ (H : Heap) (locs : List Loc), va_P g.1 vwCl (cM g bM vM) H → va_D A (cM g bM vM) → va_S A s.heap H locs → ∀ ls : Array Slot, lv_has ls 2 [] → W p l e (headSpec wsX8_isHidden rmX8_isHidden).room s m ([.ref (bM 0), .int x1] : List Value).toArray below meth c H locs 0 0 (MQ below (qI g A (cM g bM vM) r) ([.ref (bM 0), .int x1] : List Value).toArray s 0 0 A) (F0 m 16 ls [.int t3]) := by
      intro t3 hf H locs hP hD hS ls hl
      rw [hk8] at hf
      dsimp only at hf
      clear hk8
      obtain ⟨h6, hf⟩ := gd_isB hf
      have e7 := Option.some.inj hf
      exact k_zret hx hb hr hlocks hK hP hD hS e7 h6 dX8_isHidden_16
    refine lv_icmp_ne (tgt := 15) hx hb dX8_isHidden_8 (by decide) (fun c9 => ?_) (fun c9 => ?_)
    · have hf := it_f hf c9
      refine lv_iconst (v := (0 : Int32)) hx hb dX8_isHidden_15 (by decide) ?_
      exact hJ5 (0 : Int32) hf H locs hP hD hS _ (lv_sub hl [] rfl)
    · have hf := it_t hf c9
      refine lv_iconst (v := (1 : Int32)) hx hb dX8_isHidden_11 (by decide) ?_
      refine lv_goto (tgt := 16) hx hb dX8_isHidden_12 (by decide) ?_
      exact hJ5 (1 : Int32) hf H locs hP hD hS _ (lv_sub hl [] rfl)
  rw [hH, hlo] at hW
  exact hW
