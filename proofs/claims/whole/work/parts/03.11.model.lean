def f_X8_finds (vM : Vs) (x1 : Int32) (x2 : Int32) : Option (Int32 × Vs) :=
  bn (sF vM 0 (0 : Int32)) (fun (vM_1 : Vs) => o2 (f_X8_isTest vM_1 x1) (fun (r2 : Int32) (vM_3 : Vs) => jn (fun (vM_5 : Vs) => some ((0 : Int32), vM_5)) (fun k6 => if r2 = 0 then k6 vM_3 else o2 (f_X8_isFault vM_3 x2) (fun (r12 : Int32) (vM_13 : Vs) => if r12 = 0 then k6 vM_13 else o1 (f_X8_asksTest vM_13 x1) (fun (vM_16 : Vs) => o2 (f_X8_found vM_16 x2) (fun (r18 : Int32) (vM_19 : Vs) => some (r18, vM_19)))))))
abbrev wsX8_finds : List Cond := .code yX8_finds cX8_finds 3 (some .int) :: UW
abbrev rmX8_finds : Room := { frames := 5, cells := 0, slots := 0, locals := 120 }
set_option maxHeartbeats 4000000 in
set_option maxRecDepth 100000 in
theorem c_X8_finds (l : Launch) (g : Gx) (bM : Nat → Nat) (vM : Vs) (x1 : Int32) (x2 : Int32) (r : Int32) (vM1 : Vs) (hf : f_X8_finds vM x1 x2 = some (r, vM1)) : CtI l yX8_finds wsX8_finds rmX8_finds g [.ref (bM 0), .int x1, .int x2] (cM g bM vM) (cM g bM vM1) r 0 0 := by
  unfold CtI
  intro sz
  refine Met.ofW (cc := cX8_finds) (maxL := 3) (ret := (some .int)) (by decide) rfl ?_
  intro p e s m args below meth c s₁ B hml hv
  obtain ⟨rfl, hsz, hP, hK, hD0, hG⟩ := hv
  have hx := B.exec
  have hb := B.bytes
  have hr := B.returns
  have hts := atoms_spec (ws := wsX8_finds) B.pre
  have hown : s.vm.findClass RX8 = some m.cls := findClass_of_methodNamed B.named
  have hlocks := B.notSynchronized
  subst hsz
  have hD := hD0.self (sz := s.heap.size)
  generalize hAe : va_A (cM g bM vM) s.heap.size = A at hD hG ⊢
  have hA : ∀ q : Nat, s.heap.size ≤ q → A q := fun q h => by rw [← hAe]; exact Or.inr h
  clear hAe hD0
  have hS : va_S A s.heap s.heap [] := va_S.rf
  have hl := lv_entry ([.ref (bM 0), .int x1, .int x2]) (n := 3) (Nat.le_of_ble_eq_true rfl)
  rw [lg_entry_eq]
  generalize (lg_sl ([.ref (bM 0), .int x1, .int x2]) ++ List.replicate (3 - (lg_sl ([.ref (bM 0), .int x1, .int x2])).length) Slot.unset).toArray = ls at hl ⊢
  have hl : lv_has ls 3 [(0, .ref (bM 0)), (1, .int x1), (2, .int x2)] := hl
  have htu : ∀ w ∈ UW, w.before _ s = true := fun w h => hts w (List.mem_cons_of_mem _ h)
  have k_5_72 := htu _ mw_5_72
  unfold f_X8_finds at hf
  obtain ⟨H, hH⟩ : ∃ z, z = s.heap := ⟨_, rfl⟩
  obtain ⟨locs, hlo⟩ : ∃ z : List Loc, z = [] := ⟨_, rfl⟩
  have hS : va_S A s.heap H locs := by rw [hH, hlo]; exact hS
  rw [← hH] at hP
  have hW : W p l e (headSpec wsX8_finds rmX8_finds).room s m ([.ref (bM 0), .int x1, .int x2] : List Value).toArray below meth c H locs 0 0 (MQ below (qI g A (cM g bM vM1) r) ([.ref (bM 0), .int x1, .int x2] : List Value).toArray s 0 0 A) (F0 m 0 ls []) := by
    refine lv_aload_n hx hb dX8_finds_0 rfl (lv_at hl 0 rfl) ?_
    refine lv_iconst (v := (0 : Int32)) hx hb dX8_finds_1 (by decide) ?_
    refine va_put (D := g.1) (ci := 8) (fs := fcM bM vM) (v := .int (0 : Int32)) (ty := .int) (C := RX8) (T := TX8) (N := 23) hx hb htu hinX8 tyX8 tyX8_ok nmX8 hown hK hP hD hS 0 rfl rfl 0 (by decide) k_5_72 (fun _ h9 => h9) rfl (by decide +kernel) rfl rfl (Nat.le_of_ble_eq_true rfl) dX8_finds_2 (fun H locs hP hD hS => ?_)
    obtain ⟨vM_1, evM_1⟩ : ∃ z, z = sF vM 0 (0 : Int32) := ⟨_, rfl⟩
    have hf := bn_at hf evM_1
    have hP : va_P g.1 vwCl (cM g bM vM_1) H := by rw [evM_1]; exact hP
    have hD : va_D A (cM g bM vM_1) := by rw [evM_1]; exact hD
    refine lv_aload_n hx hb dX8_finds_5 rfl (lv_at hl 0 rfl) ?_
    refine lv_iload_n hx hb dX8_finds_6 rfl (lv_at hl 1 rfl) ?_
    obtain ⟨r2, vM_3, hg4, hf⟩ := o2_at hf
    refine k_viW ⟨hx, hb, hml, hown, htu⟩ hK hP hD hS hA hG (c_X8_isTest l g bM vM_1 x1 r2 vM_3 hg4) (cwV 1 htu (gU_V mw_6_142 hcX8_isTest) rfl rfl rfl hdX8_isTest ⟨Nat.le_of_ble_eq_true rfl, Nat.le_of_ble_eq_true rfl⟩) (q0 := 0) (ci := 8) (fs := fcM bM vM_1) (q := (RX8, TX8, 23)) rfl rfl rfl (As := [.int x1]) (rest := []) rfl rfl hl.1 (Nat.le_of_ble_eq_true rfl) dX8_finds_7 (k1 := 0) (n1 := 0) rfl rfl ⟨Nat.zero_le _, Nat.zero_le _⟩ (fun H locs hP hD hS => ?_)
    obtain ⟨k6, hk10, hf⟩ := jn_at hf
    have hJ7 : ∀ (vM_5 : Vs), k6 vM_5 = some (r, vM1) → ∀ (H : Heap) (locs : List Loc), va_P g.1 vwCl (cM g bM vM_5) H → va_D A (cM g bM vM_5) → va_S A s.heap H locs → ∀ ls : Array Slot, lv_has ls 3 [] → W p l e (headSpec wsX8_finds rmX8_finds).room s m ([.ref (bM 0), .int x1, .int x2] : List Value).toArray below meth c H locs 0 0 (MQ below (qI g A (cM g bM vM1) r) ([.ref (bM 0), .int x1, .int x2] : List Value).toArray s 0 0 A) (F0 m 21 ls []) := by
      intro vM_5 hf H locs hP hD hS ls hl
      rw [hk10] at hf
      dsimp only at hf
      clear hk10
      refine lv_iconst (v := (0 : Int32)) hx hb dX8_finds_21 (by decide) ?_
      obtain ⟨e8, e9⟩ := kp_2 hf
      rw [e9] at hP hD
      exact k_iret hx hb hr hlocks hK hP hD hS e8 dX8_finds_22
    refine lv_if_eq (tgt := 21) hx hb dX8_finds_10 (by decide) (fun c11 => ?_) (fun c11 => ?_)
    · have hf := it_t hf c11
      exact hJ7 vM_3 hf H locs hP hD hS _ (lv_sub hl [] rfl)
    · have hf := it_f hf c11
      refine lv_aload_n hx hb dX8_finds_13 rfl (lv_at hl 0 rfl) ?_
      refine lv_iload_n hx hb dX8_finds_14 rfl (lv_at hl 2 rfl) ?_
      obtain ⟨r12, vM_13, hg14, hf⟩ := o2_at hf
      refine k_viW ⟨hx, hb, hml, hown, htu⟩ hK hP hD hS hA hG (c_X8_isFault l g bM vM_3 x2 r12 vM_13 hg14) (cwV 1 htu (gU_V mw_6_150 hcX8_isFault) rfl rfl rfl hdX8_isFault ⟨Nat.le_of_ble_eq_true rfl, Nat.le_of_ble_eq_true rfl⟩) (q0 := 0) (ci := 8) (fs := fcM bM vM_3) (q := (RX8, TX8, 23)) rfl rfl rfl (As := [.int x2]) (rest := []) rfl rfl hl.1 (Nat.le_of_ble_eq_true rfl) dX8_finds_15 (k1 := 0) (n1 := 0) rfl rfl ⟨Nat.zero_le _, Nat.zero_le _⟩ (fun H locs hP hD hS => ?_)
      refine lv_if_ne (tgt := 23) hx hb dX8_finds_18 (by decide) (fun c15 => ?_) (fun c15 => ?_)
      · have hf := it_f hf c15
        refine lv_aload_n hx hb dX8_finds_23 rfl (lv_at hl 0 rfl) ?_
        refine lv_iload_n hx hb dX8_finds_24 rfl (lv_at hl 1 rfl) ?_
        obtain ⟨vM_16, hg17, hf⟩ := o1_at hf
        refine k_vvW ⟨hx, hb, hml, hown, htu⟩ hK hP hD hS hA hG (c_X8_asksTest l g bM vM_13 x1 vM_16 hg17) (cwV 1 htu (gU_V mw_6_68 hcX8_asksTest) rfl rfl rfl hdX8_asksTest ⟨Nat.le_of_ble_eq_true rfl, Nat.le_of_ble_eq_true rfl⟩) (q0 := 0) (ci := 8) (fs := fcM bM vM_13) (q := (RX8, TX8, 23)) rfl rfl rfl (As := [.int x1]) (rest := []) rfl rfl hl.1 (Nat.le_of_ble_eq_true rfl) dX8_finds_25 (k1 := 0) (n1 := 0) rfl rfl ⟨Nat.zero_le _, Nat.zero_le _⟩ (fun H locs hP hD hS => ?_)
        refine lv_aload_n hx hb dX8_finds_28 rfl (lv_at hl 0 rfl) ?_
        refine lv_iload_n hx hb dX8_finds_29 rfl (lv_at hl 2 rfl) ?_
        obtain ⟨r18, vM_19, hg20, hf⟩ := o2_at hf
        refine k_viW ⟨hx, hb, hml, hown, htu⟩ hK hP hD hS hA hG (c_X8_found l g bM vM_16 x2 r18 vM_19 hg20) (cwV 1 htu (gU_V mw_6_98 hcX8_found) rfl rfl rfl hdX8_found ⟨Nat.le_of_ble_eq_true rfl, Nat.le_of_ble_eq_true rfl⟩) (q0 := 0) (ci := 8) (fs := fcM bM vM_16) (q := (RX8, TX8, 23)) rfl rfl rfl (As := [.int x2]) (rest := []) rfl rfl hl.1 (Nat.le_of_ble_eq_true rfl) dX8_finds_30 (k1 := 0) (n1 := 0) rfl rfl ⟨Nat.zero_le _, Nat.zero_le _⟩ (fun H locs hP hD hS => ?_)
        obtain ⟨e21, e22⟩ := kp_2 hf
        rw [e22] at hP hD
        exact k_iret hx hb hr hlocks hK hP hD hS e21 dX8_finds_33
      · have hf := it_t hf c15
        exact hJ7 vM_13 hf H locs hP hD hS _ (lv_sub hl [] rfl)
  rw [hH, hlo] at hW
  exact hW
def f_X8_tellsApart_L84 (vM_33 : Vs) (self36 : Int32 → Option (Int32 × Vs)) (x4_35 : Int32) : Option (Int32 × Vs) :=
  o1 (f_X8_outputs vM_33) (fun (r39 : Int32) => if r39 ≤ x4_35 then gd (isB (0 : Int32)) (some ((0 : Int32), vM_33)) else gd (inb x4_35 6) (jn (self36 (x4_35 + (1 : Int32))) (fun k46 => if (vM_33.2.1 20 (x4_35).toNatClampNeg) = (2 : Int32) then k46 else o1 (f_X8_atOutput_bent vM_33 x4_35) (fun (r50 : Int32) => if r50 = (2 : Int32) then k46 else gd (inb x4_35 6) (o1 (f_X8_atOutput_bent vM_33 x4_35) (fun (r54 : Int32) => if (vM_33.2.1 20 (x4_35).toNatClampNeg) = r54 then k46 else gd (isB (1 : Int32)) (some ((1 : Int32), vM_33))))))))
def f_X8_tellsApart_L44 (x3 : Int32) (self27 : Int32 → Vs → Option (Int32 × Vs)) (x4_25 : Int32) (vM_26 : Vs) : Option (Int32 × Vs) :=
  o1 (f_X8_outputs vM_26) (fun (r30 : Int32) => if r30 ≤ x4_25 then o1 (f_X8_bends vM_26 x3) (fun (vM_33 : Vs) => lp (f_X8_tellsApart_L84 vM_33) (fun _ => none) FU (0 : Int32)) else o1 (f_X8_atOutput_bent vM_26 x4_25) (fun (r60 : Int32) => gd (inb x4_25 6) (bn (sI vM_26 20 (x4_25).toNatClampNeg r60) (fun (vM_63 : Vs) => self27 (x4_25 + (1 : Int32)) vM_63))))
def f_X8_tellsApart (vM : Vs) (x1 : Int32) (x2 : Int32) (x3 : Int32) : Option (Int32 × Vs) :=
  bn (sF vM 0 (0 : Int32)) (fun (vM_1 : Vs) => o2 (f_X8_isTest vM_1 x1) (fun (r2 : Int32) (vM_3 : Vs) => jn (fun (vM_5 : Vs) => gd (isB (0 : Int32)) (some ((0 : Int32), vM_5))) (fun k6 => if r2 = 0 then k6 vM_3 else o2 (f_X8_isFault vM_3 x2) (fun (r13 : Int32) (vM_14 : Vs) => if r13 = 0 then k6 vM_14 else o2 (f_X8_isFault vM_14 x3) (fun (r17 : Int32) (vM_18 : Vs) => if r17 = 0 then k6 vM_18 else o1 (f_X8_asksTest vM_18 x1) (fun (vM_21 : Vs) => o1 (f_X8_bends vM_21 x2) (fun (vM_23 : Vs) => lp (f_X8_tellsApart_L44 x3) (fun _ _ => none) FU (0 : Int32) vM_23)))))))
abbrev wsX8_tellsApart : List Cond := .code yX8_tellsApart cX8_tellsApart 5 (some .boolean) :: UW
abbrev rmX8_tellsApart : Room := { frames := 5, cells := 0, slots := 0, locals := 113 }
set_option maxHeartbeats 4000000 in
set_option maxRecDepth 100000 in
theorem c_X8_tellsApart (l : Launch) (g : Gx) (bM : Nat → Nat) (vM : Vs) (x1 : Int32) (x2 : Int32) (x3 : Int32) (r : Int32) (vM1 : Vs) (hf : f_X8_tellsApart vM x1 x2 x3 = some (r, vM1)) : CtI l yX8_tellsApart wsX8_tellsApart rmX8_tellsApart g [.ref (bM 0), .int x1, .int x2, .int x3] (cM g bM vM) (cM g bM vM1) r 0 0 := by
  unfold CtI
  intro sz
  refine Met.ofW (cc := cX8_tellsApart) (maxL := 5) (ret := (some .boolean)) (by decide) rfl ?_
  intro p e s m args below meth c s₁ B hml hv
  obtain ⟨rfl, hsz, hP, hK, hD0, hG⟩ := hv
  have hx := B.exec
  have hb := B.bytes
  have hr := B.returns
  have hts := atoms_spec (ws := wsX8_tellsApart) B.pre
  have hown : s.vm.findClass RX8 = some m.cls := findClass_of_methodNamed B.named
  have hlocks := B.notSynchronized
  subst hsz
  have hD := hD0.self (sz := s.heap.size)
  generalize hAe : va_A (cM g bM vM) s.heap.size = A at hD hG ⊢
  have hA : ∀ q : Nat, s.heap.size ≤ q → A q := fun q h => by rw [← hAe]; exact Or.inr h
  clear hAe hD0
  have hS : va_S A s.heap s.heap [] := va_S.rf
  have hl := lv_entry ([.ref (bM 0), .int x1, .int x2, .int x3]) (n := 5) (Nat.le_of_ble_eq_true rfl)
  rw [lg_entry_eq]
  generalize (lg_sl ([.ref (bM 0), .int x1, .int x2, .int x3]) ++ List.replicate (5 - (lg_sl ([.ref (bM 0), .int x1, .int x2, .int x3])).length) Slot.unset).toArray = ls at hl ⊢
  have hl : lv_has ls 5 [(0, .ref (bM 0)), (1, .int x1), (2, .int x2), (3, .int x3)] := hl
  have htu : ∀ w ∈ UW, w.before _ s = true := fun w h => hts w (List.mem_cons_of_mem _ h)
  have k_5_72 := htu _ mw_5_72
  have k_5_92 := htu _ mw_5_92
  have k_5_80 := htu _ mw_5_80
  unfold f_X8_tellsApart at hf
  obtain ⟨H, hH⟩ : ∃ z, z = s.heap := ⟨_, rfl⟩
  obtain ⟨locs, hlo⟩ : ∃ z : List Loc, z = [] := ⟨_, rfl⟩
  have hS : va_S A s.heap H locs := by rw [hH, hlo]; exact hS
  rw [← hH] at hP
  have hW : W p l e (headSpec wsX8_tellsApart rmX8_tellsApart).room s m ([.ref (bM 0), .int x1, .int x2, .int x3] : List Value).toArray below meth c H locs 0 0 (MQ below (qI g A (cM g bM vM1) r) ([.ref (bM 0), .int x1, .int x2, .int x3] : List Value).toArray s 0 0 A) (F0 m 0 ls []) := by
    refine lv_aload_n hx hb dX8_tellsApart_0 rfl (lv_at hl 0 rfl) ?_
    refine lv_iconst (v := (0 : Int32)) hx hb dX8_tellsApart_1 (by decide) ?_
    refine va_put (D := g.1) (ci := 8) (fs := fcM bM vM) (v := .int (0 : Int32)) (ty := .int) (C := RX8) (T := TX8) (N := 23) hx hb htu hinX8 tyX8 tyX8_ok nmX8 hown hK hP hD hS 0 rfl rfl 0 (by decide) k_5_72 (fun _ h9 => h9) rfl (by decide +kernel) rfl rfl (Nat.le_of_ble_eq_true rfl) dX8_tellsApart_2 (fun H locs hP hD hS => ?_)
    obtain ⟨vM_1, evM_1⟩ : ∃ z, z = sF vM 0 (0 : Int32) := ⟨_, rfl⟩
    have hf := bn_at hf evM_1
    have hP : va_P g.1 vwCl (cM g bM vM_1) H := by rw [evM_1]; exact hP
    have hD : va_D A (cM g bM vM_1) := by rw [evM_1]; exact hD
    refine lv_aload_n hx hb dX8_tellsApart_5 rfl (lv_at hl 0 rfl) ?_
    refine lv_iload_n hx hb dX8_tellsApart_6 rfl (lv_at hl 1 rfl) ?_
    obtain ⟨r2, vM_3, hg4, hf⟩ := o2_at hf
    refine k_viW ⟨hx, hb, hml, hown, htu⟩ hK hP hD hS hA hG (c_X8_isTest l g bM vM_1 x1 r2 vM_3 hg4) (cwV 1 htu (gU_V mw_6_142 hcX8_isTest) rfl rfl rfl hdX8_isTest ⟨Nat.le_of_ble_eq_true rfl, Nat.le_of_ble_eq_true rfl⟩) (q0 := 0) (ci := 8) (fs := fcM bM vM_1) (q := (RX8, TX8, 23)) rfl rfl rfl (As := [.int x1]) (rest := []) rfl rfl hl.1 (Nat.le_of_ble_eq_true rfl) dX8_tellsApart_7 (k1 := 0) (n1 := 0) rfl rfl ⟨Nat.zero_le _, Nat.zero_le _⟩ (fun H locs hP hD hS => ?_)
    obtain ⟨k6, hk11, hf⟩ := jn_at hf
    have hJ7 : ∀ (vM_5 : Vs), k6 vM_5 = some (r, vM1) → ∀ (H : Heap) (locs : List Loc), va_P g.1 vwCl (cM g bM vM_5) H → va_D A (cM g bM vM_5) → va_S A s.heap H locs → ∀ ls : Array Slot, lv_has ls 5 [] → W p l e (headSpec wsX8_tellsApart rmX8_tellsApart).room s m ([.ref (bM 0), .int x1, .int x2, .int x3] : List Value).toArray below meth c H locs 0 0 (MQ below (qI g A (cM g bM vM1) r) ([.ref (bM 0), .int x1, .int x2, .int x3] : List Value).toArray s 0 0 A) (F0 m 29 ls []) := by
      intro vM_5 hf H locs hP hD hS ls hl
      rw [hk11] at hf
      dsimp only at hf
      clear hk11
      refine lv_iconst (v := (0 : Int32)) hx hb dX8_tellsApart_29 (by decide) ?_
      obtain ⟨h8, hf⟩ := gd_isB hf
      obtain ⟨e9, e10⟩ := kp_2 hf
      rw [e10] at hP hD
      exact k_zret hx hb hr hlocks hK hP hD hS e9 h8 dX8_tellsApart_30
    refine lv_if_eq (tgt := 29) hx hb dX8_tellsApart_10 (by decide) (fun c12 => ?_) (fun c12 => ?_)
    · have hf := it_t hf c12
      exact hJ7 vM_3 hf H locs hP hD hS _ (lv_sub hl [] rfl)
    · have hf := it_f hf c12
      refine lv_aload_n hx hb dX8_tellsApart_13 rfl (lv_at hl 0 rfl) ?_
      refine lv_iload_n hx hb dX8_tellsApart_14 rfl (lv_at hl 2 rfl) ?_
      obtain ⟨r13, vM_14, hg15, hf⟩ := o2_at hf
      refine k_viW ⟨hx, hb, hml, hown, htu⟩ hK hP hD hS hA hG (c_X8_isFault l g bM vM_3 x2 r13 vM_14 hg15) (cwV 1 htu (gU_V mw_6_150 hcX8_isFault) rfl rfl rfl hdX8_isFault ⟨Nat.le_of_ble_eq_true rfl, Nat.le_of_ble_eq_true rfl⟩) (q0 := 0) (ci := 8) (fs := fcM bM vM_3) (q := (RX8, TX8, 23)) rfl rfl rfl (As := [.int x2]) (rest := []) rfl rfl hl.1 (Nat.le_of_ble_eq_true rfl) dX8_tellsApart_15 (k1 := 0) (n1 := 0) rfl rfl ⟨Nat.zero_le _, Nat.zero_le _⟩ (fun H locs hP hD hS => ?_)
      refine lv_if_eq (tgt := 29) hx hb dX8_tellsApart_18 (by decide) (fun c16 => ?_) (fun c16 => ?_)
      · have hf := it_t hf c16
        exact hJ7 vM_14 hf H locs hP hD hS _ (lv_sub hl [] rfl)
      · have hf := it_f hf c16
        refine lv_aload_n hx hb dX8_tellsApart_21 rfl (lv_at hl 0 rfl) ?_
        refine lv_iload_n hx hb dX8_tellsApart_22 rfl (lv_at hl 3 rfl) ?_
        obtain ⟨r17, vM_18, hg19, hf⟩ := o2_at hf
        refine k_viW ⟨hx, hb, hml, hown, htu⟩ hK hP hD hS hA hG (c_X8_isFault l g bM vM_14 x3 r17 vM_18 hg19) (cwV 1 htu (gU_V mw_6_150 hcX8_isFault) rfl rfl rfl hdX8_isFault ⟨Nat.le_of_ble_eq_true rfl, Nat.le_of_ble_eq_true rfl⟩) (q0 := 0) (ci := 8) (fs := fcM bM vM_14) (q := (RX8, TX8, 23)) rfl rfl rfl (As := [.int x3]) (rest := []) rfl rfl hl.1 (Nat.le_of_ble_eq_true rfl) dX8_tellsApart_23 (k1 := 0) (n1 := 0) rfl rfl ⟨Nat.zero_le _, Nat.zero_le _⟩ (fun H locs hP hD hS => ?_)
        refine lv_if_ne (tgt := 31) hx hb dX8_tellsApart_26 (by decide) (fun c20 => ?_) (fun c20 => ?_)
        · have hf := it_f hf c20
          refine lv_aload_n hx hb dX8_tellsApart_31 rfl (lv_at hl 0 rfl) ?_
          refine lv_iload_n hx hb dX8_tellsApart_32 rfl (lv_at hl 1 rfl) ?_
          obtain ⟨vM_21, hg22, hf⟩ := o1_at hf
          refine k_vvW ⟨hx, hb, hml, hown, htu⟩ hK hP hD hS hA hG (c_X8_asksTest l g bM vM_18 x1 vM_21 hg22) (cwV 1 htu (gU_V mw_6_68 hcX8_asksTest) rfl rfl rfl hdX8_asksTest ⟨Nat.le_of_ble_eq_true rfl, Nat.le_of_ble_eq_true rfl⟩) (q0 := 0) (ci := 8) (fs := fcM bM vM_18) (q := (RX8, TX8, 23)) rfl rfl rfl (As := [.int x1]) (rest := []) rfl rfl hl.1 (Nat.le_of_ble_eq_true rfl) dX8_tellsApart_33 (k1 := 0) (n1 := 0) rfl rfl ⟨Nat.zero_le _, Nat.zero_le _⟩ (fun H locs hP hD hS => ?_)
          refine lv_aload_n hx hb dX8_tellsApart_36 rfl (lv_at hl 0 rfl) ?_
          refine lv_iload_n hx hb dX8_tellsApart_37 rfl (lv_at hl 2 rfl) ?_
          obtain ⟨vM_23, hg24, hf⟩ := o1_at hf
          refine k_vvW ⟨hx, hb, hml, hown, htu⟩ hK hP hD hS hA hG (c_X8_bends l g bM vM_21 x2 vM_23 hg24) (cwV 1 htu (gU_V mw_6_102 hcX8_bends) rfl rfl rfl hdX8_bends ⟨Nat.le_of_ble_eq_true rfl, Nat.le_of_ble_eq_true rfl⟩) (q0 := 0) (ci := 8) (fs := fcM bM vM_21) (q := (RX8, TX8, 23)) rfl rfl rfl (As := [.int x2]) (rest := []) rfl rfl hl.1 (Nat.le_of_ble_eq_true rfl) dX8_tellsApart_38 (k1 := 0) (n1 := 0) rfl rfl ⟨Nat.zero_le _, Nat.zero_le _⟩ (fun H locs hP hD hS => ?_)
          refine lv_iconst (v := (0 : Int32)) hx hb dX8_tellsApart_41 (by decide) ?_
          refine lv_istore (lv' := [(4, .int (0 : Int32)), (0, .ref (bM 0)), (1, .int x1), (2, .int x2), (3, .int x3)]) hx hb dX8_tellsApart_42 hl (by decide) rfl (fun ls hl => ?_)
          have hL28 : ∀ (x4_25 : Int32) (vM_26 : Vs), lp (f_X8_tellsApart_L44 x3) (fun _ _ => none) FU x4_25 vM_26 = some (r, vM1) → ∀ (H : Heap) (locs : List Loc), va_P g.1 vwCl (cM g bM vM_26) H → va_D A (cM g bM vM_26) → va_S A s.heap H locs → ∀ ls : Array Slot, lv_has ls 5 [(0, .ref (bM 0)), (3, .int x3), (4, .int x4_25)] → W p l e (headSpec wsX8_tellsApart rmX8_tellsApart).room s m ([.ref (bM 0), .int x1, .int x2, .int x3] : List Value).toArray below meth c H locs 0 0 (MQ below (qI g A (cM g bM vM1) r) ([.ref (bM 0), .int x1, .int x2, .int x3] : List Value).toArray s 0 0 A) (F0 m 44 ls []) := by
            refine lp_ind (T := Int32 → Vs → Option (Int32 × Vs)) (fun self27 => ∀ (x4_25 : Int32) (vM_26 : Vs), self27 x4_25 vM_26 = some (r, vM1) → ∀ (H : Heap) (locs : List Loc), va_P g.1 vwCl (cM g bM vM_26) H → va_D A (cM g bM vM_26) → va_S A s.heap H locs → ∀ ls : Array Slot, lv_has ls 5 [(0, .ref (bM 0)), (3, .int x3), (4, .int x4_25)] → W p l e (headSpec wsX8_tellsApart rmX8_tellsApart).room s m ([.ref (bM 0), .int x1, .int x2, .int x3] : List Value).toArray below meth c H locs 0 0 (MQ below (qI g A (cM g bM vM1) r) ([.ref (bM 0), .int x1, .int x2, .int x3] : List Value).toArray s 0 0 A) (F0 m 44 ls [])) ?_ ?_ FU
            · intro x4_25 vM_26 hf; cases hf
            · intro self27 ih29 x4_25 vM_26 hf H locs hP hD hS ls hl
              unfold f_X8_tellsApart_L44 at hf
              refine lv_iload hx hb dX8_tellsApart_44 (lv_at hl 2 rfl) ?_
              refine lv_aload_n hx hb dX8_tellsApart_46 rfl (lv_at hl 0 rfl) ?_
              obtain ⟨r30, hg31, hf⟩ := o1_at hf
              refine k_viW ⟨hx, hb, hml, hown, htu⟩ hK hP hD hS hA hG (c_X8_outputs l g bM vM_26 r30 hg31) (cwV 0 htu (gU_V mw_6_40 hcX8_outputs) rfl rfl rfl hdX8_outputs ⟨Nat.le_of_ble_eq_true rfl, Nat.le_of_ble_eq_true rfl⟩) (q0 := 0) (ci := 8) (fs := fcM bM vM_26) (q := (RX8, TX8, 23)) rfl rfl rfl (As := []) (rest := [.int x4_25]) rfl rfl hl.1 (Nat.le_of_ble_eq_true rfl) dX8_tellsApart_47 (k1 := 0) (n1 := 0) rfl rfl ⟨Nat.zero_le _, Nat.zero_le _⟩ (fun H locs hP hD hS => ?_)
              refine lv_icmp_ge (tgt := 76) hx hb dX8_tellsApart_50 (by decide) (fun c32 => ?_) (fun c32 => ?_)
              · have hf := it_t hf c32
                refine lv_aload_n hx hb dX8_tellsApart_76 rfl (lv_at hl 0 rfl) ?_
                refine lv_iload_n hx hb dX8_tellsApart_77 rfl (lv_at hl 1 rfl) ?_
                obtain ⟨vM_33, hg34, hf⟩ := o1_at hf
                refine k_vvW ⟨hx, hb, hml, hown, htu⟩ hK hP hD hS hA hG (c_X8_bends l g bM vM_26 x3 vM_33 hg34) (cwV 1 htu (gU_V mw_6_102 hcX8_bends) rfl rfl rfl hdX8_bends ⟨Nat.le_of_ble_eq_true rfl, Nat.le_of_ble_eq_true rfl⟩) (q0 := 0) (ci := 8) (fs := fcM bM vM_26) (q := (RX8, TX8, 23)) rfl rfl rfl (As := [.int x3]) (rest := []) rfl rfl hl.1 (Nat.le_of_ble_eq_true rfl) dX8_tellsApart_78 (k1 := 0) (n1 := 0) rfl rfl ⟨Nat.zero_le _, Nat.zero_le _⟩ (fun H locs hP hD hS => ?_)
                refine lv_iconst (v := (0 : Int32)) hx hb dX8_tellsApart_81 (by decide) ?_
                refine lv_istore (lv' := [(4, .int (0 : Int32)), (0, .ref (bM 0)), (3, .int x3)]) hx hb dX8_tellsApart_82 hl (by decide) rfl (fun ls hl => ?_)
                have hL37 : ∀ (x4_35 : Int32), lp (f_X8_tellsApart_L84 vM_33) (fun _ => none) FU x4_35 = some (r, vM1) → ∀ (H : Heap) (locs : List Loc), va_P g.1 vwCl (cM g bM vM_33) H → va_D A (cM g bM vM_33) → va_S A s.heap H locs → ∀ ls : Array Slot, lv_has ls 5 [(0, .ref (bM 0)), (4, .int x4_35)] → W p l e (headSpec wsX8_tellsApart rmX8_tellsApart).room s m ([.ref (bM 0), .int x1, .int x2, .int x3] : List Value).toArray below meth c H locs 0 0 (MQ below (qI g A (cM g bM vM1) r) ([.ref (bM 0), .int x1, .int x2, .int x3] : List Value).toArray s 0 0 A) (F0 m 84 ls []) := by
                  refine lp_ind (T := Int32 → Option (Int32 × Vs)) (fun self36 => ∀ (x4_35 : Int32), self36 x4_35 = some (r, vM1) → ∀ (H : Heap) (locs : List Loc), va_P g.1 vwCl (cM g bM vM_33) H → va_D A (cM g bM vM_33) → va_S A s.heap H locs → ∀ ls : Array Slot, lv_has ls 5 [(0, .ref (bM 0)), (4, .int x4_35)] → W p l e (headSpec wsX8_tellsApart rmX8_tellsApart).room s m ([.ref (bM 0), .int x1, .int x2, .int x3] : List Value).toArray below meth c H locs 0 0 (MQ below (qI g A (cM g bM vM1) r) ([.ref (bM 0), .int x1, .int x2, .int x3] : List Value).toArray s 0 0 A) (F0 m 84 ls [])) ?_ ?_ FU
                  · intro x4_35 hf; cases hf
                  · intro self36 ih38 x4_35 hf H locs hP hD hS ls hl
                    unfold f_X8_tellsApart_L84 at hf
                    refine lv_iload hx hb dX8_tellsApart_84 (lv_at hl 1 rfl) ?_
                    refine lv_aload_n hx hb dX8_tellsApart_86 rfl (lv_at hl 0 rfl) ?_
                    obtain ⟨r39, hg40, hf⟩ := o1_at hf
                    refine k_viW ⟨hx, hb, hml, hown, htu⟩ hK hP hD hS hA hG (c_X8_outputs l g bM vM_33 r39 hg40) (cwV 0 htu (gU_V mw_6_40 hcX8_outputs) rfl rfl rfl hdX8_outputs ⟨Nat.le_of_ble_eq_true rfl, Nat.le_of_ble_eq_true rfl⟩) (q0 := 0) (ci := 8) (fs := fcM bM vM_33) (q := (RX8, TX8, 23)) rfl rfl rfl (As := []) (rest := [.int x4_35]) rfl rfl hl.1 (Nat.le_of_ble_eq_true rfl) dX8_tellsApart_87 (k1 := 0) (n1 := 0) rfl rfl ⟨Nat.zero_le _, Nat.zero_le _⟩ (fun H locs hP hD hS => ?_)
                    refine lv_icmp_ge (tgt := 146) hx hb dX8_tellsApart_90 (by decide) (fun c41 => ?_) (fun c41 => ?_)
                    · have hf := it_t hf c41
                      refine lv_iconst (v := (0 : Int32)) hx hb dX8_tellsApart_146 (by decide) ?_
                      obtain ⟨h42, hf⟩ := gd_isB hf
                      obtain ⟨e43, e44⟩ := kp_2 hf
                      rw [e44] at hP hD
                      exact k_zret hx hb hr hlocks hK hP hD hS e43 h42 dX8_tellsApart_147
                    · have hf := it_f hf c41
                      refine lv_aload_n hx hb dX8_tellsApart_93 rfl (lv_at hl 0 rfl) ?_
                      refine va_get (D := g.1) (ci := 8) (fs := fcM bM vM_33) (v := .ref (bM 21)) (C := RX8) (T := TX8) (N := 23) hx hb htu hinX8 hown hK hP 0 rfl rfl 20 (by decide) k_5_92 (fun _ h9 => h9) rfl dX8_tellsApart_94 ?_
                      refine lv_iload hx hb dX8_tellsApart_97 (lv_at hl 1 rfl) ?_
                      obtain ⟨h45, hf⟩ := gd_in hf
                      refine va_iald (D := g.1) (f := (vM_33.2.1 20)) hx hb hK hP 11 0 rfl rfl h45 dX8_tellsApart_99 ?_
                      refine lv_iconst (v := (2 : Int32)) hx hb dX8_tellsApart_100 (by decide) ?_
                      obtain ⟨k46, hk48, hf⟩ := jn_at hf
                      have hJ47 : k46 = some (r, vM1) → ∀ (H : Heap) (locs : List Loc), va_P g.1 vwCl (cM g bM vM_33) H → va_D A (cM g bM vM_33) → va_S A s.heap H locs → ∀ ls : Array Slot, lv_has ls 5 [(0, .ref (bM 0)), (4, .int x4_35)] → W p l e (headSpec wsX8_tellsApart rmX8_tellsApart).room s m ([.ref (bM 0), .int x1, .int x2, .int x3] : List Value).toArray below meth c H locs 0 0 (MQ below (qI g A (cM g bM vM1) r) ([.ref (bM 0), .int x1, .int x2, .int x3] : List Value).toArray s 0 0 A) (F0 m 140 ls []) := by
                        intro hf H locs hP hD hS ls hl
                        rw [hk48] at hf
                        clear hk48
                        refine lv_iinc (v := (x4_35 + (1 : Int32))) (lv' := [(4, .int (x4_35 + (1 : Int32))), (0, .ref (bM 0))]) hx hb dX8_tellsApart_140 hl (k := 1) rfl rfl (by decide) rfl (fun ls hl => ?_)
                        refine lv_goto (tgt := 84) hx hb dX8_tellsApart_143 (by decide) ?_
                        exact ih38 (x4_35 + (1 : Int32)) hf H locs hP hD hS _ (lv_sub hl [1, 0] rfl)
                      refine lv_icmp_eq (tgt := 140) hx hb dX8_tellsApart_101 (by decide) (fun c49 => ?_) (fun c49 => ?_)
                      · have hf := it_t hf c49
                        exact hJ47 hf H locs hP hD hS _ (lv_sub hl [0, 1] rfl)
                      · have hf := it_f hf c49
                        refine lv_aload_n hx hb dX8_tellsApart_104 rfl (lv_at hl 0 rfl) ?_
                        refine lv_iload hx hb dX8_tellsApart_105 (lv_at hl 1 rfl) ?_
                        refine lv_aload_n hx hb dX8_tellsApart_107 rfl (lv_at hl 0 rfl) ?_
                        refine va_get (D := g.1) (ci := 8) (fs := fcM bM vM_33) (v := .ref (bM 9)) (C := RX8) (T := TX8) (N := 23) hx hb htu hinX8 hown hK hP 0 rfl rfl 8 (by decide) k_5_80 (fun _ h9 => h9) rfl dX8_tellsApart_108 ?_
                        obtain ⟨r50, hg51, hf⟩ := o1_at hf
                        refine k_viW ⟨hx, hb, hml, hown, htu⟩ hK hP hD hS hA hG (c_X8_atOutput_bent l g bM vM_33 x4_35 r50 hg51) (cwV 2 htu (gU_V mw_6_106 hcX8_atOutput) rfl rfl rfl hdX8_atOutput ⟨Nat.le_of_ble_eq_true rfl, Nat.le_of_ble_eq_true rfl⟩) (q0 := 0) (ci := 8) (fs := fcM bM vM_33) (q := (RX8, TX8, 23)) rfl rfl rfl (As := [.int x4_35, .ref (bM 9)]) (rest := []) rfl rfl hl.1 (Nat.le_of_ble_eq_true rfl) dX8_tellsApart_111 (k1 := 0) (n1 := 0) rfl rfl ⟨Nat.zero_le _, Nat.zero_le _⟩ (fun H locs hP hD hS => ?_)
                        refine lv_iconst (v := (2 : Int32)) hx hb dX8_tellsApart_114 (by decide) ?_
                        refine lv_icmp_eq (tgt := 140) hx hb dX8_tellsApart_115 (by decide) (fun c52 => ?_) (fun c52 => ?_)
                        · have hf := it_t hf c52
                          exact hJ47 hf H locs hP hD hS _ (lv_sub hl [0, 1] rfl)
                        · have hf := it_f hf c52
                          refine lv_aload_n hx hb dX8_tellsApart_118 rfl (lv_at hl 0 rfl) ?_
                          refine va_get (D := g.1) (ci := 8) (fs := fcM bM vM_33) (v := .ref (bM 21)) (C := RX8) (T := TX8) (N := 23) hx hb htu hinX8 hown hK hP 0 rfl rfl 20 (by decide) k_5_92 (fun _ h9 => h9) rfl dX8_tellsApart_119 ?_
                          refine lv_iload hx hb dX8_tellsApart_122 (lv_at hl 1 rfl) ?_
                          obtain ⟨h53, hf⟩ := gd_in hf
                          refine va_iald (D := g.1) (f := (vM_33.2.1 20)) hx hb hK hP 11 0 rfl rfl h53 dX8_tellsApart_124 ?_
                          refine lv_aload_n hx hb dX8_tellsApart_125 rfl (lv_at hl 0 rfl) ?_
                          refine lv_iload hx hb dX8_tellsApart_126 (lv_at hl 1 rfl) ?_
                          refine lv_aload_n hx hb dX8_tellsApart_128 rfl (lv_at hl 0 rfl) ?_
                          refine va_get (D := g.1) (ci := 8) (fs := fcM bM vM_33) (v := .ref (bM 9)) (C := RX8) (T := TX8) (N := 23) hx hb htu hinX8 hown hK hP 0 rfl rfl 8 (by decide) k_5_80 (fun _ h9 => h9) rfl dX8_tellsApart_129 ?_
                          obtain ⟨r54, hg55, hf⟩ := o1_at hf
                          refine k_viW ⟨hx, hb, hml, hown, htu⟩ hK hP hD hS hA hG (c_X8_atOutput_bent l g bM vM_33 x4_35 r54 hg55) (cwV 2 htu (gU_V mw_6_106 hcX8_atOutput) rfl rfl rfl hdX8_atOutput ⟨Nat.le_of_ble_eq_true rfl, Nat.le_of_ble_eq_true rfl⟩) (q0 := 0) (ci := 8) (fs := fcM bM vM_33) (q := (RX8, TX8, 23)) rfl rfl rfl (As := [.int x4_35, .ref (bM 9)]) (rest := [.int (vM_33.2.1 20 (x4_35).toNatClampNeg)]) rfl rfl hl.1 (Nat.le_of_ble_eq_true rfl) dX8_tellsApart_132 (k1 := 0) (n1 := 0) rfl rfl ⟨Nat.zero_le _, Nat.zero_le _⟩ (fun H locs hP hD hS => ?_)
                          refine lv_icmp_eq (tgt := 140) hx hb dX8_tellsApart_135 (by decide) (fun c56 => ?_) (fun c56 => ?_)
                          · have hf := it_t hf c56
                            exact hJ47 hf H locs hP hD hS _ (lv_sub hl [0, 1] rfl)
                          · have hf := it_f hf c56
                            refine lv_iconst (v := (1 : Int32)) hx hb dX8_tellsApart_138 (by decide) ?_
                            obtain ⟨h57, hf⟩ := gd_isB hf
                            obtain ⟨e58, e59⟩ := kp_2 hf
                            rw [e59] at hP hD
                            exact k_zret hx hb hr hlocks hK hP hD hS e58 h57 dX8_tellsApart_139
                exact hL37 (0 : Int32) hf H locs hP hD hS _ (lv_sub hl [1, 0] rfl)
              · have hf := it_f hf c32
                refine lv_aload_n hx hb dX8_tellsApart_53 rfl (lv_at hl 0 rfl) ?_
                refine va_get (D := g.1) (ci := 8) (fs := fcM bM vM_26) (v := .ref (bM 21)) (C := RX8) (T := TX8) (N := 23) hx hb htu hinX8 hown hK hP 0 rfl rfl 20 (by decide) k_5_92 (fun _ h9 => h9) rfl dX8_tellsApart_54 ?_
                refine lv_iload hx hb dX8_tellsApart_57 (lv_at hl 2 rfl) ?_
                refine lv_aload_n hx hb dX8_tellsApart_59 rfl (lv_at hl 0 rfl) ?_
                refine lv_iload hx hb dX8_tellsApart_60 (lv_at hl 2 rfl) ?_
                refine lv_aload_n hx hb dX8_tellsApart_62 rfl (lv_at hl 0 rfl) ?_
                refine va_get (D := g.1) (ci := 8) (fs := fcM bM vM_26) (v := .ref (bM 9)) (C := RX8) (T := TX8) (N := 23) hx hb htu hinX8 hown hK hP 0 rfl rfl 8 (by decide) k_5_80 (fun _ h9 => h9) rfl dX8_tellsApart_63 ?_
                obtain ⟨r60, hg61, hf⟩ := o1_at hf
                refine k_viW ⟨hx, hb, hml, hown, htu⟩ hK hP hD hS hA hG (c_X8_atOutput_bent l g bM vM_26 x4_25 r60 hg61) (cwV 2 htu (gU_V mw_6_106 hcX8_atOutput) rfl rfl rfl hdX8_atOutput ⟨Nat.le_of_ble_eq_true rfl, Nat.le_of_ble_eq_true rfl⟩) (q0 := 0) (ci := 8) (fs := fcM bM vM_26) (q := (RX8, TX8, 23)) rfl rfl rfl (As := [.int x4_25, .ref (bM 9)]) (rest := [.int x4_25, .ref (bM 21)]) rfl rfl hl.1 (Nat.le_of_ble_eq_true rfl) dX8_tellsApart_66 (k1 := 0) (n1 := 0) rfl rfl ⟨Nat.zero_le _, Nat.zero_le _⟩ (fun H locs hP hD hS => ?_)
                obtain ⟨h62, hf⟩ := gd_in hf
                refine va_iast (D := g.1) (f := (vM_26.2.1 20)) hx hb hK hP hD hS 11 0 rfl rfl h62 dX8_tellsApart_69 (fun H locs hP hD hS => ?_)
                obtain ⟨vM_63, evM_63⟩ : ∃ z, z = sI vM_26 20 (x4_25).toNatClampNeg r60 := ⟨_, rfl⟩
                have hf := bn_at hf evM_63
                have hP : va_P g.1 vwCl (cM g bM vM_63) H := by rw [evM_63]; exact hP
                have hD : va_D A (cM g bM vM_63) := by rw [evM_63]; exact hD
                refine lv_iinc (v := (x4_25 + (1 : Int32))) (lv' := [(4, .int (x4_25 + (1 : Int32))), (0, .ref (bM 0)), (3, .int x3)]) hx hb dX8_tellsApart_70 hl (k := 2) rfl rfl (by decide) rfl (fun ls hl => ?_)
                refine lv_goto (tgt := 44) hx hb dX8_tellsApart_73 (by decide) ?_
                exact ih29 (x4_25 + (1 : Int32)) vM_63 hf H locs hP hD hS _ (lv_sub hl [1, 2, 0] rfl)
          exact hL28 (0 : Int32) vM_23 hf H locs hP hD hS _ (lv_sub hl [1, 4, 0] rfl)
        · have hf := it_t hf c20
          exact hJ7 vM_18 hf H locs hP hD hS _ (lv_sub hl [] rfl)
  rw [hH, hlo] at hW
  exact hW
def f_X8_worth (vM : Vs) (x1 : Int32) : Option (Int32 × Vs) :=
  bn (sF vM 0 (0 : Int32)) (fun (vM_1 : Vs) => o2 (f_X8_isTest vM_1 x1) (fun (r2 : Int32) (vM_3 : Vs) => jn (fun (t5 : Int32) (vM_6 : Vs) => some (t5, vM_6)) (fun k7 => if r2 = 0 then k7 (0 : Int32) vM_3 else o2 (f_X8_worthOf vM_3 x1) (fun (r13 : Int32) (vM_14 : Vs) => k7 r13 vM_14))))
abbrev wsX8_worth : List Cond := .code yX8_worth cX8_worth 2 (some .int) :: UW
abbrev rmX8_worth : Room := { frames := 6, cells := 0, slots := 0, locals := 143 }
set_option maxHeartbeats 4000000 in
set_option maxRecDepth 100000 in
theorem c_X8_worth (l : Launch) (g : Gx) (bM : Nat → Nat) (vM : Vs) (x1 : Int32) (r : Int32) (vM1 : Vs) (hf : f_X8_worth vM x1 = some (r, vM1)) : CtI l yX8_worth wsX8_worth rmX8_worth g [.ref (bM 0), .int x1] (cM g bM vM) (cM g bM vM1) r 0 0 := by
  unfold CtI
  intro sz
  refine Met.ofW (cc := cX8_worth) (maxL := 2) (ret := (some .int)) (by decide) rfl ?_
  intro p e s m args below meth c s₁ B hml hv
  obtain ⟨rfl, hsz, hP, hK, hD0, hG⟩ := hv
  have hx := B.exec
  have hb := B.bytes
  have hr := B.returns
  have hts := atoms_spec (ws := wsX8_worth) B.pre
  have hown : s.vm.findClass RX8 = some m.cls := findClass_of_methodNamed B.named
  have hlocks := B.notSynchronized
  subst hsz
  have hD := hD0.self (sz := s.heap.size)
  generalize hAe : va_A (cM g bM vM) s.heap.size = A at hD hG ⊢
  have hA : ∀ q : Nat, s.heap.size ≤ q → A q := fun q h => by rw [← hAe]; exact Or.inr h
  clear hAe hD0
  have hS : va_S A s.heap s.heap [] := va_S.rf
  have hl := lv_entry ([.ref (bM 0), .int x1]) (n := 2) (Nat.le_of_ble_eq_true rfl)
  rw [lg_entry_eq]
  generalize (lg_sl ([.ref (bM 0), .int x1]) ++ List.replicate (2 - (lg_sl ([.ref (bM 0), .int x1])).length) Slot.unset).toArray = ls at hl ⊢
  have hl : lv_has ls 2 [(0, .ref (bM 0)), (1, .int x1)] := hl
  have htu : ∀ w ∈ UW, w.before _ s = true := fun w h => hts w (List.mem_cons_of_mem _ h)
  have k_5_72 := htu _ mw_5_72
  unfold f_X8_worth at hf
  obtain ⟨H, hH⟩ : ∃ z, z = s.heap := ⟨_, rfl⟩
  obtain ⟨locs, hlo⟩ : ∃ z : List Loc, z = [] := ⟨_, rfl⟩
  have hS : va_S A s.heap H locs := by rw [hH, hlo]; exact hS
  rw [← hH] at hP
  have hW : W p l e (headSpec wsX8_worth rmX8_worth).room s m ([.ref (bM 0), .int x1] : List Value).toArray below meth c H locs 0 0 (MQ below (qI g A (cM g bM vM1) r) ([.ref (bM 0), .int x1] : List Value).toArray s 0 0 A) (F0 m 0 ls []) := by
    refine lv_aload_n hx hb dX8_worth_0 rfl (lv_at hl 0 rfl) ?_
    refine lv_iconst (v := (0 : Int32)) hx hb dX8_worth_1 (by decide) ?_
    refine va_put (D := g.1) (ci := 8) (fs := fcM bM vM) (v := .int (0 : Int32)) (ty := .int) (C := RX8) (T := TX8) (N := 23) hx hb htu hinX8 tyX8 tyX8_ok nmX8 hown hK hP hD hS 0 rfl rfl 0 (by decide) k_5_72 (fun _ h9 => h9) rfl (by decide +kernel) rfl rfl (Nat.le_of_ble_eq_true rfl) dX8_worth_2 (fun H locs hP hD hS => ?_)
    obtain ⟨vM_1, evM_1⟩ : ∃ z, z = sF vM 0 (0 : Int32) := ⟨_, rfl⟩
    have hf := bn_at hf evM_1
    have hP : va_P g.1 vwCl (cM g bM vM_1) H := by rw [evM_1]; exact hP
    have hD : va_D A (cM g bM vM_1) := by rw [evM_1]; exact hD
    refine lv_aload_n hx hb dX8_worth_5 rfl (lv_at hl 0 rfl) ?_
    refine lv_iload_n hx hb dX8_worth_6 rfl (lv_at hl 1 rfl) ?_
    obtain ⟨r2, vM_3, hg4, hf⟩ := o2_at hf
    refine k_viW ⟨hx, hb, hml, hown, htu⟩ hK hP hD hS hA hG (c_X8_isTest l g bM vM_1 x1 r2 vM_3 hg4) (cwV 1 htu (gU_V mw_6_142 hcX8_isTest) rfl rfl rfl hdX8_isTest ⟨Nat.le_of_ble_eq_true rfl, Nat.le_of_ble_eq_true rfl⟩) (q0 := 0) (ci := 8) (fs := fcM bM vM_1) (q := (RX8, TX8, 23)) rfl rfl rfl (As := [.int x1]) (rest := []) rfl rfl hl.1 (Nat.le_of_ble_eq_true rfl) dX8_worth_7 (k1 := 0) (n1 := 0) rfl rfl ⟨Nat.zero_le _, Nat.zero_le _⟩ (fun H locs hP hD hS => ?_)
    obtain ⟨k7, hk11, hf⟩ := jn_at hf
    have hJ8 : ∀ (t5 : Int32) (vM_6 : Vs), k7 t5 vM_6 = some (r, vM1) → ∀ (H : Heap) (locs : List Loc), va_P g.1 vwCl (cM g bM vM_6) H → va_D A (cM g bM vM_6) → va_S A s.heap H locs → ∀ ls : Array Slot, lv_has ls 2 [] → W p l e (headSpec wsX8_worth rmX8_worth).room s m ([.ref (bM 0), .int x1] : List Value).toArray below meth c H locs 0 0 (MQ below (qI g A (cM g bM vM1) r) ([.ref (bM 0), .int x1] : List Value).toArray s 0 0 A) (F0 m 22 ls [.int t5]) := by
      intro t5 vM_6 hf H locs hP hD hS ls hl
      rw [hk11] at hf
      dsimp only at hf
      clear hk11
      obtain ⟨e9, e10⟩ := kp_2 hf
      rw [e10] at hP hD
      exact k_iret hx hb hr hlocks hK hP hD hS e9 dX8_worth_22
    refine lv_if_eq (tgt := 21) hx hb dX8_worth_10 (by decide) (fun c12 => ?_) (fun c12 => ?_)
    · have hf := it_t hf c12
      refine lv_iconst (v := (0 : Int32)) hx hb dX8_worth_21 (by decide) ?_
      exact hJ8 (0 : Int32) vM_3 hf H locs hP hD hS _ (lv_sub hl [] rfl)
    · have hf := it_f hf c12
      refine lv_aload_n hx hb dX8_worth_13 rfl (lv_at hl 0 rfl) ?_
      refine lv_iload_n hx hb dX8_worth_14 rfl (lv_at hl 1 rfl) ?_
      obtain ⟨r13, vM_14, hg15, hf⟩ := o2_at hf
      refine k_viW ⟨hx, hb, hml, hown, htu⟩ hK hP hD hS hA hG (c_X8_worthOf l g bM vM_3 x1 r13 vM_14 hg15) (cwV 1 htu (gU_V mw_6_166 hcX8_worthOf) rfl rfl rfl hdX8_worthOf ⟨Nat.le_of_ble_eq_true rfl, Nat.le_of_ble_eq_true rfl⟩) (q0 := 0) (ci := 8) (fs := fcM bM vM_3) (q := (RX8, TX8, 23)) rfl rfl rfl (As := [.int x1]) (rest := []) rfl rfl hl.1 (Nat.le_of_ble_eq_true rfl) dX8_worth_15 (k1 := 0) (n1 := 0) rfl rfl ⟨Nat.zero_le _, Nat.zero_le _⟩ (fun H locs hP hD hS => ?_)
      refine lv_goto (tgt := 22) hx hb dX8_worth_18 (by decide) ?_
      exact hJ8 r13 vM_14 hf H locs hP hD hS _ (lv_sub hl [] rfl)
  rw [hH, hlo] at hW
  exact hW
def f_X8_testFor (vM : Vs) (x1 : Int32) : Option (Int32 × Vs) :=
  bn (sF vM 0 (0 : Int32)) (fun (vM_1 : Vs) => o2 (f_X8_isFault vM_1 x1) (fun (r2 : Int32) (vM_3 : Vs) => if r2 = 0 then some ((0 : Int32), vM_3) else o1 (f_X8_lays vM_3) (fun (vM_6 : Vs) => o1 (f_X8_between vM_6 x1 (56 : Int32)) (fun (r8 : Int32) => some (r8, vM_6)))))
abbrev wsX8_testFor : List Cond := .code yX8_testFor cX8_testFor 2 (some .int) :: UW
abbrev rmX8_testFor : Room := { frames := 6, cells := 0, slots := 0, locals := 135 }
set_option maxHeartbeats 4000000 in
set_option maxRecDepth 100000 in
theorem c_X8_testFor (l : Launch) (g : Gx) (bM : Nat → Nat) (vM : Vs) (x1 : Int32) (r : Int32) (vM1 : Vs) (hf : f_X8_testFor vM x1 = some (r, vM1)) : CtI l yX8_testFor wsX8_testFor rmX8_testFor g [.ref (bM 0), .int x1] (cM g bM vM) (cM g bM vM1) r 0 0 := by
  unfold CtI
  intro sz
  refine Met.ofW (cc := cX8_testFor) (maxL := 2) (ret := (some .int)) (by decide) rfl ?_
  intro p e s m args below meth c s₁ B hml hv
  obtain ⟨rfl, hsz, hP, hK, hD0, hG⟩ := hv
  have hx := B.exec
  have hb := B.bytes
  have hr := B.returns
  have hts := atoms_spec (ws := wsX8_testFor) B.pre
  have hown : s.vm.findClass RX8 = some m.cls := findClass_of_methodNamed B.named
  have hlocks := B.notSynchronized
  subst hsz
  have hD := hD0.self (sz := s.heap.size)
  generalize hAe : va_A (cM g bM vM) s.heap.size = A at hD hG ⊢
  have hA : ∀ q : Nat, s.heap.size ≤ q → A q := fun q h => by rw [← hAe]; exact Or.inr h
  clear hAe hD0
  have hS : va_S A s.heap s.heap [] := va_S.rf
  have hl := lv_entry ([.ref (bM 0), .int x1]) (n := 2) (Nat.le_of_ble_eq_true rfl)
  rw [lg_entry_eq]
  generalize (lg_sl ([.ref (bM 0), .int x1]) ++ List.replicate (2 - (lg_sl ([.ref (bM 0), .int x1])).length) Slot.unset).toArray = ls at hl ⊢
  have hl : lv_has ls 2 [(0, .ref (bM 0)), (1, .int x1)] := hl
  have htu : ∀ w ∈ UW, w.before _ s = true := fun w h => hts w (List.mem_cons_of_mem _ h)
  have k_5_72 := htu _ mw_5_72
  unfold f_X8_testFor at hf
  obtain ⟨H, hH⟩ : ∃ z, z = s.heap := ⟨_, rfl⟩
  obtain ⟨locs, hlo⟩ : ∃ z : List Loc, z = [] := ⟨_, rfl⟩
  have hS : va_S A s.heap H locs := by rw [hH, hlo]; exact hS
  rw [← hH] at hP
  have hW : W p l e (headSpec wsX8_testFor rmX8_testFor).room s m ([.ref (bM 0), .int x1] : List Value).toArray below meth c H locs 0 0 (MQ below (qI g A (cM g bM vM1) r) ([.ref (bM 0), .int x1] : List Value).toArray s 0 0 A) (F0 m 0 ls []) := by
    refine lv_aload_n hx hb dX8_testFor_0 rfl (lv_at hl 0 rfl) ?_
    refine lv_iconst (v := (0 : Int32)) hx hb dX8_testFor_1 (by decide) ?_
    refine va_put (D := g.1) (ci := 8) (fs := fcM bM vM) (v := .int (0 : Int32)) (ty := .int) (C := RX8) (T := TX8) (N := 23) hx hb htu hinX8 tyX8 tyX8_ok nmX8 hown hK hP hD hS 0 rfl rfl 0 (by decide) k_5_72 (fun _ h9 => h9) rfl (by decide +kernel) rfl rfl (Nat.le_of_ble_eq_true rfl) dX8_testFor_2 (fun H locs hP hD hS => ?_)
    obtain ⟨vM_1, evM_1⟩ : ∃ z, z = sF vM 0 (0 : Int32) := ⟨_, rfl⟩
    have hf := bn_at hf evM_1
    have hP : va_P g.1 vwCl (cM g bM vM_1) H := by rw [evM_1]; exact hP
    have hD : va_D A (cM g bM vM_1) := by rw [evM_1]; exact hD
    refine lv_aload_n hx hb dX8_testFor_5 rfl (lv_at hl 0 rfl) ?_
    refine lv_iload_n hx hb dX8_testFor_6 rfl (lv_at hl 1 rfl) ?_
    obtain ⟨r2, vM_3, hg4, hf⟩ := o2_at hf
    refine k_viW ⟨hx, hb, hml, hown, htu⟩ hK hP hD hS hA hG (c_X8_isFault l g bM vM_1 x1 r2 vM_3 hg4) (cwV 1 htu (gU_V mw_6_150 hcX8_isFault) rfl rfl rfl hdX8_isFault ⟨Nat.le_of_ble_eq_true rfl, Nat.le_of_ble_eq_true rfl⟩) (q0 := 0) (ci := 8) (fs := fcM bM vM_1) (q := (RX8, TX8, 23)) rfl rfl rfl (As := [.int x1]) (rest := []) rfl rfl hl.1 (Nat.le_of_ble_eq_true rfl) dX8_testFor_7 (k1 := 0) (n1 := 0) rfl rfl ⟨Nat.zero_le _, Nat.zero_le _⟩ (fun H locs hP hD hS => ?_)
    refine lv_if_ne (tgt := 15) hx hb dX8_testFor_10 (by decide) (fun c5 => ?_) (fun c5 => ?_)
    · have hf := it_f hf c5
      refine lv_aload_n hx hb dX8_testFor_15 rfl (lv_at hl 0 rfl) ?_
      obtain ⟨vM_6, hg7, hf⟩ := o1_at hf
      refine k_vvW ⟨hx, hb, hml, hown, htu⟩ hK hP hD hS hA hG (c_X8_lays l g bM vM_3 vM_6 hg7) (cwV 0 htu (gU_V mw_6_174 hcX8_lays) rfl rfl rfl hdX8_lays ⟨Nat.le_of_ble_eq_true rfl, Nat.le_of_ble_eq_true rfl⟩) (q0 := 0) (ci := 8) (fs := fcM bM vM_3) (q := (RX8, TX8, 23)) rfl rfl rfl (As := []) (rest := []) rfl rfl hl.1 (Nat.le_of_ble_eq_true rfl) dX8_testFor_16 (k1 := 0) (n1 := 0) rfl rfl ⟨Nat.zero_le _, Nat.zero_le _⟩ (fun H locs hP hD hS => ?_)
      refine lv_aload_n hx hb dX8_testFor_19 rfl (lv_at hl 0 rfl) ?_
      refine lv_iload_n hx hb dX8_testFor_20 rfl (lv_at hl 1 rfl) ?_
      refine lv_bipush (v := (56 : Int32)) hx hb dX8_testFor_21 (by decide) ?_
      obtain ⟨r8, hg9, hf⟩ := o1_at hf
      refine k_viW ⟨hx, hb, hml, hown, htu⟩ hK hP hD hS hA hG (c_X8_between l g bM vM_6 x1 (56 : Int32) r8 hg9) (cwV 2 htu (gU_V mw_6_190 hcX8_between) rfl rfl rfl hdX8_between ⟨Nat.le_of_ble_eq_true rfl, Nat.le_of_ble_eq_true rfl⟩) (q0 := 0) (ci := 8) (fs := fcM bM vM_6) (q := (RX8, TX8, 23)) rfl rfl rfl (As := [.int x1, .int (56 : Int32)]) (rest := []) rfl rfl hl.1 (Nat.le_of_ble_eq_true rfl) dX8_testFor_23 (k1 := 0) (n1 := 0) rfl rfl ⟨Nat.zero_le _, Nat.zero_le _⟩ (fun H locs hP hD hS => ?_)
      obtain ⟨e10, e11⟩ := kp_2 hf
      rw [e11] at hP hD
      exact k_iret hx hb hr hlocks hK hP hD hS e10 dX8_testFor_26
    · have hf := it_t hf c5
      refine lv_iconst (v := (0 : Int32)) hx hb dX8_testFor_13 (by decide) ?_
      obtain ⟨e12, e13⟩ := kp_2 hf
      rw [e13] at hP hD
      exact k_iret hx hb hr hlocks hK hP hD hS e12 dX8_testFor_14
  rw [hH, hlo] at hW
  exact hW
def f_X8_testBetween (vM : Vs) (x1 : Int32) (x2 : Int32) : Option (Int32 × Vs) :=
  bn (sF vM 0 (0 : Int32)) (fun (vM_1 : Vs) => o2 (f_X8_isFault vM_1 x1) (fun (r2 : Int32) (vM_3 : Vs) => jn (fun (vM_5 : Vs) => some ((0 : Int32), vM_5)) (fun k6 => if r2 = 0 then k6 vM_3 else o2 (f_X8_isFault vM_3 x2) (fun (r12 : Int32) (vM_13 : Vs) => if r12 = 0 then k6 vM_13 else o1 (f_X8_lays vM_13) (fun (vM_16 : Vs) => o1 (f_X8_between vM_16 x1 x2) (fun (r18 : Int32) => some (r18, vM_16)))))))
abbrev wsX8_testBetween : List Cond := .code yX8_testBetween cX8_testBetween 3 (some .int) :: UW
abbrev rmX8_testBetween : Room := { frames := 6, cells := 0, slots := 0, locals := 135 }
set_option maxHeartbeats 4000000 in
set_option maxRecDepth 100000 in
theorem c_X8_testBetween (l : Launch) (g : Gx) (bM : Nat → Nat) (vM : Vs) (x1 : Int32) (x2 : Int32) (r : Int32) (vM1 : Vs) (hf : f_X8_testBetween vM x1 x2 = some (r, vM1)) : CtI l yX8_testBetween wsX8_testBetween rmX8_testBetween g [.ref (bM 0), .int x1, .int x2] (cM g bM vM) (cM g bM vM1) r 0 0 := by
  unfold CtI
  intro sz
  refine Met.ofW (cc := cX8_testBetween) (maxL := 3) (ret := (some .int)) (by decide) rfl ?_
  intro p e s m args below meth c s₁ B hml hv
  obtain ⟨rfl, hsz, hP, hK, hD0, hG⟩ := hv
  have hx := B.exec
  have hb := B.bytes
  have hr := B.returns
  have hts := atoms_spec (ws := wsX8_testBetween) B.pre
  have hown : s.vm.findClass RX8 = some m.cls := findClass_of_methodNamed B.named
  have hlocks := B.notSynchronized
  subst hsz
  have hD := hD0.self (sz := s.heap.size)
  generalize hAe : va_A (cM g bM vM) s.heap.size = A at hD hG ⊢
  have hA : ∀ q : Nat, s.heap.size ≤ q → A q := fun q h => by rw [← hAe]; exact Or.inr h
  clear hAe hD0
  have hS : va_S A s.heap s.heap [] := va_S.rf
  have hl := lv_entry ([.ref (bM 0), .int x1, .int x2]) (n := 3) (Nat.le_of_ble_eq_true rfl)
  rw [lg_entry_eq]
  generalize (lg_sl ([.ref (bM 0), .int x1, .int x2]) ++ List.replicate (3 - (lg_sl ([.ref (bM 0), .int x1, .int x2])).length) Slot.unset).toArray = ls at hl ⊢
  have hl : lv_has ls 3 [(0, .ref (bM 0)), (1, .int x1), (2, .int x2)] := hl
  have htu : ∀ w ∈ UW, w.before _ s = true := fun w h => hts w (List.mem_cons_of_mem _ h)
  have k_5_72 := htu _ mw_5_72
  unfold f_X8_testBetween at hf
  obtain ⟨H, hH⟩ : ∃ z, z = s.heap := ⟨_, rfl⟩
  obtain ⟨locs, hlo⟩ : ∃ z : List Loc, z = [] := ⟨_, rfl⟩
  have hS : va_S A s.heap H locs := by rw [hH, hlo]; exact hS
  rw [← hH] at hP
  have hW : W p l e (headSpec wsX8_testBetween rmX8_testBetween).room s m ([.ref (bM 0), .int x1, .int x2] : List Value).toArray below meth c H locs 0 0 (MQ below (qI g A (cM g bM vM1) r) ([.ref (bM 0), .int x1, .int x2] : List Value).toArray s 0 0 A) (F0 m 0 ls []) := by
    refine lv_aload_n hx hb dX8_testBetween_0 rfl (lv_at hl 0 rfl) ?_
    refine lv_iconst (v := (0 : Int32)) hx hb dX8_testBetween_1 (by decide) ?_
    refine va_put (D := g.1) (ci := 8) (fs := fcM bM vM) (v := .int (0 : Int32)) (ty := .int) (C := RX8) (T := TX8) (N := 23) hx hb htu hinX8 tyX8 tyX8_ok nmX8 hown hK hP hD hS 0 rfl rfl 0 (by decide) k_5_72 (fun _ h9 => h9) rfl (by decide +kernel) rfl rfl (Nat.le_of_ble_eq_true rfl) dX8_testBetween_2 (fun H locs hP hD hS => ?_)
    obtain ⟨vM_1, evM_1⟩ : ∃ z, z = sF vM 0 (0 : Int32) := ⟨_, rfl⟩
    have hf := bn_at hf evM_1
    have hP : va_P g.1 vwCl (cM g bM vM_1) H := by rw [evM_1]; exact hP
    have hD : va_D A (cM g bM vM_1) := by rw [evM_1]; exact hD
    refine lv_aload_n hx hb dX8_testBetween_5 rfl (lv_at hl 0 rfl) ?_
    refine lv_iload_n hx hb dX8_testBetween_6 rfl (lv_at hl 1 rfl) ?_
    obtain ⟨r2, vM_3, hg4, hf⟩ := o2_at hf
    refine k_viW ⟨hx, hb, hml, hown, htu⟩ hK hP hD hS hA hG (c_X8_isFault l g bM vM_1 x1 r2 vM_3 hg4) (cwV 1 htu (gU_V mw_6_150 hcX8_isFault) rfl rfl rfl hdX8_isFault ⟨Nat.le_of_ble_eq_true rfl, Nat.le_of_ble_eq_true rfl⟩) (q0 := 0) (ci := 8) (fs := fcM bM vM_1) (q := (RX8, TX8, 23)) rfl rfl rfl (As := [.int x1]) (rest := []) rfl rfl hl.1 (Nat.le_of_ble_eq_true rfl) dX8_testBetween_7 (k1 := 0) (n1 := 0) rfl rfl ⟨Nat.zero_le _, Nat.zero_le _⟩ (fun H locs hP hD hS => ?_)
    obtain ⟨k6, hk10, hf⟩ := jn_at hf
    have hJ7 : ∀ (vM_5 : Vs), k6 vM_5 = some (r, vM1) → ∀ (H : Heap) (locs : List Loc), va_P g.1 vwCl (cM g bM vM_5) H → va_D A (cM g bM vM_5) → va_S A s.heap H locs → ∀ ls : Array Slot, lv_has ls 3 [] → W p l e (headSpec wsX8_testBetween rmX8_testBetween).room s m ([.ref (bM 0), .int x1, .int x2] : List Value).toArray below meth c H locs 0 0 (MQ below (qI g A (cM g bM vM1) r) ([.ref (bM 0), .int x1, .int x2] : List Value).toArray s 0 0 A) (F0 m 21 ls []) := by
      intro vM_5 hf H locs hP hD hS ls hl
      rw [hk10] at hf
      dsimp only at hf
      clear hk10
      refine lv_iconst (v := (0 : Int32)) hx hb dX8_testBetween_21 (by decide) ?_
      obtain ⟨e8, e9⟩ := kp_2 hf
      rw [e9] at hP hD
      exact k_iret hx hb hr hlocks hK hP hD hS e8 dX8_testBetween_22
    refine lv_if_eq (tgt := 21) hx hb dX8_testBetween_10 (by decide) (fun c11 => ?_) (fun c11 => ?_)
    · have hf := it_t hf c11
      exact hJ7 vM_3 hf H locs hP hD hS _ (lv_sub hl [] rfl)
    · have hf := it_f hf c11
      refine lv_aload_n hx hb dX8_testBetween_13 rfl (lv_at hl 0 rfl) ?_
      refine lv_iload_n hx hb dX8_testBetween_14 rfl (lv_at hl 2 rfl) ?_
      obtain ⟨r12, vM_13, hg14, hf⟩ := o2_at hf
      refine k_viW ⟨hx, hb, hml, hown, htu⟩ hK hP hD hS hA hG (c_X8_isFault l g bM vM_3 x2 r12 vM_13 hg14) (cwV 1 htu (gU_V mw_6_150 hcX8_isFault) rfl rfl rfl hdX8_isFault ⟨Nat.le_of_ble_eq_true rfl, Nat.le_of_ble_eq_true rfl⟩) (q0 := 0) (ci := 8) (fs := fcM bM vM_3) (q := (RX8, TX8, 23)) rfl rfl rfl (As := [.int x2]) (rest := []) rfl rfl hl.1 (Nat.le_of_ble_eq_true rfl) dX8_testBetween_15 (k1 := 0) (n1 := 0) rfl rfl ⟨Nat.zero_le _, Nat.zero_le _⟩ (fun H locs hP hD hS => ?_)
      refine lv_if_ne (tgt := 23) hx hb dX8_testBetween_18 (by decide) (fun c15 => ?_) (fun c15 => ?_)
      · have hf := it_f hf c15
        refine lv_aload_n hx hb dX8_testBetween_23 rfl (lv_at hl 0 rfl) ?_
        obtain ⟨vM_16, hg17, hf⟩ := o1_at hf
        refine k_vvW ⟨hx, hb, hml, hown, htu⟩ hK hP hD hS hA hG (c_X8_lays l g bM vM_13 vM_16 hg17) (cwV 0 htu (gU_V mw_6_174 hcX8_lays) rfl rfl rfl hdX8_lays ⟨Nat.le_of_ble_eq_true rfl, Nat.le_of_ble_eq_true rfl⟩) (q0 := 0) (ci := 8) (fs := fcM bM vM_13) (q := (RX8, TX8, 23)) rfl rfl rfl (As := []) (rest := []) rfl rfl hl.1 (Nat.le_of_ble_eq_true rfl) dX8_testBetween_24 (k1 := 0) (n1 := 0) rfl rfl ⟨Nat.zero_le _, Nat.zero_le _⟩ (fun H locs hP hD hS => ?_)
        refine lv_aload_n hx hb dX8_testBetween_27 rfl (lv_at hl 0 rfl) ?_
        refine lv_iload_n hx hb dX8_testBetween_28 rfl (lv_at hl 1 rfl) ?_
        refine lv_iload_n hx hb dX8_testBetween_29 rfl (lv_at hl 2 rfl) ?_
        obtain ⟨r18, hg19, hf⟩ := o1_at hf
        refine k_viW ⟨hx, hb, hml, hown, htu⟩ hK hP hD hS hA hG (c_X8_between l g bM vM_16 x1 x2 r18 hg19) (cwV 2 htu (gU_V mw_6_190 hcX8_between) rfl rfl rfl hdX8_between ⟨Nat.le_of_ble_eq_true rfl, Nat.le_of_ble_eq_true rfl⟩) (q0 := 0) (ci := 8) (fs := fcM bM vM_16) (q := (RX8, TX8, 23)) rfl rfl rfl (As := [.int x1, .int x2]) (rest := []) rfl rfl hl.1 (Nat.le_of_ble_eq_true rfl) dX8_testBetween_30 (k1 := 0) (n1 := 0) rfl rfl ⟨Nat.zero_le _, Nat.zero_le _⟩ (fun H locs hP hD hS => ?_)
        obtain ⟨e20, e21⟩ := kp_2 hf
        rw [e21] at hP hD
        exact k_iret hx hb hr hlocks hK hP hD hS e20 dX8_testBetween_33
      · have hf := it_t hf c15
        exact hJ7 vM_13 hf H locs hP hD hS _ (lv_sub hl [] rfl)
  rw [hH, hlo] at hW
  exact hW
def f_X8_hiddenMany_L8 (vM_1 : Vs) (self5 : Int32 → Int32 → Option (Int32 × Vs)) (x1_3 : Int32) (x2_4 : Int32) : Option (Int32 × Vs) :=
  o1 (f_X8_faults vM_1) (fun (r8 : Int32) => if r8 ≤ x2_4 then some (x1_3, vM_1) else o1 (f_X8_isHidden vM_1 x2_4) (fun (r13 : Int32) => jn (fun (t15 : Int32) => self5 (x1_3 + t15) (x2_4 + (1 : Int32))) (fun k16 => if r13 = 0 then k16 (0 : Int32) else k16 (1 : Int32))))
def f_X8_hiddenMany (vM : Vs) : Option (Int32 × Vs) :=
  o1 (f_X8_lays vM) (fun (vM_1 : Vs) => lp (f_X8_hiddenMany_L8 vM_1) (fun _ _ => none) FU (0 : Int32) (0 : Int32))
abbrev wsX8_hiddenMany : List Cond := .code yX8_hiddenMany cX8_hiddenMany 3 (some .int) :: UW
abbrev rmX8_hiddenMany : Room := { frames := 6, cells := 0, slots := 0, locals := 135 }
set_option maxHeartbeats 4000000 in
set_option maxRecDepth 100000 in
theorem c_X8_hiddenMany (l : Launch) (g : Gx) (bM : Nat → Nat) (vM : Vs) (r : Int32) (vM1 : Vs) (hf : f_X8_hiddenMany vM = some (r, vM1)) : CtI l yX8_hiddenMany wsX8_hiddenMany rmX8_hiddenMany g [.ref (bM 0)] (cM g bM vM) (cM g bM vM1) r 0 0 := by
  unfold CtI
  intro sz
  refine Met.ofW (cc := cX8_hiddenMany) (maxL := 3) (ret := (some .int)) (by decide) rfl ?_
  intro p e s m args below meth c s₁ B hml hv
  obtain ⟨rfl, hsz, hP, hK, hD0, hG⟩ := hv
  have hx := B.exec
  have hb := B.bytes
  have hr := B.returns
  have hts := atoms_spec (ws := wsX8_hiddenMany) B.pre
  have hown : s.vm.findClass RX8 = some m.cls := findClass_of_methodNamed B.named
  have hlocks := B.notSynchronized
  subst hsz
  have hD := hD0.self (sz := s.heap.size)
  generalize hAe : va_A (cM g bM vM) s.heap.size = A at hD hG ⊢
  have hA : ∀ q : Nat, s.heap.size ≤ q → A q := fun q h => by rw [← hAe]; exact Or.inr h
  clear hAe hD0
  have hS : va_S A s.heap s.heap [] := va_S.rf
  have hl := lv_entry ([.ref (bM 0)]) (n := 3) (Nat.le_of_ble_eq_true rfl)
  rw [lg_entry_eq]
  generalize (lg_sl ([.ref (bM 0)]) ++ List.replicate (3 - (lg_sl ([.ref (bM 0)])).length) Slot.unset).toArray = ls at hl ⊢
  have hl : lv_has ls 3 [(0, .ref (bM 0))] := hl
  have htu : ∀ w ∈ UW, w.before _ s = true := fun w h => hts w (List.mem_cons_of_mem _ h)
  unfold f_X8_hiddenMany at hf
  obtain ⟨H, hH⟩ : ∃ z, z = s.heap := ⟨_, rfl⟩
  obtain ⟨locs, hlo⟩ : ∃ z : List Loc, z = [] := ⟨_, rfl⟩
  have hS : va_S A s.heap H locs := by rw [hH, hlo]; exact hS
  rw [← hH] at hP
  have hW : W p l e (headSpec wsX8_hiddenMany rmX8_hiddenMany).room s m ([.ref (bM 0)] : List Value).toArray below meth c H locs 0 0 (MQ below (qI g A (cM g bM vM1) r) ([.ref (bM 0)] : List Value).toArray s 0 0 A) (F0 m 0 ls []) := by
    refine lv_aload_n hx hb dX8_hiddenMany_0 rfl (lv_at hl 0 rfl) ?_
    obtain ⟨vM_1, hg2, hf⟩ := o1_at hf
    refine k_vvW ⟨hx, hb, hml, hown, htu⟩ hK hP hD hS hA hG (c_X8_lays l g bM vM vM_1 hg2) (cwV 0 htu (gU_V mw_6_174 hcX8_lays) rfl rfl rfl hdX8_lays ⟨Nat.le_of_ble_eq_true rfl, Nat.le_of_ble_eq_true rfl⟩) (q0 := 0) (ci := 8) (fs := fcM bM vM) (q := (RX8, TX8, 23)) rfl rfl rfl (As := []) (rest := []) rfl rfl hl.1 (Nat.le_of_ble_eq_true rfl) dX8_hiddenMany_1 (k1 := 0) (n1 := 0) rfl rfl ⟨Nat.zero_le _, Nat.zero_le _⟩ (fun H locs hP hD hS => ?_)
    refine lv_iconst (v := (0 : Int32)) hx hb dX8_hiddenMany_4 (by decide) ?_
    refine lv_istore_n (lv' := [(1, .int (0 : Int32)), (0, .ref (bM 0))]) hx hb dX8_hiddenMany_5 rfl hl (by decide) rfl (fun ls hl => ?_)
    refine lv_iconst (v := (0 : Int32)) hx hb dX8_hiddenMany_6 (by decide) ?_
    refine lv_istore_n (lv' := [(2, .int (0 : Int32)), (1, .int (0 : Int32)), (0, .ref (bM 0))]) hx hb dX8_hiddenMany_7 rfl hl (by decide) rfl (fun ls hl => ?_)
    have hL6 : ∀ (x1_3 : Int32) (x2_4 : Int32), lp (f_X8_hiddenMany_L8 vM_1) (fun _ _ => none) FU x1_3 x2_4 = some (r, vM1) → ∀ (H : Heap) (locs : List Loc), va_P g.1 vwCl (cM g bM vM_1) H → va_D A (cM g bM vM_1) → va_S A s.heap H locs → ∀ ls : Array Slot, lv_has ls 3 [(0, .ref (bM 0)), (1, .int x1_3), (2, .int x2_4)] → W p l e (headSpec wsX8_hiddenMany rmX8_hiddenMany).room s m ([.ref (bM 0)] : List Value).toArray below meth c H locs 0 0 (MQ below (qI g A (cM g bM vM1) r) ([.ref (bM 0)] : List Value).toArray s 0 0 A) (F0 m 8 ls []) := by
      refine lp_ind (T := Int32 → Int32 → Option (Int32 × Vs)) (fun self5 => ∀ (x1_3 : Int32) (x2_4 : Int32), self5 x1_3 x2_4 = some (r, vM1) → ∀ (H : Heap) (locs : List Loc), va_P g.1 vwCl (cM g bM vM_1) H → va_D A (cM g bM vM_1) → va_S A s.heap H locs → ∀ ls : Array Slot, lv_has ls 3 [(0, .ref (bM 0)), (1, .int x1_3), (2, .int x2_4)] → W p l e (headSpec wsX8_hiddenMany rmX8_hiddenMany).room s m ([.ref (bM 0)] : List Value).toArray below meth c H locs 0 0 (MQ below (qI g A (cM g bM vM1) r) ([.ref (bM 0)] : List Value).toArray s 0 0 A) (F0 m 8 ls [])) ?_ ?_ FU
      · intro x1_3 x2_4 hf; cases hf
      · intro self5 ih7 x1_3 x2_4 hf H locs hP hD hS ls hl
        unfold f_X8_hiddenMany_L8 at hf
        refine lv_iload_n hx hb dX8_hiddenMany_8 rfl (lv_at hl 2 rfl) ?_
        refine lv_aload_n hx hb dX8_hiddenMany_9 rfl (lv_at hl 0 rfl) ?_
        obtain ⟨r8, hg9, hf⟩ := o1_at hf
        refine k_viW ⟨hx, hb, hml, hown, htu⟩ hK hP hD hS hA hG (c_X8_faults l g bM vM_1 r8 hg9) (cwV 0 htu (gU_V mw_6_44 hcX8_faults) rfl rfl rfl hdX8_faults ⟨Nat.le_of_ble_eq_true rfl, Nat.le_of_ble_eq_true rfl⟩) (q0 := 0) (ci := 8) (fs := fcM bM vM_1) (q := (RX8, TX8, 23)) rfl rfl rfl (As := []) (rest := [.int x2_4]) rfl rfl hl.1 (Nat.le_of_ble_eq_true rfl) dX8_hiddenMany_10 (k1 := 0) (n1 := 0) rfl rfl ⟨Nat.zero_le _, Nat.zero_le _⟩ (fun H locs hP hD hS => ?_)
        refine lv_icmp_ge (tgt := 38) hx hb dX8_hiddenMany_13 (by decide) (fun c10 => ?_) (fun c10 => ?_)
        · have hf := it_t hf c10
          refine lv_iload_n hx hb dX8_hiddenMany_38 rfl (lv_at hl 1 rfl) ?_
          obtain ⟨e11, e12⟩ := kp_2 hf
          rw [e12] at hP hD
          exact k_iret hx hb hr hlocks hK hP hD hS e11 dX8_hiddenMany_39
        · have hf := it_f hf c10
          refine lv_iload_n hx hb dX8_hiddenMany_16 rfl (lv_at hl 1 rfl) ?_
          refine lv_aload_n hx hb dX8_hiddenMany_17 rfl (lv_at hl 0 rfl) ?_
          refine lv_iload_n hx hb dX8_hiddenMany_18 rfl (lv_at hl 2 rfl) ?_
          obtain ⟨r13, hg14, hf⟩ := o1_at hf
          refine k_viW ⟨hx, hb, hml, hown, htu⟩ hK hP hD hS hA hG (c_X8_isHidden l g bM vM_1 x2_4 r13 hg14) (cwV 1 htu (gU_V mw_6_206 hcX8_isHidden) rfl rfl rfl hdX8_isHidden ⟨Nat.le_of_ble_eq_true rfl, Nat.le_of_ble_eq_true rfl⟩) (q0 := 0) (ci := 8) (fs := fcM bM vM_1) (q := (RX8, TX8, 23)) rfl rfl rfl (As := [.int x2_4]) (rest := [.int x1_3]) rfl rfl hl.1 (Nat.le_of_ble_eq_true rfl) dX8_hiddenMany_19 (k1 := 0) (n1 := 0) rfl rfl ⟨Nat.zero_le _, Nat.zero_le _⟩ (fun H locs hP hD hS => ?_)
          obtain ⟨k16, hk18, hf⟩ := jn_at hf
          have hJ17 : ∀ (t15 : Int32), k16 t15 = some (r, vM1) → ∀ (H : Heap) (locs : List Loc), va_P g.1 vwCl (cM g bM vM_1) H → va_D A (cM g bM vM_1) → va_S A s.heap H locs → ∀ ls : Array Slot, lv_has ls 3 [(0, .ref (bM 0)), (2, .int x2_4)] → W p l e (headSpec wsX8_hiddenMany rmX8_hiddenMany).room s m ([.ref (bM 0)] : List Value).toArray below meth c H locs 0 0 (MQ below (qI g A (cM g bM vM1) r) ([.ref (bM 0)] : List Value).toArray s 0 0 A) (F0 m 30 ls [.int t15, .int x1_3]) := by
            intro t15 hf H locs hP hD hS ls hl
            rw [hk18] at hf
            dsimp only at hf
            clear hk18
            refine lv_iadd hx hb dX8_hiddenMany_30 ?_
            refine lv_istore_n (lv' := [(1, .int (x1_3 + t15)), (0, .ref (bM 0)), (2, .int x2_4)]) hx hb dX8_hiddenMany_31 rfl hl (by decide) rfl (fun ls hl => ?_)
            refine lv_iinc (v := (x2_4 + (1 : Int32))) (lv' := [(2, .int (x2_4 + (1 : Int32))), (1, .int (x1_3 + t15)), (0, .ref (bM 0))]) hx hb dX8_hiddenMany_32 hl (k := 2) rfl rfl (by decide) rfl (fun ls hl => ?_)
            refine lv_goto (tgt := 8) hx hb dX8_hiddenMany_35 (by decide) ?_
            exact ih7 (x1_3 + t15) (x2_4 + (1 : Int32)) hf H locs hP hD hS _ (lv_sub hl [2, 1, 0] rfl)
          refine lv_if_eq (tgt := 29) hx hb dX8_hiddenMany_22 (by decide) (fun c19 => ?_) (fun c19 => ?_)
          · have hf := it_t hf c19
            refine lv_iconst (v := (0 : Int32)) hx hb dX8_hiddenMany_29 (by decide) ?_
            exact hJ17 (0 : Int32) hf H locs hP hD hS _ (lv_sub hl [0, 2] rfl)
          · have hf := it_f hf c19
            refine lv_iconst (v := (1 : Int32)) hx hb dX8_hiddenMany_25 (by decide) ?_
            refine lv_goto (tgt := 30) hx hb dX8_hiddenMany_26 (by decide) ?_
            exact hJ17 (1 : Int32) hf H locs hP hD hS _ (lv_sub hl [0, 2] rfl)
    exact hL6 (0 : Int32) (0 : Int32) hf H locs hP hD hS _ (lv_sub hl [2, 1, 0] rfl)
  rw [hH, hlo] at hW
  exact hW
def f_X8_hidden (vM : Vs) : Option (Int32 × Vs) :=
  bn (sF vM 0 (0 : Int32)) (fun (vM_1 : Vs) => o2 (f_X8_hiddenMany vM_1) (fun (r2 : Int32) (vM_3 : Vs) => some (r2, vM_3)))
abbrev wsX8_hidden : List Cond := .code yX8_hidden cX8_hidden 1 (some .int) :: UW
abbrev rmX8_hidden : Room := { frames := 7, cells := 0, slots := 0, locals := 157 }
set_option maxHeartbeats 4000000 in
set_option maxRecDepth 100000 in
theorem c_X8_hidden (l : Launch) (g : Gx) (bM : Nat → Nat) (vM : Vs) (r : Int32) (vM1 : Vs) (hf : f_X8_hidden vM = some (r, vM1)) : CtI l yX8_hidden wsX8_hidden rmX8_hidden g [.ref (bM 0)] (cM g bM vM) (cM g bM vM1) r 0 0 := by
  unfold CtI
  intro sz
  refine Met.ofW (cc := cX8_hidden) (maxL := 1) (ret := (some .int)) (by decide) rfl ?_
  intro p e s m args below meth c s₁ B hml hv
  obtain ⟨rfl, hsz, hP, hK, hD0, hG⟩ := hv
  have hx := B.exec
  have hb := B.bytes
  have hr := B.returns
  have hts := atoms_spec (ws := wsX8_hidden) B.pre
  have hown : s.vm.findClass RX8 = some m.cls := findClass_of_methodNamed B.named
  have hlocks := B.notSynchronized
  subst hsz
  have hD := hD0.self (sz := s.heap.size)
  generalize hAe : va_A (cM g bM vM) s.heap.size = A at hD hG ⊢
  have hA : ∀ q : Nat, s.heap.size ≤ q → A q := fun q h => by rw [← hAe]; exact Or.inr h
  clear hAe hD0
  have hS : va_S A s.heap s.heap [] := va_S.rf
  have hl := lv_entry ([.ref (bM 0)]) (n := 1) (Nat.le_of_ble_eq_true rfl)
  rw [lg_entry_eq]
  generalize (lg_sl ([.ref (bM 0)]) ++ List.replicate (1 - (lg_sl ([.ref (bM 0)])).length) Slot.unset).toArray = ls at hl ⊢
  have hl : lv_has ls 1 [(0, .ref (bM 0))] := hl
  have htu : ∀ w ∈ UW, w.before _ s = true := fun w h => hts w (List.mem_cons_of_mem _ h)
  have k_5_72 := htu _ mw_5_72
  unfold f_X8_hidden at hf
  obtain ⟨H, hH⟩ : ∃ z, z = s.heap := ⟨_, rfl⟩
  obtain ⟨locs, hlo⟩ : ∃ z : List Loc, z = [] := ⟨_, rfl⟩
  have hS : va_S A s.heap H locs := by rw [hH, hlo]; exact hS
  rw [← hH] at hP
  have hW : W p l e (headSpec wsX8_hidden rmX8_hidden).room s m ([.ref (bM 0)] : List Value).toArray below meth c H locs 0 0 (MQ below (qI g A (cM g bM vM1) r) ([.ref (bM 0)] : List Value).toArray s 0 0 A) (F0 m 0 ls []) := by
    refine lv_aload_n hx hb dX8_hidden_0 rfl (lv_at hl 0 rfl) ?_
    refine lv_iconst (v := (0 : Int32)) hx hb dX8_hidden_1 (by decide) ?_
    refine va_put (D := g.1) (ci := 8) (fs := fcM bM vM) (v := .int (0 : Int32)) (ty := .int) (C := RX8) (T := TX8) (N := 23) hx hb htu hinX8 tyX8 tyX8_ok nmX8 hown hK hP hD hS 0 rfl rfl 0 (by decide) k_5_72 (fun _ h9 => h9) rfl (by decide +kernel) rfl rfl (Nat.le_of_ble_eq_true rfl) dX8_hidden_2 (fun H locs hP hD hS => ?_)
    obtain ⟨vM_1, evM_1⟩ : ∃ z, z = sF vM 0 (0 : Int32) := ⟨_, rfl⟩
    have hf := bn_at hf evM_1
    have hP : va_P g.1 vwCl (cM g bM vM_1) H := by rw [evM_1]; exact hP
    have hD : va_D A (cM g bM vM_1) := by rw [evM_1]; exact hD
    refine lv_aload_n hx hb dX8_hidden_5 rfl (lv_at hl 0 rfl) ?_
    obtain ⟨r2, vM_3, hg4, hf⟩ := o2_at hf
    refine k_viW ⟨hx, hb, hml, hown, htu⟩ hK hP hD hS hA hG (c_X8_hiddenMany l g bM vM_1 r2 vM_3 hg4) (cwV 0 htu (gU_V mw_6_202 hcX8_hiddenMany) rfl rfl rfl hdX8_hiddenMany ⟨Nat.le_of_ble_eq_true rfl, Nat.le_of_ble_eq_true rfl⟩) (q0 := 0) (ci := 8) (fs := fcM bM vM_1) (q := (RX8, TX8, 23)) rfl rfl rfl (As := []) (rest := []) rfl rfl hl.1 (Nat.le_of_ble_eq_true rfl) dX8_hidden_6 (k1 := 0) (n1 := 0) rfl rfl ⟨Nat.zero_le _, Nat.zero_le _⟩ (fun H locs hP hD hS => ?_)
    obtain ⟨e5, e6⟩ := kp_2 hf
    rw [e6] at hP hD
    exact k_iret hx hb hr hlocks hK hP hD hS e5 dX8_hidden_9
  rw [hH, hlo] at hW
  exact hW
def f_X8_firstAlike_L2 (vM : Vs) (x1 : Int32) (self2 : Int32 → Option (Int32)) (x2_1 : Int32) : Option (Int32) :=
  o1 (f_X8_between vM x1 x2_1) (fun (r5 : Int32) => if r5 = (-1 : Int32) then some (x2_1) else self2 (x2_1 + (1 : Int32)))
def f_X8_firstAlike (vM : Vs) (x1 : Int32) : Option (Int32) :=
  lp (f_X8_firstAlike_L2 vM x1) (fun _ => none) FU (0 : Int32)
abbrev wsX8_firstAlike : List Cond := .code yX8_firstAlike cX8_firstAlike 3 (some .int) :: UW
abbrev rmX8_firstAlike : Room := { frames := 4, cells := 0, slots := 0, locals := 84 }
set_option maxHeartbeats 4000000 in
set_option maxRecDepth 100000 in
theorem c_X8_firstAlike (l : Launch) (g : Gx) (bM : Nat → Nat) (vM : Vs) (x1 : Int32) (r : Int32) (hf : f_X8_firstAlike vM x1 = some r) : CtI l yX8_firstAlike wsX8_firstAlike rmX8_firstAlike g [.ref (bM 0), .int x1] (cM g bM vM) (cM g bM vM) r 0 0 := by
  unfold CtI
  intro sz
  refine Met.ofW (cc := cX8_firstAlike) (maxL := 3) (ret := (some .int)) (by decide) rfl ?_
  intro p e s m args below meth c s₁ B hml hv
  obtain ⟨rfl, hsz, hP, hK, hD0, hG⟩ := hv
  have hx := B.exec
  have hb := B.bytes
  have hr := B.returns
  have hts := atoms_spec (ws := wsX8_firstAlike) B.pre
  have hown : s.vm.findClass RX8 = some m.cls := findClass_of_methodNamed B.named
  have hlocks := B.notSynchronized
  subst hsz
  have hD := hD0.self (sz := s.heap.size)
  generalize hAe : va_A (cM g bM vM) s.heap.size = A at hD hG ⊢
  have hA : ∀ q : Nat, s.heap.size ≤ q → A q := fun q h => by rw [← hAe]; exact Or.inr h
  clear hAe hD0
  have hS : va_S A s.heap s.heap [] := va_S.rf
  have hl := lv_entry ([.ref (bM 0), .int x1]) (n := 3) (Nat.le_of_ble_eq_true rfl)
  rw [lg_entry_eq]
  generalize (lg_sl ([.ref (bM 0), .int x1]) ++ List.replicate (3 - (lg_sl ([.ref (bM 0), .int x1])).length) Slot.unset).toArray = ls at hl ⊢
  have hl : lv_has ls 3 [(0, .ref (bM 0)), (1, .int x1)] := hl
  have htu : ∀ w ∈ UW, w.before _ s = true := fun w h => hts w (List.mem_cons_of_mem _ h)
  unfold f_X8_firstAlike at hf
  obtain ⟨H, hH⟩ : ∃ z, z = s.heap := ⟨_, rfl⟩
  obtain ⟨locs, hlo⟩ : ∃ z : List Loc, z = [] := ⟨_, rfl⟩
  have hS : va_S A s.heap H locs := by rw [hH, hlo]; exact hS
  rw [← hH] at hP
  have hW : W p l e (headSpec wsX8_firstAlike rmX8_firstAlike).room s m ([.ref (bM 0), .int x1] : List Value).toArray below meth c H locs 0 0 (MQ below (qI g A (cM g bM vM) r) ([.ref (bM 0), .int x1] : List Value).toArray s 0 0 A) (F0 m 0 ls []) := by
    refine lv_iconst (v := (0 : Int32)) hx hb dX8_firstAlike_0 (by decide) ?_
    refine lv_istore_n (lv' := [(2, .int (0 : Int32)), (0, .ref (bM 0)), (1, .int x1)]) hx hb dX8_firstAlike_1 rfl hl (by decide) rfl (fun ls hl => ?_)
    have hL3 : ∀ (x2_1 : Int32), lp (f_X8_firstAlike_L2 vM x1) (fun _ => none) FU x2_1 = some r → ∀ (H : Heap) (locs : List Loc), va_P g.1 vwCl (cM g bM vM) H → va_D A (cM g bM vM) → va_S A s.heap H locs → ∀ ls : Array Slot, lv_has ls 3 [(0, .ref (bM 0)), (1, .int x1), (2, .int x2_1)] → W p l e (headSpec wsX8_firstAlike rmX8_firstAlike).room s m ([.ref (bM 0), .int x1] : List Value).toArray below meth c H locs 0 0 (MQ below (qI g A (cM g bM vM) r) ([.ref (bM 0), .int x1] : List Value).toArray s 0 0 A) (F0 m 2 ls []) := by
      refine lp_ind (T := Int32 → Option (Int32)) (fun self2 => ∀ (x2_1 : Int32), self2 x2_1 = some r → ∀ (H : Heap) (locs : List Loc), va_P g.1 vwCl (cM g bM vM) H → va_D A (cM g bM vM) → va_S A s.heap H locs → ∀ ls : Array Slot, lv_has ls 3 [(0, .ref (bM 0)), (1, .int x1), (2, .int x2_1)] → W p l e (headSpec wsX8_firstAlike rmX8_firstAlike).room s m ([.ref (bM 0), .int x1] : List Value).toArray below meth c H locs 0 0 (MQ below (qI g A (cM g bM vM) r) ([.ref (bM 0), .int x1] : List Value).toArray s 0 0 A) (F0 m 2 ls [])) ?_ ?_ FU
      · intro x2_1 hf; cases hf
      · intro self2 ih4 x2_1 hf H locs hP hD hS ls hl
        unfold f_X8_firstAlike_L2 at hf
        refine lv_aload_n hx hb dX8_firstAlike_2 rfl (lv_at hl 0 rfl) ?_
        refine lv_iload_n hx hb dX8_firstAlike_3 rfl (lv_at hl 1 rfl) ?_
        refine lv_iload_n hx hb dX8_firstAlike_4 rfl (lv_at hl 2 rfl) ?_
        obtain ⟨r5, hg6, hf⟩ := o1_at hf
        refine k_viW ⟨hx, hb, hml, hown, htu⟩ hK hP hD hS hA hG (c_X8_between l g bM vM x1 x2_1 r5 hg6) (cwV 2 htu (gU_V mw_6_190 hcX8_between) rfl rfl rfl hdX8_between ⟨Nat.le_of_ble_eq_true rfl, Nat.le_of_ble_eq_true rfl⟩) (q0 := 0) (ci := 8) (fs := fcM bM vM) (q := (RX8, TX8, 23)) rfl rfl rfl (As := [.int x1, .int x2_1]) (rest := []) rfl rfl hl.1 (Nat.le_of_ble_eq_true rfl) dX8_firstAlike_5 (k1 := 0) (n1 := 0) rfl rfl ⟨Nat.zero_le _, Nat.zero_le _⟩ (fun H locs hP hD hS => ?_)
        refine lv_iconst (v := (-1 : Int32)) hx hb dX8_firstAlike_8 (by decide) ?_
        refine lv_icmp_eq (tgt := 18) hx hb dX8_firstAlike_9 (by decide) (fun c7 => ?_) (fun c7 => ?_)
        · have hf := it_t hf c7
          refine lv_iload_n hx hb dX8_firstAlike_18 rfl (lv_at hl 2 rfl) ?_
          have e8 := Option.some.inj hf
          exact k_iret hx hb hr hlocks hK hP hD hS e8 dX8_firstAlike_19
        · have hf := it_f hf c7
          refine lv_iinc (v := (x2_1 + (1 : Int32))) (lv' := [(2, .int (x2_1 + (1 : Int32))), (0, .ref (bM 0)), (1, .int x1)]) hx hb dX8_firstAlike_12 hl (k := 2) rfl rfl (by decide) rfl (fun ls hl => ?_)
          refine lv_goto (tgt := 2) hx hb dX8_firstAlike_15 (by decide) ?_
          exact ih4 (x2_1 + (1 : Int32)) hf H locs hP hD hS _ (lv_sub hl [1, 2, 0] rfl)
    exact hL3 (0 : Int32) hf H locs hP hD hS _ (lv_sub hl [1, 2, 0] rfl)
  rw [hH, hlo] at hW
  exact hW
def f_X8_alike (vM : Vs) (x1 : Int32) : Option (Int32 × Vs) :=
  bn (sF vM 0 (0 : Int32)) (fun (vM_1 : Vs) => o2 (f_X8_isFault vM_1 x1) (fun (r2 : Int32) (vM_3 : Vs) => if r2 = 0 then some ((0 : Int32), vM_3) else o1 (f_X8_lays vM_3) (fun (vM_6 : Vs) => o1 (f_X8_firstAlike vM_6 x1) (fun (r8 : Int32) => some (r8, vM_6)))))
abbrev wsX8_alike : List Cond := .code yX8_alike cX8_alike 2 (some .int) :: UW
abbrev rmX8_alike : Room := { frames := 6, cells := 0, slots := 0, locals := 135 }
set_option maxHeartbeats 4000000 in
set_option maxRecDepth 100000 in
theorem c_X8_alike (l : Launch) (g : Gx) (bM : Nat → Nat) (vM : Vs) (x1 : Int32) (r : Int32) (vM1 : Vs) (hf : f_X8_alike vM x1 = some (r, vM1)) : CtI l yX8_alike wsX8_alike rmX8_alike g [.ref (bM 0), .int x1] (cM g bM vM) (cM g bM vM1) r 0 0 := by
  unfold CtI
  intro sz
  refine Met.ofW (cc := cX8_alike) (maxL := 2) (ret := (some .int)) (by decide) rfl ?_
  intro p e s m args below meth c s₁ B hml hv
  obtain ⟨rfl, hsz, hP, hK, hD0, hG⟩ := hv
  have hx := B.exec
  have hb := B.bytes
  have hr := B.returns
  have hts := atoms_spec (ws := wsX8_alike) B.pre
  have hown : s.vm.findClass RX8 = some m.cls := findClass_of_methodNamed B.named
  have hlocks := B.notSynchronized
  subst hsz
  have hD := hD0.self (sz := s.heap.size)
  generalize hAe : va_A (cM g bM vM) s.heap.size = A at hD hG ⊢
  have hA : ∀ q : Nat, s.heap.size ≤ q → A q := fun q h => by rw [← hAe]; exact Or.inr h
  clear hAe hD0
  have hS : va_S A s.heap s.heap [] := va_S.rf
  have hl := lv_entry ([.ref (bM 0), .int x1]) (n := 2) (Nat.le_of_ble_eq_true rfl)
  rw [lg_entry_eq]
  generalize (lg_sl ([.ref (bM 0), .int x1]) ++ List.replicate (2 - (lg_sl ([.ref (bM 0), .int x1])).length) Slot.unset).toArray = ls at hl ⊢
  have hl : lv_has ls 2 [(0, .ref (bM 0)), (1, .int x1)] := hl
  have htu : ∀ w ∈ UW, w.before _ s = true := fun w h => hts w (List.mem_cons_of_mem _ h)
  have k_5_72 := htu _ mw_5_72
  unfold f_X8_alike at hf
  obtain ⟨H, hH⟩ : ∃ z, z = s.heap := ⟨_, rfl⟩
  obtain ⟨locs, hlo⟩ : ∃ z : List Loc, z = [] := ⟨_, rfl⟩
  have hS : va_S A s.heap H locs := by rw [hH, hlo]; exact hS
  rw [← hH] at hP
  have hW : W p l e (headSpec wsX8_alike rmX8_alike).room s m ([.ref (bM 0), .int x1] : List Value).toArray below meth c H locs 0 0 (MQ below (qI g A (cM g bM vM1) r) ([.ref (bM 0), .int x1] : List Value).toArray s 0 0 A) (F0 m 0 ls []) := by
    refine lv_aload_n hx hb dX8_alike_0 rfl (lv_at hl 0 rfl) ?_
    refine lv_iconst (v := (0 : Int32)) hx hb dX8_alike_1 (by decide) ?_
    refine va_put (D := g.1) (ci := 8) (fs := fcM bM vM) (v := .int (0 : Int32)) (ty := .int) (C := RX8) (T := TX8) (N := 23) hx hb htu hinX8 tyX8 tyX8_ok nmX8 hown hK hP hD hS 0 rfl rfl 0 (by decide) k_5_72 (fun _ h9 => h9) rfl (by decide +kernel) rfl rfl (Nat.le_of_ble_eq_true rfl) dX8_alike_2 (fun H locs hP hD hS => ?_)
    obtain ⟨vM_1, evM_1⟩ : ∃ z, z = sF vM 0 (0 : Int32) := ⟨_, rfl⟩
    have hf := bn_at hf evM_1
    have hP : va_P g.1 vwCl (cM g bM vM_1) H := by rw [evM_1]; exact hP
    have hD : va_D A (cM g bM vM_1) := by rw [evM_1]; exact hD
    refine lv_aload_n hx hb dX8_alike_5 rfl (lv_at hl 0 rfl) ?_
    refine lv_iload_n hx hb dX8_alike_6 rfl (lv_at hl 1 rfl) ?_
    obtain ⟨r2, vM_3, hg4, hf⟩ := o2_at hf
    refine k_viW ⟨hx, hb, hml, hown, htu⟩ hK hP hD hS hA hG (c_X8_isFault l g bM vM_1 x1 r2 vM_3 hg4) (cwV 1 htu (gU_V mw_6_150 hcX8_isFault) rfl rfl rfl hdX8_isFault ⟨Nat.le_of_ble_eq_true rfl, Nat.le_of_ble_eq_true rfl⟩) (q0 := 0) (ci := 8) (fs := fcM bM vM_1) (q := (RX8, TX8, 23)) rfl rfl rfl (As := [.int x1]) (rest := []) rfl rfl hl.1 (Nat.le_of_ble_eq_true rfl) dX8_alike_7 (k1 := 0) (n1 := 0) rfl rfl ⟨Nat.zero_le _, Nat.zero_le _⟩ (fun H locs hP hD hS => ?_)
    refine lv_if_ne (tgt := 15) hx hb dX8_alike_10 (by decide) (fun c5 => ?_) (fun c5 => ?_)
    · have hf := it_f hf c5
      refine lv_aload_n hx hb dX8_alike_15 rfl (lv_at hl 0 rfl) ?_
      obtain ⟨vM_6, hg7, hf⟩ := o1_at hf
      refine k_vvW ⟨hx, hb, hml, hown, htu⟩ hK hP hD hS hA hG (c_X8_lays l g bM vM_3 vM_6 hg7) (cwV 0 htu (gU_V mw_6_174 hcX8_lays) rfl rfl rfl hdX8_lays ⟨Nat.le_of_ble_eq_true rfl, Nat.le_of_ble_eq_true rfl⟩) (q0 := 0) (ci := 8) (fs := fcM bM vM_3) (q := (RX8, TX8, 23)) rfl rfl rfl (As := []) (rest := []) rfl rfl hl.1 (Nat.le_of_ble_eq_true rfl) dX8_alike_16 (k1 := 0) (n1 := 0) rfl rfl ⟨Nat.zero_le _, Nat.zero_le _⟩ (fun H locs hP hD hS => ?_)
      refine lv_aload_n hx hb dX8_alike_19 rfl (lv_at hl 0 rfl) ?_
      refine lv_iload_n hx hb dX8_alike_20 rfl (lv_at hl 1 rfl) ?_
      obtain ⟨r8, hg9, hf⟩ := o1_at hf
      refine k_viW ⟨hx, hb, hml, hown, htu⟩ hK hP hD hS hA hG (c_X8_firstAlike l g bM vM_6 x1 r8 hg9) (cwV 1 htu (gU_V mw_6_214 hcX8_firstAlike) rfl rfl rfl hdX8_firstAlike ⟨Nat.le_of_ble_eq_true rfl, Nat.le_of_ble_eq_true rfl⟩) (q0 := 0) (ci := 8) (fs := fcM bM vM_6) (q := (RX8, TX8, 23)) rfl rfl rfl (As := [.int x1]) (rest := []) rfl rfl hl.1 (Nat.le_of_ble_eq_true rfl) dX8_alike_21 (k1 := 0) (n1 := 0) rfl rfl ⟨Nat.zero_le _, Nat.zero_le _⟩ (fun H locs hP hD hS => ?_)
      obtain ⟨e10, e11⟩ := kp_2 hf
      rw [e11] at hP hD
      exact k_iret hx hb hr hlocks hK hP hD hS e10 dX8_alike_24
    · have hf := it_t hf c5
      refine lv_iconst (v := (0 : Int32)) hx hb dX8_alike_13 (by decide) ?_
      obtain ⟨e12, e13⟩ := kp_2 hf
      rw [e13] at hP hD
      exact k_iret hx hb hr hlocks hK hP hD hS e12 dX8_alike_14
  rw [hH, hlo] at hW
  exact hW
def f_X8_classes_L13 (vM_2 : Vs) (self6 : Int32 → Int32 → Option (Int32 × Vs)) (x1_4 : Int32) (x2_5 : Int32) : Option (Int32 × Vs) :=
  o1 (f_X8_faults vM_2) (fun (r9 : Int32) => if r9 ≤ x2_5 then some (x1_4, vM_2) else o1 (f_X8_firstAlike vM_2 x2_5) (fun (r14 : Int32) => jn (fun (t16 : Int32) => self6 (x1_4 + t16) (x2_5 + (1 : Int32))) (fun k17 => if r14 = x2_5 then k17 (1 : Int32) else k17 (0 : Int32))))
def f_X8_classes (vM : Vs) : Option (Int32 × Vs) :=
  bn (sF vM 0 (0 : Int32)) (fun (vM_1 : Vs) => o1 (f_X8_lays vM_1) (fun (vM_2 : Vs) => lp (f_X8_classes_L13 vM_2) (fun _ _ => none) FU (0 : Int32) (0 : Int32)))
abbrev wsX8_classes : List Cond := .code yX8_classes cX8_classes 3 (some .int) :: UW
abbrev rmX8_classes : Room := { frames := 6, cells := 0, slots := 0, locals := 135 }
set_option maxHeartbeats 4000000 in
set_option maxRecDepth 100000 in
theorem c_X8_classes (l : Launch) (g : Gx) (bM : Nat → Nat) (vM : Vs) (r : Int32) (vM1 : Vs) (hf : f_X8_classes vM = some (r, vM1)) : CtI l yX8_classes wsX8_classes rmX8_classes g [.ref (bM 0)] (cM g bM vM) (cM g bM vM1) r 0 0 := by
  unfold CtI
  intro sz
  refine Met.ofW (cc := cX8_classes) (maxL := 3) (ret := (some .int)) (by decide) rfl ?_
  intro p e s m args below meth c s₁ B hml hv
  obtain ⟨rfl, hsz, hP, hK, hD0, hG⟩ := hv
  have hx := B.exec
  have hb := B.bytes
  have hr := B.returns
  have hts := atoms_spec (ws := wsX8_classes) B.pre
  have hown : s.vm.findClass RX8 = some m.cls := findClass_of_methodNamed B.named
  have hlocks := B.notSynchronized
  subst hsz
  have hD := hD0.self (sz := s.heap.size)
  generalize hAe : va_A (cM g bM vM) s.heap.size = A at hD hG ⊢
  have hA : ∀ q : Nat, s.heap.size ≤ q → A q := fun q h => by rw [← hAe]; exact Or.inr h
  clear hAe hD0
  have hS : va_S A s.heap s.heap [] := va_S.rf
  have hl := lv_entry ([.ref (bM 0)]) (n := 3) (Nat.le_of_ble_eq_true rfl)
  rw [lg_entry_eq]
  generalize (lg_sl ([.ref (bM 0)]) ++ List.replicate (3 - (lg_sl ([.ref (bM 0)])).length) Slot.unset).toArray = ls at hl ⊢
  have hl : lv_has ls 3 [(0, .ref (bM 0))] := hl
  have htu : ∀ w ∈ UW, w.before _ s = true := fun w h => hts w (List.mem_cons_of_mem _ h)
  have k_5_72 := htu _ mw_5_72
  unfold f_X8_classes at hf
  obtain ⟨H, hH⟩ : ∃ z, z = s.heap := ⟨_, rfl⟩
  obtain ⟨locs, hlo⟩ : ∃ z : List Loc, z = [] := ⟨_, rfl⟩
  have hS : va_S A s.heap H locs := by rw [hH, hlo]; exact hS
  rw [← hH] at hP
  have hW : W p l e (headSpec wsX8_classes rmX8_classes).room s m ([.ref (bM 0)] : List Value).toArray below meth c H locs 0 0 (MQ below (qI g A (cM g bM vM1) r) ([.ref (bM 0)] : List Value).toArray s 0 0 A) (F0 m 0 ls []) := by
    refine lv_aload_n hx hb dX8_classes_0 rfl (lv_at hl 0 rfl) ?_
    refine lv_iconst (v := (0 : Int32)) hx hb dX8_classes_1 (by decide) ?_
    refine va_put (D := g.1) (ci := 8) (fs := fcM bM vM) (v := .int (0 : Int32)) (ty := .int) (C := RX8) (T := TX8) (N := 23) hx hb htu hinX8 tyX8 tyX8_ok nmX8 hown hK hP hD hS 0 rfl rfl 0 (by decide) k_5_72 (fun _ h9 => h9) rfl (by decide +kernel) rfl rfl (Nat.le_of_ble_eq_true rfl) dX8_classes_2 (fun H locs hP hD hS => ?_)
    obtain ⟨vM_1, evM_1⟩ : ∃ z, z = sF vM 0 (0 : Int32) := ⟨_, rfl⟩
    have hf := bn_at hf evM_1
    have hP : va_P g.1 vwCl (cM g bM vM_1) H := by rw [evM_1]; exact hP
    have hD : va_D A (cM g bM vM_1) := by rw [evM_1]; exact hD
    refine lv_aload_n hx hb dX8_classes_5 rfl (lv_at hl 0 rfl) ?_
    obtain ⟨vM_2, hg3, hf⟩ := o1_at hf
    refine k_vvW ⟨hx, hb, hml, hown, htu⟩ hK hP hD hS hA hG (c_X8_lays l g bM vM_1 vM_2 hg3) (cwV 0 htu (gU_V mw_6_174 hcX8_lays) rfl rfl rfl hdX8_lays ⟨Nat.le_of_ble_eq_true rfl, Nat.le_of_ble_eq_true rfl⟩) (q0 := 0) (ci := 8) (fs := fcM bM vM_1) (q := (RX8, TX8, 23)) rfl rfl rfl (As := []) (rest := []) rfl rfl hl.1 (Nat.le_of_ble_eq_true rfl) dX8_classes_6 (k1 := 0) (n1 := 0) rfl rfl ⟨Nat.zero_le _, Nat.zero_le _⟩ (fun H locs hP hD hS => ?_)
    refine lv_iconst (v := (0 : Int32)) hx hb dX8_classes_9 (by decide) ?_
    refine lv_istore_n (lv' := [(1, .int (0 : Int32)), (0, .ref (bM 0))]) hx hb dX8_classes_10 rfl hl (by decide) rfl (fun ls hl => ?_)
    refine lv_iconst (v := (0 : Int32)) hx hb dX8_classes_11 (by decide) ?_
    refine lv_istore_n (lv' := [(2, .int (0 : Int32)), (1, .int (0 : Int32)), (0, .ref (bM 0))]) hx hb dX8_classes_12 rfl hl (by decide) rfl (fun ls hl => ?_)
    have hL7 : ∀ (x1_4 : Int32) (x2_5 : Int32), lp (f_X8_classes_L13 vM_2) (fun _ _ => none) FU x1_4 x2_5 = some (r, vM1) → ∀ (H : Heap) (locs : List Loc), va_P g.1 vwCl (cM g bM vM_2) H → va_D A (cM g bM vM_2) → va_S A s.heap H locs → ∀ ls : Array Slot, lv_has ls 3 [(0, .ref (bM 0)), (1, .int x1_4), (2, .int x2_5)] → W p l e (headSpec wsX8_classes rmX8_classes).room s m ([.ref (bM 0)] : List Value).toArray below meth c H locs 0 0 (MQ below (qI g A (cM g bM vM1) r) ([.ref (bM 0)] : List Value).toArray s 0 0 A) (F0 m 13 ls []) := by
      refine lp_ind (T := Int32 → Int32 → Option (Int32 × Vs)) (fun self6 => ∀ (x1_4 : Int32) (x2_5 : Int32), self6 x1_4 x2_5 = some (r, vM1) → ∀ (H : Heap) (locs : List Loc), va_P g.1 vwCl (cM g bM vM_2) H → va_D A (cM g bM vM_2) → va_S A s.heap H locs → ∀ ls : Array Slot, lv_has ls 3 [(0, .ref (bM 0)), (1, .int x1_4), (2, .int x2_5)] → W p l e (headSpec wsX8_classes rmX8_classes).room s m ([.ref (bM 0)] : List Value).toArray below meth c H locs 0 0 (MQ below (qI g A (cM g bM vM1) r) ([.ref (bM 0)] : List Value).toArray s 0 0 A) (F0 m 13 ls [])) ?_ ?_ FU
      · intro x1_4 x2_5 hf; cases hf
      · intro self6 ih8 x1_4 x2_5 hf H locs hP hD hS ls hl
        unfold f_X8_classes_L13 at hf
        refine lv_iload_n hx hb dX8_classes_13 rfl (lv_at hl 2 rfl) ?_
        refine lv_aload_n hx hb dX8_classes_14 rfl (lv_at hl 0 rfl) ?_
        obtain ⟨r9, hg10, hf⟩ := o1_at hf
        refine k_viW ⟨hx, hb, hml, hown, htu⟩ hK hP hD hS hA hG (c_X8_faults l g bM vM_2 r9 hg10) (cwV 0 htu (gU_V mw_6_44 hcX8_faults) rfl rfl rfl hdX8_faults ⟨Nat.le_of_ble_eq_true rfl, Nat.le_of_ble_eq_true rfl⟩) (q0 := 0) (ci := 8) (fs := fcM bM vM_2) (q := (RX8, TX8, 23)) rfl rfl rfl (As := []) (rest := [.int x2_5]) rfl rfl hl.1 (Nat.le_of_ble_eq_true rfl) dX8_classes_15 (k1 := 0) (n1 := 0) rfl rfl ⟨Nat.zero_le _, Nat.zero_le _⟩ (fun H locs hP hD hS => ?_)
        refine lv_icmp_ge (tgt := 44) hx hb dX8_classes_18 (by decide) (fun c11 => ?_) (fun c11 => ?_)
        · have hf := it_t hf c11
          refine lv_iload_n hx hb dX8_classes_44 rfl (lv_at hl 1 rfl) ?_
          obtain ⟨e12, e13⟩ := kp_2 hf
          rw [e13] at hP hD
          exact k_iret hx hb hr hlocks hK hP hD hS e12 dX8_classes_45
        · have hf := it_f hf c11
          refine lv_iload_n hx hb dX8_classes_21 rfl (lv_at hl 1 rfl) ?_
          refine lv_aload_n hx hb dX8_classes_22 rfl (lv_at hl 0 rfl) ?_
          refine lv_iload_n hx hb dX8_classes_23 rfl (lv_at hl 2 rfl) ?_
          obtain ⟨r14, hg15, hf⟩ := o1_at hf
          refine k_viW ⟨hx, hb, hml, hown, htu⟩ hK hP hD hS hA hG (c_X8_firstAlike l g bM vM_2 x2_5 r14 hg15) (cwV 1 htu (gU_V mw_6_214 hcX8_firstAlike) rfl rfl rfl hdX8_firstAlike ⟨Nat.le_of_ble_eq_true rfl, Nat.le_of_ble_eq_true rfl⟩) (q0 := 0) (ci := 8) (fs := fcM bM vM_2) (q := (RX8, TX8, 23)) rfl rfl rfl (As := [.int x2_5]) (rest := [.int x1_4]) rfl rfl hl.1 (Nat.le_of_ble_eq_true rfl) dX8_classes_24 (k1 := 0) (n1 := 0) rfl rfl ⟨Nat.zero_le _, Nat.zero_le _⟩ (fun H locs hP hD hS => ?_)
          refine lv_iload_n hx hb dX8_classes_27 rfl (lv_at hl 2 rfl) ?_
          obtain ⟨k17, hk19, hf⟩ := jn_at hf
          have hJ18 : ∀ (t16 : Int32), k17 t16 = some (r, vM1) → ∀ (H : Heap) (locs : List Loc), va_P g.1 vwCl (cM g bM vM_2) H → va_D A (cM g bM vM_2) → va_S A s.heap H locs → ∀ ls : Array Slot, lv_has ls 3 [(0, .ref (bM 0)), (2, .int x2_5)] → W p l e (headSpec wsX8_classes rmX8_classes).room s m ([.ref (bM 0)] : List Value).toArray below meth c H locs 0 0 (MQ below (qI g A (cM g bM vM1) r) ([.ref (bM 0)] : List Value).toArray s 0 0 A) (F0 m 36 ls [.int t16, .int x1_4]) := by
            intro t16 hf H locs hP hD hS ls hl
            rw [hk19] at hf
            dsimp only at hf
            clear hk19
            refine lv_iadd hx hb dX8_classes_36 ?_
            refine lv_istore_n (lv' := [(1, .int (x1_4 + t16)), (0, .ref (bM 0)), (2, .int x2_5)]) hx hb dX8_classes_37 rfl hl (by decide) rfl (fun ls hl => ?_)
            refine lv_iinc (v := (x2_5 + (1 : Int32))) (lv' := [(2, .int (x2_5 + (1 : Int32))), (1, .int (x1_4 + t16)), (0, .ref (bM 0))]) hx hb dX8_classes_38 hl (k := 2) rfl rfl (by decide) rfl (fun ls hl => ?_)
            refine lv_goto (tgt := 13) hx hb dX8_classes_41 (by decide) ?_
            exact ih8 (x1_4 + t16) (x2_5 + (1 : Int32)) hf H locs hP hD hS _ (lv_sub hl [2, 1, 0] rfl)
          refine lv_icmp_ne (tgt := 35) hx hb dX8_classes_28 (by decide) (fun c20 => ?_) (fun c20 => ?_)
          · have hf := it_f hf c20
            refine lv_iconst (v := (0 : Int32)) hx hb dX8_classes_35 (by decide) ?_
            exact hJ18 (0 : Int32) hf H locs hP hD hS _ (lv_sub hl [0, 2] rfl)
          · have hf := it_t hf c20
            refine lv_iconst (v := (1 : Int32)) hx hb dX8_classes_31 (by decide) ?_
            refine lv_goto (tgt := 36) hx hb dX8_classes_32 (by decide) ?_
            exact hJ18 (1 : Int32) hf H locs hP hD hS _ (lv_sub hl [0, 2] rfl)
    exact hL7 (0 : Int32) (0 : Int32) hf H locs hP hD hS _ (lv_sub hl [2, 1, 0] rfl)
  rw [hH, hlo] at hW
  exact hW
def f_X8_bitsOf_L4 (self3 : Int32 → Int32 → Option (Int32)) (x1_1 : Int32) (x2_2 : Int32) : Option (Int32) :=
  if x2_2 = 0 then some (x1_1) else self3 (x1_1 + (1 : Int32)) (x2_2 &&& (x2_2 - (1 : Int32)))
def f_X8_bitsOf (x0 : Int32) : Option (Int32) :=
  lp f_X8_bitsOf_L4 (fun _ _ => none) FU (0 : Int32) x0
abbrev wsX8_bitsOf : List Cond := .code yX8_bitsOf cX8_bitsOf 3 (some .int) :: UW
abbrev rmX8_bitsOf : Room := { frames := 0, cells := 0, slots := 0, locals := 0 }
set_option maxHeartbeats 4000000 in
set_option maxRecDepth 100000 in
theorem c_X8_bitsOf (l : Launch) (g : Gx) (x0 : Int32) (r : Int32) (hf : f_X8_bitsOf x0 = some r) : CtI l yX8_bitsOf wsX8_bitsOf rmX8_bitsOf g [.int x0] ([]) ([]) r 0 0 := by
  unfold CtI
  intro sz
  refine Met.ofW (cc := cX8_bitsOf) (maxL := 3) (ret := (some .int)) (by decide) rfl ?_
  intro p e s m args below meth c s₁ B hml hv
  obtain ⟨rfl, hsz, hP, hK, hD0, hG⟩ := hv
  have hx := B.exec
  have hb := B.bytes
  have hr := B.returns
  have hts := atoms_spec (ws := wsX8_bitsOf) B.pre
  have hown : s.vm.findClass RX8 = some m.cls := findClass_of_methodNamed B.named
  have hlocks := B.notSynchronized
  subst hsz
  have hD := hD0.self (sz := s.heap.size)
  generalize hAe : va_A ([]) s.heap.size = A at hD hG ⊢
  have hA : ∀ q : Nat, s.heap.size ≤ q → A q := fun q h => by rw [← hAe]; exact Or.inr h
  clear hAe hD0
  have hS : va_S A s.heap s.heap [] := va_S.rf
  have hl := lv_entry ([.int x0]) (n := 3) (Nat.le_of_ble_eq_true rfl)
  rw [lg_entry_eq]
  generalize (lg_sl ([.int x0]) ++ List.replicate (3 - (lg_sl ([.int x0])).length) Slot.unset).toArray = ls at hl ⊢
  have hl : lv_has ls 3 [(0, .int x0)] := hl
  have htu : ∀ w ∈ UW, w.before _ s = true := fun w h => hts w (List.mem_cons_of_mem _ h)
  unfold f_X8_bitsOf at hf
  obtain ⟨H, hH⟩ : ∃ z, z = s.heap := ⟨_, rfl⟩
  obtain ⟨locs, hlo⟩ : ∃ z : List Loc, z = [] := ⟨_, rfl⟩
  have hS : va_S A s.heap H locs := by rw [hH, hlo]; exact hS
  rw [← hH] at hP
  have hW : W p l e (headSpec wsX8_bitsOf rmX8_bitsOf).room s m ([.int x0] : List Value).toArray below meth c H locs 0 0 (MQ below (qI g A ([]) r) ([.int x0] : List Value).toArray s 0 0 A) (F0 m 0 ls []) := by
    refine lv_iconst (v := (0 : Int32)) hx hb dX8_bitsOf_0 (by decide) ?_
    refine lv_istore_n (lv' := [(1, .int (0 : Int32)), (0, .int x0)]) hx hb dX8_bitsOf_1 rfl hl (by decide) rfl (fun ls hl => ?_)
    refine lv_iload_n hx hb dX8_bitsOf_2 rfl (lv_at hl 1 rfl) ?_
    refine lv_istore_n (lv' := [(2, .int x0), (1, .int (0 : Int32)), (0, .int x0)]) hx hb dX8_bitsOf_3 rfl hl (by decide) rfl (fun ls hl => ?_)
    have hL4 : ∀ (x1_1 : Int32) (x2_2 : Int32), lp f_X8_bitsOf_L4 (fun _ _ => none) FU x1_1 x2_2 = some r → ∀ (H : Heap) (locs : List Loc), va_P g.1 vwCl ([]) H → va_D A ([]) → va_S A s.heap H locs → ∀ ls : Array Slot, lv_has ls 3 [(1, .int x1_1), (2, .int x2_2)] → W p l e (headSpec wsX8_bitsOf rmX8_bitsOf).room s m ([.int x0] : List Value).toArray below meth c H locs 0 0 (MQ below (qI g A ([]) r) ([.int x0] : List Value).toArray s 0 0 A) (F0 m 4 ls []) := by
      refine lp_ind (T := Int32 → Int32 → Option (Int32)) (fun self3 => ∀ (x1_1 : Int32) (x2_2 : Int32), self3 x1_1 x2_2 = some r → ∀ (H : Heap) (locs : List Loc), va_P g.1 vwCl ([]) H → va_D A ([]) → va_S A s.heap H locs → ∀ ls : Array Slot, lv_has ls 3 [(1, .int x1_1), (2, .int x2_2)] → W p l e (headSpec wsX8_bitsOf rmX8_bitsOf).room s m ([.int x0] : List Value).toArray below meth c H locs 0 0 (MQ below (qI g A ([]) r) ([.int x0] : List Value).toArray s 0 0 A) (F0 m 4 ls [])) ?_ ?_ FU
      · intro x1_1 x2_2 hf; cases hf
      · intro self3 ih5 x1_1 x2_2 hf H locs hP hD hS ls hl
        unfold f_X8_bitsOf_L4 at hf
        refine lv_iload_n hx hb dX8_bitsOf_4 rfl (lv_at hl 1 rfl) ?_
        refine lv_if_eq (tgt := 20) hx hb dX8_bitsOf_5 (by decide) (fun c6 => ?_) (fun c6 => ?_)
        · have hf := it_t hf c6
          refine lv_iload_n hx hb dX8_bitsOf_20 rfl (lv_at hl 0 rfl) ?_
          have e7 := Option.some.inj hf
          exact k_iret hx hb hr hlocks hK hP hD hS e7 dX8_bitsOf_21
        · have hf := it_f hf c6
          refine lv_iinc (v := (x1_1 + (1 : Int32))) (lv' := [(1, .int (x1_1 + (1 : Int32))), (2, .int x2_2)]) hx hb dX8_bitsOf_8 hl (k := 0) rfl rfl (by decide) rfl (fun ls hl => ?_)
          refine lv_iload_n hx hb dX8_bitsOf_11 rfl (lv_at hl 1 rfl) ?_
          refine lv_iload_n hx hb dX8_bitsOf_12 rfl (lv_at hl 1 rfl) ?_
          refine lv_iconst (v := (1 : Int32)) hx hb dX8_bitsOf_13 (by decide) ?_
          refine lv_isub hx hb dX8_bitsOf_14 ?_
          refine lv_iand hx hb dX8_bitsOf_15 ?_
          refine lv_istore_n (lv' := [(2, .int (x2_2 &&& (x2_2 - (1 : Int32)))), (1, .int (x1_1 + (1 : Int32)))]) hx hb dX8_bitsOf_16 rfl hl (by decide) rfl (fun ls hl => ?_)
          refine lv_goto (tgt := 4) hx hb dX8_bitsOf_17 (by decide) ?_
          exact ih5 (x1_1 + (1 : Int32)) (x2_2 &&& (x2_2 - (1 : Int32))) hf H locs hP hD hS _ (lv_sub hl [1, 0] rfl)
    exact hL4 (0 : Int32) x0 hf H locs hP hD hS _ (lv_sub hl [1, 0] rfl)
  rw [hH, hlo] at hW
  exact hW
def f_X8_findsAll_L2 (vM : Vs) (x1 : Int32) (self2 : Int32 → Option (Int32)) (x2_1 : Int32) : Option (Int32) :=
  o1 (f_X8_faults vM) (fun (r5 : Int32) => if r5 ≤ x2_1 then gd (isB (1 : Int32)) (some ((1 : Int32))) else gd (inb x2_1 56) (jn (self2 (x2_1 + (1 : Int32))) (fun k11 => if (vM.2.1 9 (x2_1).toNatClampNeg) = 0 then k11 else gd (inb x2_1 56) (if ((vM.2.1 9 (x2_1).toNatClampNeg) &&& x1) = 0 then gd (isB (0 : Int32)) (some ((0 : Int32))) else k11))))
def f_X8_findsAll (vM : Vs) (x1 : Int32) : Option (Int32) :=
  lp (f_X8_findsAll_L2 vM x1) (fun _ => none) FU (0 : Int32)
abbrev wsX8_findsAll : List Cond := .code yX8_findsAll cX8_findsAll 3 (some .boolean) :: UW
abbrev rmX8_findsAll : Room := { frames := 3, cells := 0, slots := 0, locals := 61 }
set_option maxHeartbeats 4000000 in
set_option maxRecDepth 100000 in
theorem c_X8_findsAll (l : Launch) (g : Gx) (bM : Nat → Nat) (vM : Vs) (x1 : Int32) (r : Int32) (hf : f_X8_findsAll vM x1 = some r) : CtI l yX8_findsAll wsX8_findsAll rmX8_findsAll g [.ref (bM 0), .int x1] (cM g bM vM) (cM g bM vM) r 0 0 := by
  unfold CtI
  intro sz
  refine Met.ofW (cc := cX8_findsAll) (maxL := 3) (ret := (some .boolean)) (by decide) rfl ?_
  intro p e s m args below meth c s₁ B hml hv
  obtain ⟨rfl, hsz, hP, hK, hD0, hG⟩ := hv
  have hx := B.exec
  have hb := B.bytes
  have hr := B.returns
  have hts := atoms_spec (ws := wsX8_findsAll) B.pre
  have hown : s.vm.findClass RX8 = some m.cls := findClass_of_methodNamed B.named
  have hlocks := B.notSynchronized
  subst hsz
  have hD := hD0.self (sz := s.heap.size)
  generalize hAe : va_A (cM g bM vM) s.heap.size = A at hD hG ⊢
  have hA : ∀ q : Nat, s.heap.size ≤ q → A q := fun q h => by rw [← hAe]; exact Or.inr h
  clear hAe hD0
  have hS : va_S A s.heap s.heap [] := va_S.rf
  have hl := lv_entry ([.ref (bM 0), .int x1]) (n := 3) (Nat.le_of_ble_eq_true rfl)
  rw [lg_entry_eq]
  generalize (lg_sl ([.ref (bM 0), .int x1]) ++ List.replicate (3 - (lg_sl ([.ref (bM 0), .int x1])).length) Slot.unset).toArray = ls at hl ⊢
  have hl : lv_has ls 3 [(0, .ref (bM 0)), (1, .int x1)] := hl
  have htu : ∀ w ∈ UW, w.before _ s = true := fun w h => hts w (List.mem_cons_of_mem _ h)
  have k_5_81 := htu _ mw_5_81
  unfold f_X8_findsAll at hf
  obtain ⟨H, hH⟩ : ∃ z, z = s.heap := ⟨_, rfl⟩
  obtain ⟨locs, hlo⟩ : ∃ z : List Loc, z = [] := ⟨_, rfl⟩
  have hS : va_S A s.heap H locs := by rw [hH, hlo]; exact hS
  rw [← hH] at hP
  have hW : W p l e (headSpec wsX8_findsAll rmX8_findsAll).room s m ([.ref (bM 0), .int x1] : List Value).toArray below meth c H locs 0 0 (MQ below (qI g A (cM g bM vM) r) ([.ref (bM 0), .int x1] : List Value).toArray s 0 0 A) (F0 m 0 ls []) := by
    refine lv_iconst (v := (0 : Int32)) hx hb dX8_findsAll_0 (by decide) ?_
    refine lv_istore_n (lv' := [(2, .int (0 : Int32)), (0, .ref (bM 0)), (1, .int x1)]) hx hb dX8_findsAll_1 rfl hl (by decide) rfl (fun ls hl => ?_)
    have hL3 : ∀ (x2_1 : Int32), lp (f_X8_findsAll_L2 vM x1) (fun _ => none) FU x2_1 = some r → ∀ (H : Heap) (locs : List Loc), va_P g.1 vwCl (cM g bM vM) H → va_D A (cM g bM vM) → va_S A s.heap H locs → ∀ ls : Array Slot, lv_has ls 3 [(0, .ref (bM 0)), (1, .int x1), (2, .int x2_1)] → W p l e (headSpec wsX8_findsAll rmX8_findsAll).room s m ([.ref (bM 0), .int x1] : List Value).toArray below meth c H locs 0 0 (MQ below (qI g A (cM g bM vM) r) ([.ref (bM 0), .int x1] : List Value).toArray s 0 0 A) (F0 m 2 ls []) := by
      refine lp_ind (T := Int32 → Option (Int32)) (fun self2 => ∀ (x2_1 : Int32), self2 x2_1 = some r → ∀ (H : Heap) (locs : List Loc), va_P g.1 vwCl (cM g bM vM) H → va_D A (cM g bM vM) → va_S A s.heap H locs → ∀ ls : Array Slot, lv_has ls 3 [(0, .ref (bM 0)), (1, .int x1), (2, .int x2_1)] → W p l e (headSpec wsX8_findsAll rmX8_findsAll).room s m ([.ref (bM 0), .int x1] : List Value).toArray below meth c H locs 0 0 (MQ below (qI g A (cM g bM vM) r) ([.ref (bM 0), .int x1] : List Value).toArray s 0 0 A) (F0 m 2 ls [])) ?_ ?_ FU
      · intro x2_1 hf; cases hf
      · intro self2 ih4 x2_1 hf H locs hP hD hS ls hl
        unfold f_X8_findsAll_L2 at hf
        refine lv_iload_n hx hb dX8_findsAll_2 rfl (lv_at hl 2 rfl) ?_
        refine lv_aload_n hx hb dX8_findsAll_3 rfl (lv_at hl 0 rfl) ?_
        obtain ⟨r5, hg6, hf⟩ := o1_at hf
        refine k_viW ⟨hx, hb, hml, hown, htu⟩ hK hP hD hS hA hG (c_X8_faults l g bM vM r5 hg6) (cwV 0 htu (gU_V mw_6_44 hcX8_faults) rfl rfl rfl hdX8_faults ⟨Nat.le_of_ble_eq_true rfl, Nat.le_of_ble_eq_true rfl⟩) (q0 := 0) (ci := 8) (fs := fcM bM vM) (q := (RX8, TX8, 23)) rfl rfl rfl (As := []) (rest := [.int x2_1]) rfl rfl hl.1 (Nat.le_of_ble_eq_true rfl) dX8_findsAll_4 (k1 := 0) (n1 := 0) rfl rfl ⟨Nat.zero_le _, Nat.zero_le _⟩ (fun H locs hP hD hS => ?_)
        refine lv_icmp_ge (tgt := 38) hx hb dX8_findsAll_7 (by decide) (fun c7 => ?_) (fun c7 => ?_)
        · have hf := it_t hf c7
          refine lv_iconst (v := (1 : Int32)) hx hb dX8_findsAll_38 (by decide) ?_
          obtain ⟨h8, hf⟩ := gd_isB hf
          have e9 := Option.some.inj hf
          exact k_zret hx hb hr hlocks hK hP hD hS e9 h8 dX8_findsAll_39
        · have hf := it_f hf c7
          refine lv_aload_n hx hb dX8_findsAll_10 rfl (lv_at hl 0 rfl) ?_
          refine va_get (D := g.1) (ci := 8) (fs := fcM bM vM) (v := .ref (bM 10)) (C := RX8) (T := TX8) (N := 23) hx hb htu hinX8 hown hK hP 0 rfl rfl 9 (by decide) k_5_81 (fun _ h9 => h9) rfl dX8_findsAll_11 ?_
          refine lv_iload_n hx hb dX8_findsAll_14 rfl (lv_at hl 2 rfl) ?_
          obtain ⟨h10, hf⟩ := gd_in hf
          refine va_iald (D := g.1) (f := (vM.2.1 9)) hx hb hK hP 7 0 rfl rfl h10 dX8_findsAll_15 ?_
          obtain ⟨k11, hk13, hf⟩ := jn_at hf
          have hJ12 : k11 = some r → ∀ (H : Heap) (locs : List Loc), va_P g.1 vwCl (cM g bM vM) H → va_D A (cM g bM vM) → va_S A s.heap H locs → ∀ ls : Array Slot, lv_has ls 3 [(0, .ref (bM 0)), (1, .int x1), (2, .int x2_1)] → W p l e (headSpec wsX8_findsAll rmX8_findsAll).room s m ([.ref (bM 0), .int x1] : List Value).toArray below meth c H locs 0 0 (MQ below (qI g A (cM g bM vM) r) ([.ref (bM 0), .int x1] : List Value).toArray s 0 0 A) (F0 m 32 ls []) := by
            intro hf H locs hP hD hS ls hl
            rw [hk13] at hf
            clear hk13
            refine lv_iinc (v := (x2_1 + (1 : Int32))) (lv' := [(2, .int (x2_1 + (1 : Int32))), (0, .ref (bM 0)), (1, .int x1)]) hx hb dX8_findsAll_32 hl (k := 2) rfl rfl (by decide) rfl (fun ls hl => ?_)
            refine lv_goto (tgt := 2) hx hb dX8_findsAll_35 (by decide) ?_
            exact ih4 (x2_1 + (1 : Int32)) hf H locs hP hD hS _ (lv_sub hl [1, 2, 0] rfl)
          refine lv_if_eq (tgt := 32) hx hb dX8_findsAll_16 (by decide) (fun c14 => ?_) (fun c14 => ?_)
          · have hf := it_t hf c14
            exact hJ12 hf H locs hP hD hS _ (lv_sub hl [0, 1, 2] rfl)
          · have hf := it_f hf c14
            refine lv_aload_n hx hb dX8_findsAll_19 rfl (lv_at hl 0 rfl) ?_
            refine va_get (D := g.1) (ci := 8) (fs := fcM bM vM) (v := .ref (bM 10)) (C := RX8) (T := TX8) (N := 23) hx hb htu hinX8 hown hK hP 0 rfl rfl 9 (by decide) k_5_81 (fun _ h9 => h9) rfl dX8_findsAll_20 ?_
            refine lv_iload_n hx hb dX8_findsAll_23 rfl (lv_at hl 2 rfl) ?_
            obtain ⟨h15, hf⟩ := gd_in hf
            refine va_iald (D := g.1) (f := (vM.2.1 9)) hx hb hK hP 7 0 rfl rfl h15 dX8_findsAll_24 ?_
            refine lv_iload_n hx hb dX8_findsAll_25 rfl (lv_at hl 1 rfl) ?_
            refine lv_iand hx hb dX8_findsAll_26 ?_
            refine lv_if_ne (tgt := 32) hx hb dX8_findsAll_27 (by decide) (fun c16 => ?_) (fun c16 => ?_)
            · have hf := it_f hf c16
              exact hJ12 hf H locs hP hD hS _ (lv_sub hl [0, 1, 2] rfl)
            · have hf := it_t hf c16
              refine lv_iconst (v := (0 : Int32)) hx hb dX8_findsAll_30 (by decide) ?_
              obtain ⟨h17, hf⟩ := gd_isB hf
              have e18 := Option.some.inj hf
              exact k_zret hx hb hr hlocks hK hP hD hS e18 h17 dX8_findsAll_31
    exact hL3 (0 : Int32) hf H locs hP hD hS _ (lv_sub hl [1, 2, 0] rfl)
  rw [hH, hlo] at hW
  exact hW
