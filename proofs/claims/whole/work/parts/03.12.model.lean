def f_X8_leastSet_L20 (vM_2 : Vs) (self8 : Int32 → Int32 → Option (Int32 × Vs)) (x1_6 : Int32) (x2_7 : Int32) : Option (Int32 × Vs) :=
  o1 (f_X8_tests vM_2) (fun (r11 : Int32) => if ((1 : Int32) <<< (r11 &&& 31)) ≤ x2_7 then some (x1_6, vM_2) else o1 (f_X8_bitsOf x2_7) (fun (r16 : Int32) => o1 (f_X8_bitsOf x1_6) (fun (r18 : Int32) => jn (fun (x1_20 : Int32) => self8 x1_20 (x2_7 + (1 : Int32))) (fun k21 => if r18 ≤ r16 then k21 x1_6 else o1 (f_X8_findsAll vM_2 x2_7) (fun (r25 : Int32) => if r25 = 0 then k21 x1_6 else k21 x2_7)))))
def f_X8_leastSet (vM : Vs) : Option (Int32 × Vs) :=
  bn (sF vM 0 (0 : Int32)) (fun (vM_1 : Vs) => o1 (f_X8_finders vM_1) (fun (vM_2 : Vs) => o1 (f_X8_tests vM_2) (fun (r4 : Int32) => lp (f_X8_leastSet_L20 vM_2) (fun _ _ => none) FU (((1 : Int32) <<< (r4 &&& 31)) - (1 : Int32)) (0 : Int32))))
abbrev wsX8_leastSet : List Cond := .code yX8_leastSet cX8_leastSet 3 (some .int) :: UW
abbrev rmX8_leastSet : Room := { frames := 6, cells := 0, slots := 0, locals := 142 }
set_option maxHeartbeats 4000000 in
set_option maxRecDepth 100000 in
theorem c_X8_leastSet (l : Launch) (g : Gx) (bM : Nat → Nat) (vM : Vs) (r : Int32) (vM1 : Vs) (hf : f_X8_leastSet vM = some (r, vM1)) : CtI l yX8_leastSet wsX8_leastSet rmX8_leastSet g [.ref (bM 0)] (cM g bM vM) (cM g bM vM1) r 0 0 := by
  unfold CtI
  intro sz
  refine Met.ofW (cc := cX8_leastSet) (maxL := 3) (ret := (some .int)) (by decide) rfl ?_
  intro p e s m args below meth c s₁ B hml hv
  obtain ⟨rfl, hsz, hP, hK, hD0, hG⟩ := hv
  have hx := B.exec
  have hb := B.bytes
  have hr := B.returns
  have hts := atoms_spec (ws := wsX8_leastSet) B.pre
  have hown : s.vm.findClass RX8 = some m.cls := findClass_of_methodNamed B.named
  have hlocks := B.notSynchronized
  subst hsz
  have hD := hD0.self (sz := s.heap.size)
  generalize hAe : va_A (cM g bM vM) s.heap.size = A at hD hG ⊢
  have hA : ∀ q : Nat, s.heap.size ≤ q → A q := fun q h => by rw [← hAe]; exact Or.inr h
  clear hAe hD0
  have hS : va_S A s.heap s.heap [] := va_S.rf
  have hl := lv_entry ([.ref (bM 0)]) (n := 3) (Nat.le_of_ble_eq_true rfl)
  rw [lg_entry_eq]
  generalize (lg_sl ([.ref (bM 0)]) ++ List.replicate (3 - (lg_sl ([.ref (bM 0)])).length) Slot.unset).toArray = ls at hl ⊢
  have hl : lv_has ls 3 [(0, .ref (bM 0))] := hl
  have htu : ∀ w ∈ UW, w.before _ s = true := fun w h => hts w (List.mem_cons_of_mem _ h)
  have k_5_72 := htu _ mw_5_72
  unfold f_X8_leastSet at hf
  obtain ⟨H, hH⟩ : ∃ z, z = s.heap := ⟨_, rfl⟩
  obtain ⟨locs, hlo⟩ : ∃ z : List Loc, z = [] := ⟨_, rfl⟩
  have hS : va_S A s.heap H locs := by rw [hH, hlo]; exact hS
  rw [← hH] at hP
  have hW : W p l e (headSpec wsX8_leastSet rmX8_leastSet).room s m ([.ref (bM 0)] : List Value).toArray below meth c H locs 0 0 (MQ below (qI g A (cM g bM vM1) r) ([.ref (bM 0)] : List Value).toArray s 0 0 A) (F0 m 0 ls []) := by
    refine lv_aload_n hx hb dX8_leastSet_0 rfl (lv_at hl 0 rfl) ?_
    refine lv_iconst (v := (0 : Int32)) hx hb dX8_leastSet_1 (by decide) ?_
    refine va_put (D := g.1) (ci := 8) (fs := fcM bM vM) (v := .int (0 : Int32)) (ty := .int) (C := RX8) (T := TX8) (N := 23) hx hb htu hinX8 tyX8 tyX8_ok nmX8 hown hK hP hD hS 0 rfl rfl 0 (by decide) k_5_72 (fun _ h9 => h9) rfl (by decide +kernel) rfl rfl (Nat.le_of_ble_eq_true rfl) dX8_leastSet_2 (fun H locs hP hD hS => ?_)
    obtain ⟨vM_1, evM_1⟩ : ∃ z, z = sF vM 0 (0 : Int32) := ⟨_, rfl⟩
    have hf := bn_at hf evM_1
    have hP : va_P g.1 vwCl (cM g bM vM_1) H := by rw [evM_1]; exact hP
    have hD : va_D A (cM g bM vM_1) := by rw [evM_1]; exact hD
    refine lv_aload_n hx hb dX8_leastSet_5 rfl (lv_at hl 0 rfl) ?_
    obtain ⟨vM_2, hg3, hf⟩ := o1_at hf
    refine k_vvW ⟨hx, hb, hml, hown, htu⟩ hK hP hD hS hA hG (c_X8_finders l g bM vM_1 vM_2 hg3) (cwV 0 htu (gU_V mw_6_64 hcX8_finders) rfl rfl rfl hdX8_finders ⟨Nat.le_of_ble_eq_true rfl, Nat.le_of_ble_eq_true rfl⟩) (q0 := 0) (ci := 8) (fs := fcM bM vM_1) (q := (RX8, TX8, 23)) rfl rfl rfl (As := []) (rest := []) rfl rfl hl.1 (Nat.le_of_ble_eq_true rfl) dX8_leastSet_6 (k1 := 0) (n1 := 0) rfl rfl ⟨Nat.zero_le _, Nat.zero_le _⟩ (fun H locs hP hD hS => ?_)
    refine lv_iconst (v := (1 : Int32)) hx hb dX8_leastSet_9 (by decide) ?_
    refine lv_aload_n hx hb dX8_leastSet_10 rfl (lv_at hl 0 rfl) ?_
    obtain ⟨r4, hg5, hf⟩ := o1_at hf
    refine k_viW ⟨hx, hb, hml, hown, htu⟩ hK hP hD hS hA hG (c_X8_tests l g bM vM_2 r4 hg5) (cwV 0 htu (gU_V mw_6_48 hcX8_tests) rfl rfl rfl hdX8_tests ⟨Nat.le_of_ble_eq_true rfl, Nat.le_of_ble_eq_true rfl⟩) (q0 := 0) (ci := 8) (fs := fcM bM vM_2) (q := (RX8, TX8, 23)) rfl rfl rfl (As := []) (rest := [.int (1 : Int32)]) rfl rfl hl.1 (Nat.le_of_ble_eq_true rfl) dX8_leastSet_11 (k1 := 0) (n1 := 0) rfl rfl ⟨Nat.zero_le _, Nat.zero_le _⟩ (fun H locs hP hD hS => ?_)
    refine lv_ishl hx hb dX8_leastSet_14 ?_
    refine lv_iconst (v := (1 : Int32)) hx hb dX8_leastSet_15 (by decide) ?_
    refine lv_isub hx hb dX8_leastSet_16 ?_
    refine lv_istore_n (lv' := [(1, .int (((1 : Int32) <<< (r4 &&& 31)) - (1 : Int32))), (0, .ref (bM 0))]) hx hb dX8_leastSet_17 rfl hl (by decide) rfl (fun ls hl => ?_)
    refine lv_iconst (v := (0 : Int32)) hx hb dX8_leastSet_18 (by decide) ?_
    refine lv_istore_n (lv' := [(2, .int (0 : Int32)), (1, .int (((1 : Int32) <<< (r4 &&& 31)) - (1 : Int32))), (0, .ref (bM 0))]) hx hb dX8_leastSet_19 rfl hl (by decide) rfl (fun ls hl => ?_)
    have hL9 : ∀ (x1_6 : Int32) (x2_7 : Int32), lp (f_X8_leastSet_L20 vM_2) (fun _ _ => none) FU x1_6 x2_7 = some (r, vM1) → ∀ (H : Heap) (locs : List Loc), va_P g.1 vwCl (cM g bM vM_2) H → va_D A (cM g bM vM_2) → va_S A s.heap H locs → ∀ ls : Array Slot, lv_has ls 3 [(0, .ref (bM 0)), (1, .int x1_6), (2, .int x2_7)] → W p l e (headSpec wsX8_leastSet rmX8_leastSet).room s m ([.ref (bM 0)] : List Value).toArray below meth c H locs 0 0 (MQ below (qI g A (cM g bM vM1) r) ([.ref (bM 0)] : List Value).toArray s 0 0 A) (F0 m 20 ls []) := by
      refine lp_ind (T := Int32 → Int32 → Option (Int32 × Vs)) (fun self8 => ∀ (x1_6 : Int32) (x2_7 : Int32), self8 x1_6 x2_7 = some (r, vM1) → ∀ (H : Heap) (locs : List Loc), va_P g.1 vwCl (cM g bM vM_2) H → va_D A (cM g bM vM_2) → va_S A s.heap H locs → ∀ ls : Array Slot, lv_has ls 3 [(0, .ref (bM 0)), (1, .int x1_6), (2, .int x2_7)] → W p l e (headSpec wsX8_leastSet rmX8_leastSet).room s m ([.ref (bM 0)] : List Value).toArray below meth c H locs 0 0 (MQ below (qI g A (cM g bM vM1) r) ([.ref (bM 0)] : List Value).toArray s 0 0 A) (F0 m 20 ls [])) ?_ ?_ FU
      · intro x1_6 x2_7 hf; cases hf
      · intro self8 ih10 x1_6 x2_7 hf H locs hP hD hS ls hl
        unfold f_X8_leastSet_L20 at hf
        refine lv_iload_n hx hb dX8_leastSet_20 rfl (lv_at hl 2 rfl) ?_
        refine lv_iconst (v := (1 : Int32)) hx hb dX8_leastSet_21 (by decide) ?_
        refine lv_aload_n hx hb dX8_leastSet_22 rfl (lv_at hl 0 rfl) ?_
        obtain ⟨r11, hg12, hf⟩ := o1_at hf
        refine k_viW ⟨hx, hb, hml, hown, htu⟩ hK hP hD hS hA hG (c_X8_tests l g bM vM_2 r11 hg12) (cwV 0 htu (gU_V mw_6_48 hcX8_tests) rfl rfl rfl hdX8_tests ⟨Nat.le_of_ble_eq_true rfl, Nat.le_of_ble_eq_true rfl⟩) (q0 := 0) (ci := 8) (fs := fcM bM vM_2) (q := (RX8, TX8, 23)) rfl rfl rfl (As := []) (rest := [.int (1 : Int32), .int x2_7]) rfl rfl hl.1 (Nat.le_of_ble_eq_true rfl) dX8_leastSet_23 (k1 := 0) (n1 := 0) rfl rfl ⟨Nat.zero_le _, Nat.zero_le _⟩ (fun H locs hP hD hS => ?_)
        refine lv_ishl hx hb dX8_leastSet_26 ?_
        refine lv_icmp_ge (tgt := 57) hx hb dX8_leastSet_27 (by decide) (fun c13 => ?_) (fun c13 => ?_)
        · have hf := it_t hf c13
          refine lv_iload_n hx hb dX8_leastSet_57 rfl (lv_at hl 1 rfl) ?_
          obtain ⟨e14, e15⟩ := kp_2 hf
          rw [e15] at hP hD
          exact k_iret hx hb hr hlocks hK hP hD hS e14 dX8_leastSet_58
        · have hf := it_f hf c13
          refine lv_iload_n hx hb dX8_leastSet_30 rfl (lv_at hl 2 rfl) ?_
          obtain ⟨r16, hg17, hf⟩ := o1_at hf
          refine k_si0 ⟨hx, hb, hml, hown, htu⟩ hK hP hD hS hA hG (c_X8_bitsOf l g x2_7 r16 hg17) (va_cwS 1 htu (gU_S mw_6_230 hcX8_bitsOf) rfl rfl rfl hdX8_bitsOf ⟨Nat.le_of_ble_eq_true rfl, Nat.le_of_ble_eq_true rfl⟩) (As := [.int x2_7]) (rest := []) rfl rfl hl.1 (Nat.le_of_ble_eq_true rfl) dX8_leastSet_31 (k1 := 0) (n1 := 0) rfl rfl ⟨Nat.zero_le _, Nat.zero_le _⟩ (fun H locs hP hD hS => ?_)
          refine lv_iload_n hx hb dX8_leastSet_34 rfl (lv_at hl 1 rfl) ?_
          obtain ⟨r18, hg19, hf⟩ := o1_at hf
          refine k_si0 ⟨hx, hb, hml, hown, htu⟩ hK hP hD hS hA hG (c_X8_bitsOf l g x1_6 r18 hg19) (va_cwS 1 htu (gU_S mw_6_230 hcX8_bitsOf) rfl rfl rfl hdX8_bitsOf ⟨Nat.le_of_ble_eq_true rfl, Nat.le_of_ble_eq_true rfl⟩) (As := [.int x1_6]) (rest := [.int r16]) rfl rfl hl.1 (Nat.le_of_ble_eq_true rfl) dX8_leastSet_35 (k1 := 0) (n1 := 0) rfl rfl ⟨Nat.zero_le _, Nat.zero_le _⟩ (fun H locs hP hD hS => ?_)
          obtain ⟨k21, hk23, hf⟩ := jn_at hf
          have hJ22 : ∀ (x1_20 : Int32), k21 x1_20 = some (r, vM1) → ∀ (H : Heap) (locs : List Loc), va_P g.1 vwCl (cM g bM vM_2) H → va_D A (cM g bM vM_2) → va_S A s.heap H locs → ∀ ls : Array Slot, lv_has ls 3 [(0, .ref (bM 0)), (1, .int x1_20), (2, .int x2_7)] → W p l e (headSpec wsX8_leastSet rmX8_leastSet).room s m ([.ref (bM 0)] : List Value).toArray below meth c H locs 0 0 (MQ below (qI g A (cM g bM vM1) r) ([.ref (bM 0)] : List Value).toArray s 0 0 A) (F0 m 51 ls []) := by
            intro x1_20 hf H locs hP hD hS ls hl
            rw [hk23] at hf
            dsimp only at hf
            clear hk23
            refine lv_iinc (v := (x2_7 + (1 : Int32))) (lv' := [(2, .int (x2_7 + (1 : Int32))), (0, .ref (bM 0)), (1, .int x1_20)]) hx hb dX8_leastSet_51 hl (k := 2) rfl rfl (by decide) rfl (fun ls hl => ?_)
            refine lv_goto (tgt := 20) hx hb dX8_leastSet_54 (by decide) ?_
            exact ih10 x1_20 (x2_7 + (1 : Int32)) hf H locs hP hD hS _ (lv_sub hl [1, 2, 0] rfl)
          refine lv_icmp_ge (tgt := 51) hx hb dX8_leastSet_38 (by decide) (fun c24 => ?_) (fun c24 => ?_)
          · have hf := it_t hf c24
            exact hJ22 x1_6 hf H locs hP hD hS _ (lv_sub hl [0, 1, 2] rfl)
          · have hf := it_f hf c24
            refine lv_aload_n hx hb dX8_leastSet_41 rfl (lv_at hl 0 rfl) ?_
            refine lv_iload_n hx hb dX8_leastSet_42 rfl (lv_at hl 2 rfl) ?_
            obtain ⟨r25, hg26, hf⟩ := o1_at hf
            refine k_viW ⟨hx, hb, hml, hown, htu⟩ hK hP hD hS hA hG (c_X8_findsAll l g bM vM_2 x2_7 r25 hg26) (cwV 1 htu (gU_V mw_6_233 hcX8_findsAll) rfl rfl rfl hdX8_findsAll ⟨Nat.le_of_ble_eq_true rfl, Nat.le_of_ble_eq_true rfl⟩) (q0 := 0) (ci := 8) (fs := fcM bM vM_2) (q := (RX8, TX8, 23)) rfl rfl rfl (As := [.int x2_7]) (rest := []) rfl rfl hl.1 (Nat.le_of_ble_eq_true rfl) dX8_leastSet_43 (k1 := 0) (n1 := 0) rfl rfl ⟨Nat.zero_le _, Nat.zero_le _⟩ (fun H locs hP hD hS => ?_)
            refine lv_if_eq (tgt := 51) hx hb dX8_leastSet_46 (by decide) (fun c27 => ?_) (fun c27 => ?_)
            · have hf := it_t hf c27
              exact hJ22 x1_6 hf H locs hP hD hS _ (lv_sub hl [0, 1, 2] rfl)
            · have hf := it_f hf c27
              refine lv_iload_n hx hb dX8_leastSet_49 rfl (lv_at hl 2 rfl) ?_
              refine lv_istore_n (lv' := [(1, .int x2_7), (0, .ref (bM 0)), (2, .int x2_7)]) hx hb dX8_leastSet_50 rfl hl (by decide) rfl (fun ls hl => ?_)
              exact hJ22 x2_7 hf H locs hP hD hS _ (lv_sub hl [1, 0, 2] rfl)
    exact hL9 (((1 : Int32) <<< (r4 &&& 31)) - (1 : Int32)) (0 : Int32) hf H locs hP hD hS _ (lv_sub hl [2, 1, 0] rfl)
  rw [hH, hlo] at hW
  exact hW
def f_X8_isFit_L2 (vM : Vs) (x1 : Int32) (self2 : Int32 → Option (Int32)) (x2_1 : Int32) : Option (Int32) :=
  o1 (f_X8_outputs vM) (fun (r5 : Int32) => if r5 ≤ x2_1 then gd (isB (1 : Int32)) (some ((1 : Int32))) else o1 (f_X8_atOutput_bent vM x2_1) (fun (r10 : Int32) => o1 (f_X8_seenAt vM x1 x2_1) (fun (r12 : Int32) => jn (self2 (x2_1 + (1 : Int32))) (fun k14 => if r12 = (2 : Int32) then k14 else if r10 = (2 : Int32) then k14 else o1 (f_X8_seenAt vM x1 x2_1) (fun (r19 : Int32) => if r10 = r19 then k14 else gd (isB (0 : Int32)) (some ((0 : Int32))))))))
def f_X8_isFit (vM : Vs) (x1 : Int32) : Option (Int32) :=
  lp (f_X8_isFit_L2 vM x1) (fun _ => none) FU (0 : Int32)
abbrev wsX8_isFit : List Cond := .code yX8_isFit cX8_isFit 4 (some .boolean) :: UW
abbrev rmX8_isFit : Room := { frames := 2, cells := 0, slots := 0, locals := 43 }
set_option maxHeartbeats 4000000 in
set_option maxRecDepth 100000 in
theorem c_X8_isFit (l : Launch) (g : Gx) (bM : Nat → Nat) (vM : Vs) (x1 : Int32) (r : Int32) (hf : f_X8_isFit vM x1 = some r) : CtI l yX8_isFit wsX8_isFit rmX8_isFit g [.ref (bM 0), .int x1] (cM g bM vM) (cM g bM vM) r 0 0 := by
  unfold CtI
  intro sz
  refine Met.ofW (cc := cX8_isFit) (maxL := 4) (ret := (some .boolean)) (by decide) rfl ?_
  intro p e s m args below meth c s₁ B hml hv
  obtain ⟨rfl, hsz, hP, hK, hD0, hG⟩ := hv
  have hx := B.exec
  have hb := B.bytes
  have hr := B.returns
  have hts := atoms_spec (ws := wsX8_isFit) B.pre
  have hown : s.vm.findClass RX8 = some m.cls := findClass_of_methodNamed B.named
  have hlocks := B.notSynchronized
  subst hsz
  have hD := hD0.self (sz := s.heap.size)
  generalize hAe : va_A (cM g bM vM) s.heap.size = A at hD hG ⊢
  have hA : ∀ q : Nat, s.heap.size ≤ q → A q := fun q h => by rw [← hAe]; exact Or.inr h
  clear hAe hD0
  have hS : va_S A s.heap s.heap [] := va_S.rf
  have hl := lv_entry ([.ref (bM 0), .int x1]) (n := 4) (Nat.le_of_ble_eq_true rfl)
  rw [lg_entry_eq]
  generalize (lg_sl ([.ref (bM 0), .int x1]) ++ List.replicate (4 - (lg_sl ([.ref (bM 0), .int x1])).length) Slot.unset).toArray = ls at hl ⊢
  have hl : lv_has ls 4 [(0, .ref (bM 0)), (1, .int x1)] := hl
  have htu : ∀ w ∈ UW, w.before _ s = true := fun w h => hts w (List.mem_cons_of_mem _ h)
  have k_5_80 := htu _ mw_5_80
  unfold f_X8_isFit at hf
  obtain ⟨H, hH⟩ : ∃ z, z = s.heap := ⟨_, rfl⟩
  obtain ⟨locs, hlo⟩ : ∃ z : List Loc, z = [] := ⟨_, rfl⟩
  have hS : va_S A s.heap H locs := by rw [hH, hlo]; exact hS
  rw [← hH] at hP
  have hW : W p l e (headSpec wsX8_isFit rmX8_isFit).room s m ([.ref (bM 0), .int x1] : List Value).toArray below meth c H locs 0 0 (MQ below (qI g A (cM g bM vM) r) ([.ref (bM 0), .int x1] : List Value).toArray s 0 0 A) (F0 m 0 ls []) := by
    refine lv_iconst (v := (0 : Int32)) hx hb dX8_isFit_0 (by decide) ?_
    refine lv_istore_n (lv' := [(2, .int (0 : Int32)), (0, .ref (bM 0)), (1, .int x1)]) hx hb dX8_isFit_1 rfl hl (by decide) rfl (fun ls hl => ?_)
    have hL3 : ∀ (x2_1 : Int32), lp (f_X8_isFit_L2 vM x1) (fun _ => none) FU x2_1 = some r → ∀ (H : Heap) (locs : List Loc), va_P g.1 vwCl (cM g bM vM) H → va_D A (cM g bM vM) → va_S A s.heap H locs → ∀ ls : Array Slot, lv_has ls 4 [(0, .ref (bM 0)), (1, .int x1), (2, .int x2_1)] → W p l e (headSpec wsX8_isFit rmX8_isFit).room s m ([.ref (bM 0), .int x1] : List Value).toArray below meth c H locs 0 0 (MQ below (qI g A (cM g bM vM) r) ([.ref (bM 0), .int x1] : List Value).toArray s 0 0 A) (F0 m 2 ls []) := by
      refine lp_ind (T := Int32 → Option (Int32)) (fun self2 => ∀ (x2_1 : Int32), self2 x2_1 = some r → ∀ (H : Heap) (locs : List Loc), va_P g.1 vwCl (cM g bM vM) H → va_D A (cM g bM vM) → va_S A s.heap H locs → ∀ ls : Array Slot, lv_has ls 4 [(0, .ref (bM 0)), (1, .int x1), (2, .int x2_1)] → W p l e (headSpec wsX8_isFit rmX8_isFit).room s m ([.ref (bM 0), .int x1] : List Value).toArray below meth c H locs 0 0 (MQ below (qI g A (cM g bM vM) r) ([.ref (bM 0), .int x1] : List Value).toArray s 0 0 A) (F0 m 2 ls [])) ?_ ?_ FU
      · intro x2_1 hf; cases hf
      · intro self2 ih4 x2_1 hf H locs hP hD hS ls hl
        unfold f_X8_isFit_L2 at hf
        refine lv_iload_n hx hb dX8_isFit_2 rfl (lv_at hl 2 rfl) ?_
        refine lv_aload_n hx hb dX8_isFit_3 rfl (lv_at hl 0 rfl) ?_
        obtain ⟨r5, hg6, hf⟩ := o1_at hf
        refine k_viW ⟨hx, hb, hml, hown, htu⟩ hK hP hD hS hA hG (c_X8_outputs l g bM vM r5 hg6) (cwV 0 htu (gU_V mw_6_40 hcX8_outputs) rfl rfl rfl hdX8_outputs ⟨Nat.le_of_ble_eq_true rfl, Nat.le_of_ble_eq_true rfl⟩) (q0 := 0) (ci := 8) (fs := fcM bM vM) (q := (RX8, TX8, 23)) rfl rfl rfl (As := []) (rest := [.int x2_1]) rfl rfl hl.1 (Nat.le_of_ble_eq_true rfl) dX8_isFit_4 (k1 := 0) (n1 := 0) rfl rfl ⟨Nat.zero_le _, Nat.zero_le _⟩ (fun H locs hP hD hS => ?_)
        refine lv_icmp_ge (tgt := 53) hx hb dX8_isFit_7 (by decide) (fun c7 => ?_) (fun c7 => ?_)
        · have hf := it_t hf c7
          refine lv_iconst (v := (1 : Int32)) hx hb dX8_isFit_53 (by decide) ?_
          obtain ⟨h8, hf⟩ := gd_isB hf
          have e9 := Option.some.inj hf
          exact k_zret hx hb hr hlocks hK hP hD hS e9 h8 dX8_isFit_54
        · have hf := it_f hf c7
          refine lv_aload_n hx hb dX8_isFit_10 rfl (lv_at hl 0 rfl) ?_
          refine lv_iload_n hx hb dX8_isFit_11 rfl (lv_at hl 2 rfl) ?_
          refine lv_aload_n hx hb dX8_isFit_12 rfl (lv_at hl 0 rfl) ?_
          refine va_get (D := g.1) (ci := 8) (fs := fcM bM vM) (v := .ref (bM 9)) (C := RX8) (T := TX8) (N := 23) hx hb htu hinX8 hown hK hP 0 rfl rfl 8 (by decide) k_5_80 (fun _ h9 => h9) rfl dX8_isFit_13 ?_
          obtain ⟨r10, hg11, hf⟩ := o1_at hf
          refine k_viW ⟨hx, hb, hml, hown, htu⟩ hK hP hD hS hA hG (c_X8_atOutput_bent l g bM vM x2_1 r10 hg11) (cwV 2 htu (gU_V mw_6_106 hcX8_atOutput) rfl rfl rfl hdX8_atOutput ⟨Nat.le_of_ble_eq_true rfl, Nat.le_of_ble_eq_true rfl⟩) (q0 := 0) (ci := 8) (fs := fcM bM vM) (q := (RX8, TX8, 23)) rfl rfl rfl (As := [.int x2_1, .ref (bM 9)]) (rest := []) rfl rfl hl.1 (Nat.le_of_ble_eq_true rfl) dX8_isFit_16 (k1 := 0) (n1 := 0) rfl rfl ⟨Nat.zero_le _, Nat.zero_le _⟩ (fun H locs hP hD hS => ?_)
          refine lv_istore_n (lv' := [(3, .int r10), (0, .ref (bM 0)), (1, .int x1), (2, .int x2_1)]) hx hb dX8_isFit_19 rfl hl (by decide) rfl (fun ls hl => ?_)
          refine lv_aload_n hx hb dX8_isFit_20 rfl (lv_at hl 1 rfl) ?_
          refine lv_iload_n hx hb dX8_isFit_21 rfl (lv_at hl 2 rfl) ?_
          refine lv_iload_n hx hb dX8_isFit_22 rfl (lv_at hl 3 rfl) ?_
          obtain ⟨r12, hg13, hf⟩ := o1_at hf
          refine k_viW ⟨hx, hb, hml, hown, htu⟩ hK hP hD hS hA hG (c_X8_seenAt l g bM vM x1 x2_1 r12 hg13) (cwV 2 htu (gU_V mw_6_56 hcX8_seenAt) rfl rfl rfl hdX8_seenAt ⟨Nat.le_of_ble_eq_true rfl, Nat.le_of_ble_eq_true rfl⟩) (q0 := 0) (ci := 8) (fs := fcM bM vM) (q := (RX8, TX8, 23)) rfl rfl rfl (As := [.int x1, .int x2_1]) (rest := []) rfl rfl hl.1 (Nat.le_of_ble_eq_true rfl) dX8_isFit_23 (k1 := 0) (n1 := 0) rfl rfl ⟨Nat.zero_le _, Nat.zero_le _⟩ (fun H locs hP hD hS => ?_)
          refine lv_iconst (v := (2 : Int32)) hx hb dX8_isFit_26 (by decide) ?_
          obtain ⟨k14, hk16, hf⟩ := jn_at hf
          have hJ15 : k14 = some r → ∀ (H : Heap) (locs : List Loc), va_P g.1 vwCl (cM g bM vM) H → va_D A (cM g bM vM) → va_S A s.heap H locs → ∀ ls : Array Slot, lv_has ls 4 [(0, .ref (bM 0)), (1, .int x1), (2, .int x2_1)] → W p l e (headSpec wsX8_isFit rmX8_isFit).room s m ([.ref (bM 0), .int x1] : List Value).toArray below meth c H locs 0 0 (MQ below (qI g A (cM g bM vM) r) ([.ref (bM 0), .int x1] : List Value).toArray s 0 0 A) (F0 m 47 ls []) := by
            intro hf H locs hP hD hS ls hl
            rw [hk16] at hf
            clear hk16
            refine lv_iinc (v := (x2_1 + (1 : Int32))) (lv' := [(2, .int (x2_1 + (1 : Int32))), (0, .ref (bM 0)), (1, .int x1)]) hx hb dX8_isFit_47 hl (k := 2) rfl rfl (by decide) rfl (fun ls hl => ?_)
            refine lv_goto (tgt := 2) hx hb dX8_isFit_50 (by decide) ?_
            exact ih4 (x2_1 + (1 : Int32)) hf H locs hP hD hS _ (lv_sub hl [1, 2, 0] rfl)
          refine lv_icmp_eq (tgt := 47) hx hb dX8_isFit_27 (by decide) (fun c17 => ?_) (fun c17 => ?_)
          · have hf := it_t hf c17
            exact hJ15 hf H locs hP hD hS _ (lv_sub hl [1, 2, 3] rfl)
          · have hf := it_f hf c17
            refine lv_iload_n hx hb dX8_isFit_30 rfl (lv_at hl 0 rfl) ?_
            refine lv_iconst (v := (2 : Int32)) hx hb dX8_isFit_31 (by decide) ?_
            refine lv_icmp_eq (tgt := 47) hx hb dX8_isFit_32 (by decide) (fun c18 => ?_) (fun c18 => ?_)
            · have hf := it_t hf c18
              exact hJ15 hf H locs hP hD hS _ (lv_sub hl [1, 2, 3] rfl)
            · have hf := it_f hf c18
              refine lv_iload_n hx hb dX8_isFit_35 rfl (lv_at hl 0 rfl) ?_
              refine lv_aload_n hx hb dX8_isFit_36 rfl (lv_at hl 1 rfl) ?_
              refine lv_iload_n hx hb dX8_isFit_37 rfl (lv_at hl 2 rfl) ?_
              refine lv_iload_n hx hb dX8_isFit_38 rfl (lv_at hl 3 rfl) ?_
              obtain ⟨r19, hg20, hf⟩ := o1_at hf
              refine k_viW ⟨hx, hb, hml, hown, htu⟩ hK hP hD hS hA hG (c_X8_seenAt l g bM vM x1 x2_1 r19 hg20) (cwV 2 htu (gU_V mw_6_56 hcX8_seenAt) rfl rfl rfl hdX8_seenAt ⟨Nat.le_of_ble_eq_true rfl, Nat.le_of_ble_eq_true rfl⟩) (q0 := 0) (ci := 8) (fs := fcM bM vM) (q := (RX8, TX8, 23)) rfl rfl rfl (As := [.int x1, .int x2_1]) (rest := [.int r10]) rfl rfl hl.1 (Nat.le_of_ble_eq_true rfl) dX8_isFit_39 (k1 := 0) (n1 := 0) rfl rfl ⟨Nat.zero_le _, Nat.zero_le _⟩ (fun H locs hP hD hS => ?_)
              refine lv_icmp_eq (tgt := 47) hx hb dX8_isFit_42 (by decide) (fun c21 => ?_) (fun c21 => ?_)
              · have hf := it_t hf c21
                exact hJ15 hf H locs hP hD hS _ (lv_sub hl [1, 2, 3] rfl)
              · have hf := it_f hf c21
                refine lv_iconst (v := (0 : Int32)) hx hb dX8_isFit_45 (by decide) ?_
                obtain ⟨h22, hf⟩ := gd_isB hf
                have e23 := Option.some.inj hf
                exact k_zret hx hb hr hlocks hK hP hD hS e23 h22 dX8_isFit_46
    exact hL3 (0 : Int32) hf H locs hP hD hS _ (lv_sub hl [1, 2, 0] rfl)
  rw [hH, hlo] at hW
  exact hW
def f_X8_faultAtIndex (vM : Vs) (x1 : Int32) : Option (Int32) :=
  jn (fun (t1 : Int32) => some (t1)) (fun k2 => if x1 = (56 : Int32) then k2 (-1 : Int32) else k2 x1)
abbrev wsX8_faultAtIndex : List Cond := .code yX8_faultAtIndex cX8_faultAtIndex 2 (some .int) :: UW
abbrev rmX8_faultAtIndex : Room := { frames := 0, cells := 0, slots := 0, locals := 0 }
set_option maxHeartbeats 4000000 in
set_option maxRecDepth 100000 in
theorem c_X8_faultAtIndex (l : Launch) (g : Gx) (bM : Nat → Nat) (vM : Vs) (x1 : Int32) (r : Int32) (hf : f_X8_faultAtIndex vM x1 = some r) : CtI l yX8_faultAtIndex wsX8_faultAtIndex rmX8_faultAtIndex g [.ref (bM 0), .int x1] (cM g bM vM) (cM g bM vM) r 0 0 := by
  unfold CtI
  intro sz
  refine Met.ofW (cc := cX8_faultAtIndex) (maxL := 2) (ret := (some .int)) (by decide) rfl ?_
  intro p e s m args below meth c s₁ B hml hv
  obtain ⟨rfl, hsz, hP, hK, hD0, hG⟩ := hv
  have hx := B.exec
  have hb := B.bytes
  have hr := B.returns
  have hts := atoms_spec (ws := wsX8_faultAtIndex) B.pre
  have hown : s.vm.findClass RX8 = some m.cls := findClass_of_methodNamed B.named
  have hlocks := B.notSynchronized
  subst hsz
  have hD := hD0.self (sz := s.heap.size)
  generalize hAe : va_A (cM g bM vM) s.heap.size = A at hD hG ⊢
  have hA : ∀ q : Nat, s.heap.size ≤ q → A q := fun q h => by rw [← hAe]; exact Or.inr h
  clear hAe hD0
  have hS : va_S A s.heap s.heap [] := va_S.rf
  have hl := lv_entry ([.ref (bM 0), .int x1]) (n := 2) (Nat.le_of_ble_eq_true rfl)
  rw [lg_entry_eq]
  generalize (lg_sl ([.ref (bM 0), .int x1]) ++ List.replicate (2 - (lg_sl ([.ref (bM 0), .int x1])).length) Slot.unset).toArray = ls at hl ⊢
  have hl : lv_has ls 2 [(0, .ref (bM 0)), (1, .int x1)] := hl
  have htu : ∀ w ∈ UW, w.before _ s = true := fun w h => hts w (List.mem_cons_of_mem _ h)
  unfold f_X8_faultAtIndex at hf
  obtain ⟨H, hH⟩ : ∃ z, z = s.heap := ⟨_, rfl⟩
  obtain ⟨locs, hlo⟩ : ∃ z : List Loc, z = [] := ⟨_, rfl⟩
  have hS : va_S A s.heap H locs := by rw [hH, hlo]; exact hS
  rw [← hH] at hP
  have hW : W p l e (headSpec wsX8_faultAtIndex rmX8_faultAtIndex).room s m ([.ref (bM 0), .int x1] : List Value).toArray below meth c H locs 0 0 (MQ below (qI g A (cM g bM vM) r) ([.ref (bM 0), .int x1] : List Value).toArray s 0 0 A) (F0 m 0 ls []) := by
    refine lv_iload_n hx hb dX8_faultAtIndex_0 rfl (lv_at hl 1 rfl) ?_
    refine lv_bipush (v := (56 : Int32)) hx hb dX8_faultAtIndex_1 (by decide) ?_
    obtain ⟨k2, hk5, hf⟩ := jn_at hf
    have hJ3 : ∀ (t1 : Int32), k2 t1 = some r → ∀ (H : Heap) (locs : List Loc), va_P g.1 vwCl (cM g bM vM) H → va_D A (cM g bM vM) → va_S A s.heap H locs → ∀ ls : Array Slot, lv_has ls 2 [] → W p l e (headSpec wsX8_faultAtIndex rmX8_faultAtIndex).room s m ([.ref (bM 0), .int x1] : List Value).toArray below meth c H locs 0 0 (MQ below (qI g A (cM g bM vM) r) ([.ref (bM 0), .int x1] : List Value).toArray s 0 0 A) (F0 m 11 ls [.int t1]) := by
      intro t1 hf H locs hP hD hS ls hl
      rw [hk5] at hf
      dsimp only at hf
      clear hk5
      have e4 := Option.some.inj hf
      exact k_iret hx hb hr hlocks hK hP hD hS e4 dX8_faultAtIndex_11
    refine lv_icmp_ne (tgt := 10) hx hb dX8_faultAtIndex_3 (by decide) (fun c6 => ?_) (fun c6 => ?_)
    · have hf := it_f hf c6
      refine lv_iload_n hx hb dX8_faultAtIndex_10 rfl (lv_at hl 1 rfl) ?_
      exact hJ3 x1 hf H locs hP hD hS _ (lv_sub hl [] rfl)
    · have hf := it_t hf c6
      refine lv_iconst (v := (-1 : Int32)) hx hb dX8_faultAtIndex_6 (by decide) ?_
      refine lv_goto (tgt := 11) hx hb dX8_faultAtIndex_7 (by decide) ?_
      exact hJ3 (-1 : Int32) hf H locs hP hD hS _ (lv_sub hl [] rfl)
  rw [hH, hlo] at hW
  exact hW
def f_X8_fitting_L110 (vM_8 : Vs) (self17 : Int32 → Int32 → Option (Int32 × Vs)) (x1_15 : Int32) (x2_16 : Int32) : Option (Int32 × Vs) :=
  if (57 : Int32) ≤ x2_16 then some (x1_15, vM_8) else gd (inb x2_16 57) (jn (fun (t24 : Int32) => self17 (x1_15 + t24) (x2_16 + (1 : Int32))) (fun k25 => if (vM_8.2.1 21 (x2_16).toNatClampNeg) = 0 then k25 (0 : Int32) else k25 (1 : Int32)))
def f_X8_fitting_L56 (x1_7 : Int32) (self9 : Int32 → Vs → Option (Int32 × Vs)) (self33 : Int32 → Vs → Option (Int32 × Vs)) (x2_31 : Int32) (vM_32 : Vs) : Option (Int32 × Vs) :=
  if (57 : Int32) ≤ x2_31 then self9 (x1_7 + (1 : Int32)) vM_32 else gd (inb x2_31 57) (jn (fun (vM_38 : Vs) => self33 (x2_31 + (1 : Int32)) vM_38) (fun k39 => if (vM_32.2.1 21 (x2_31).toNatClampNeg) = 0 then k39 vM_32 else o1 (f_X8_faultAtIndex vM_32 x2_31) (fun (r43 : Int32) => o1 (f_X8_bends vM_32 r43) (fun (vM_45 : Vs) => o1 (f_X8_isFit vM_45 x1_7) (fun (r47 : Int32) => gd (inb x2_31 57) (bn (sI vM_45 21 (x2_31).toNatClampNeg (vp_nar .boolean r47)) (fun (vM_50 : Vs) => k39 vM_50)))))))
def f_X8_fitting_L41 (self9 : Int32 → Vs → Option (Int32 × Vs)) (x1_7 : Int32) (vM_8 : Vs) : Option (Int32 × Vs) :=
  o1 (f_X8_tests vM_8) (fun (r12 : Int32) => if r12 ≤ x1_7 then lp (f_X8_fitting_L110 vM_8) (fun _ _ => none) FU (0 : Int32) (0 : Int32) else o1 (f_X8_asksTest vM_8 x1_7) (fun (vM_29 : Vs) => lp (f_X8_fitting_L56 x1_7 self9) (fun _ _ => none) FU (0 : Int32) vM_29))
def f_X8_fitting_L2 (self3 : Int32 → Vs → Option (Int32 × Vs)) (x1_1 : Int32) (vM_2 : Vs) : Option (Int32 × Vs) :=
  if (57 : Int32) ≤ x1_1 then lp f_X8_fitting_L41 (fun _ _ => none) FU (0 : Int32) vM_2 else o1 (f_X8_faults vM_2) (fun (r51 : Int32) => jn (fun (t53 : Int32) => gd (inb x1_1 57) (bn (sI vM_2 21 (x1_1).toNatClampNeg (vp_nar .boolean t53)) (fun (vM_57 : Vs) => self3 (x1_1 + (1 : Int32)) vM_57))) (fun k54 => jn (k54 (1 : Int32)) (fun k59 => if x1_1 < r51 then k59 else if x1_1 = (56 : Int32) then k59 else k54 (0 : Int32))))
def f_X8_fitting (vM : Vs) : Option (Int32 × Vs) :=
  lp f_X8_fitting_L2 (fun _ _ => none) FU (0 : Int32) vM
abbrev wsX8_fitting : List Cond := .code yX8_fitting cX8_fitting 3 (some .int) :: UW
abbrev rmX8_fitting : Room := { frames := 5, cells := 0, slots := 0, locals := 113 }
set_option maxHeartbeats 4000000 in
set_option maxRecDepth 100000 in
theorem c_X8_fitting (l : Launch) (g : Gx) (bM : Nat → Nat) (vM : Vs) (r : Int32) (vM1 : Vs) (hf : f_X8_fitting vM = some (r, vM1)) : CtI l yX8_fitting wsX8_fitting rmX8_fitting g [.ref (bM 0)] (cM g bM vM) (cM g bM vM1) r 0 0 := by
  unfold CtI
  intro sz
  refine Met.ofW (cc := cX8_fitting) (maxL := 3) (ret := (some .int)) (by decide) rfl ?_
  intro p e s m args below meth c s₁ B hml hv
  obtain ⟨rfl, hsz, hP, hK, hD0, hG⟩ := hv
  have hx := B.exec
  have hb := B.bytes
  have hr := B.returns
  have hts := atoms_spec (ws := wsX8_fitting) B.pre
  have hown : s.vm.findClass RX8 = some m.cls := findClass_of_methodNamed B.named
  have hlocks := B.notSynchronized
  subst hsz
  have hD := hD0.self (sz := s.heap.size)
  generalize hAe : va_A (cM g bM vM) s.heap.size = A at hD hG ⊢
  have hA : ∀ q : Nat, s.heap.size ≤ q → A q := fun q h => by rw [← hAe]; exact Or.inr h
  clear hAe hD0
  have hS : va_S A s.heap s.heap [] := va_S.rf
  have hl := lv_entry ([.ref (bM 0)]) (n := 3) (Nat.le_of_ble_eq_true rfl)
  rw [lg_entry_eq]
  generalize (lg_sl ([.ref (bM 0)]) ++ List.replicate (3 - (lg_sl ([.ref (bM 0)])).length) Slot.unset).toArray = ls at hl ⊢
  have hl : lv_has ls 3 [(0, .ref (bM 0))] := hl
  have htu : ∀ w ∈ UW, w.before _ s = true := fun w h => hts w (List.mem_cons_of_mem _ h)
  have k_5_93 := htu _ mw_5_93
  unfold f_X8_fitting at hf
  obtain ⟨H, hH⟩ : ∃ z, z = s.heap := ⟨_, rfl⟩
  obtain ⟨locs, hlo⟩ : ∃ z : List Loc, z = [] := ⟨_, rfl⟩
  have hS : va_S A s.heap H locs := by rw [hH, hlo]; exact hS
  rw [← hH] at hP
  have hW : W p l e (headSpec wsX8_fitting rmX8_fitting).room s m ([.ref (bM 0)] : List Value).toArray below meth c H locs 0 0 (MQ below (qI g A (cM g bM vM1) r) ([.ref (bM 0)] : List Value).toArray s 0 0 A) (F0 m 0 ls []) := by
    refine lv_iconst (v := (0 : Int32)) hx hb dX8_fitting_0 (by decide) ?_
    refine lv_istore_n (lv' := [(1, .int (0 : Int32)), (0, .ref (bM 0))]) hx hb dX8_fitting_1 rfl hl (by decide) rfl (fun ls hl => ?_)
    have hL4 : ∀ (x1_1 : Int32) (vM_2 : Vs), lp f_X8_fitting_L2 (fun _ _ => none) FU x1_1 vM_2 = some (r, vM1) → ∀ (H : Heap) (locs : List Loc), va_P g.1 vwCl (cM g bM vM_2) H → va_D A (cM g bM vM_2) → va_S A s.heap H locs → ∀ ls : Array Slot, lv_has ls 3 [(0, .ref (bM 0)), (1, .int x1_1)] → W p l e (headSpec wsX8_fitting rmX8_fitting).room s m ([.ref (bM 0)] : List Value).toArray below meth c H locs 0 0 (MQ below (qI g A (cM g bM vM1) r) ([.ref (bM 0)] : List Value).toArray s 0 0 A) (F0 m 2 ls []) := by
      refine lp_ind (T := Int32 → Vs → Option (Int32 × Vs)) (fun self3 => ∀ (x1_1 : Int32) (vM_2 : Vs), self3 x1_1 vM_2 = some (r, vM1) → ∀ (H : Heap) (locs : List Loc), va_P g.1 vwCl (cM g bM vM_2) H → va_D A (cM g bM vM_2) → va_S A s.heap H locs → ∀ ls : Array Slot, lv_has ls 3 [(0, .ref (bM 0)), (1, .int x1_1)] → W p l e (headSpec wsX8_fitting rmX8_fitting).room s m ([.ref (bM 0)] : List Value).toArray below meth c H locs 0 0 (MQ below (qI g A (cM g bM vM1) r) ([.ref (bM 0)] : List Value).toArray s 0 0 A) (F0 m 2 ls [])) ?_ ?_ FU
      · intro x1_1 vM_2 hf; cases hf
      · intro self3 ih5 x1_1 vM_2 hf H locs hP hD hS ls hl
        unfold f_X8_fitting_L2 at hf
        refine lv_iload_n hx hb dX8_fitting_2 rfl (lv_at hl 1 rfl) ?_
        refine lv_bipush (v := (57 : Int32)) hx hb dX8_fitting_3 (by decide) ?_
        refine lv_icmp_ge (tgt := 39) hx hb dX8_fitting_5 (by decide) (fun c6 => ?_) (fun c6 => ?_)
        · have hf := it_t hf c6
          refine lv_iconst (v := (0 : Int32)) hx hb dX8_fitting_39 (by decide) ?_
          refine lv_istore_n (lv' := [(1, .int (0 : Int32)), (0, .ref (bM 0))]) hx hb dX8_fitting_40 rfl hl (by decide) rfl (fun ls hl => ?_)
          have hL10 : ∀ (x1_7 : Int32) (vM_8 : Vs), lp f_X8_fitting_L41 (fun _ _ => none) FU x1_7 vM_8 = some (r, vM1) → ∀ (H : Heap) (locs : List Loc), va_P g.1 vwCl (cM g bM vM_8) H → va_D A (cM g bM vM_8) → va_S A s.heap H locs → ∀ ls : Array Slot, lv_has ls 3 [(0, .ref (bM 0)), (1, .int x1_7)] → W p l e (headSpec wsX8_fitting rmX8_fitting).room s m ([.ref (bM 0)] : List Value).toArray below meth c H locs 0 0 (MQ below (qI g A (cM g bM vM1) r) ([.ref (bM 0)] : List Value).toArray s 0 0 A) (F0 m 41 ls []) := by
            refine lp_ind (T := Int32 → Vs → Option (Int32 × Vs)) (fun self9 => ∀ (x1_7 : Int32) (vM_8 : Vs), self9 x1_7 vM_8 = some (r, vM1) → ∀ (H : Heap) (locs : List Loc), va_P g.1 vwCl (cM g bM vM_8) H → va_D A (cM g bM vM_8) → va_S A s.heap H locs → ∀ ls : Array Slot, lv_has ls 3 [(0, .ref (bM 0)), (1, .int x1_7)] → W p l e (headSpec wsX8_fitting rmX8_fitting).room s m ([.ref (bM 0)] : List Value).toArray below meth c H locs 0 0 (MQ below (qI g A (cM g bM vM1) r) ([.ref (bM 0)] : List Value).toArray s 0 0 A) (F0 m 41 ls [])) ?_ ?_ FU
            · intro x1_7 vM_8 hf; cases hf
            · intro self9 ih11 x1_7 vM_8 hf H locs hP hD hS ls hl
              unfold f_X8_fitting_L41 at hf
              refine lv_iload_n hx hb dX8_fitting_41 rfl (lv_at hl 1 rfl) ?_
              refine lv_aload_n hx hb dX8_fitting_42 rfl (lv_at hl 0 rfl) ?_
              obtain ⟨r12, hg13, hf⟩ := o1_at hf
              refine k_viW ⟨hx, hb, hml, hown, htu⟩ hK hP hD hS hA hG (c_X8_tests l g bM vM_8 r12 hg13) (cwV 0 htu (gU_V mw_6_48 hcX8_tests) rfl rfl rfl hdX8_tests ⟨Nat.le_of_ble_eq_true rfl, Nat.le_of_ble_eq_true rfl⟩) (q0 := 0) (ci := 8) (fs := fcM bM vM_8) (q := (RX8, TX8, 23)) rfl rfl rfl (As := []) (rest := [.int x1_7]) rfl rfl hl.1 (Nat.le_of_ble_eq_true rfl) dX8_fitting_43 (k1 := 0) (n1 := 0) rfl rfl ⟨Nat.zero_le _, Nat.zero_le _⟩ (fun H locs hP hD hS => ?_)
              refine lv_icmp_ge (tgt := 106) hx hb dX8_fitting_46 (by decide) (fun c14 => ?_) (fun c14 => ?_)
              · have hf := it_t hf c14
                refine lv_iconst (v := (0 : Int32)) hx hb dX8_fitting_106 (by decide) ?_
                refine lv_istore_n (lv' := [(1, .int (0 : Int32)), (0, .ref (bM 0))]) hx hb dX8_fitting_107 rfl hl (by decide) rfl (fun ls hl => ?_)
                refine lv_iconst (v := (0 : Int32)) hx hb dX8_fitting_108 (by decide) ?_
                refine lv_istore_n (lv' := [(2, .int (0 : Int32)), (1, .int (0 : Int32)), (0, .ref (bM 0))]) hx hb dX8_fitting_109 rfl hl (by decide) rfl (fun ls hl => ?_)
                have hL18 : ∀ (x1_15 : Int32) (x2_16 : Int32), lp (f_X8_fitting_L110 vM_8) (fun _ _ => none) FU x1_15 x2_16 = some (r, vM1) → ∀ (H : Heap) (locs : List Loc), va_P g.1 vwCl (cM g bM vM_8) H → va_D A (cM g bM vM_8) → va_S A s.heap H locs → ∀ ls : Array Slot, lv_has ls 3 [(0, .ref (bM 0)), (1, .int x1_15), (2, .int x2_16)] → W p l e (headSpec wsX8_fitting rmX8_fitting).room s m ([.ref (bM 0)] : List Value).toArray below meth c H locs 0 0 (MQ below (qI g A (cM g bM vM1) r) ([.ref (bM 0)] : List Value).toArray s 0 0 A) (F0 m 110 ls []) := by
                  refine lp_ind (T := Int32 → Int32 → Option (Int32 × Vs)) (fun self17 => ∀ (x1_15 : Int32) (x2_16 : Int32), self17 x1_15 x2_16 = some (r, vM1) → ∀ (H : Heap) (locs : List Loc), va_P g.1 vwCl (cM g bM vM_8) H → va_D A (cM g bM vM_8) → va_S A s.heap H locs → ∀ ls : Array Slot, lv_has ls 3 [(0, .ref (bM 0)), (1, .int x1_15), (2, .int x2_16)] → W p l e (headSpec wsX8_fitting rmX8_fitting).room s m ([.ref (bM 0)] : List Value).toArray below meth c H locs 0 0 (MQ below (qI g A (cM g bM vM1) r) ([.ref (bM 0)] : List Value).toArray s 0 0 A) (F0 m 110 ls [])) ?_ ?_ FU
                  · intro x1_15 x2_16 hf; cases hf
                  · intro self17 ih19 x1_15 x2_16 hf H locs hP hD hS ls hl
                    unfold f_X8_fitting_L110 at hf
                    refine lv_iload_n hx hb dX8_fitting_110 rfl (lv_at hl 2 rfl) ?_
                    refine lv_bipush (v := (57 : Int32)) hx hb dX8_fitting_111 (by decide) ?_
                    refine lv_icmp_ge (tgt := 139) hx hb dX8_fitting_113 (by decide) (fun c20 => ?_) (fun c20 => ?_)
                    · have hf := it_t hf c20
                      refine lv_iload_n hx hb dX8_fitting_139 rfl (lv_at hl 1 rfl) ?_
                      obtain ⟨e21, e22⟩ := kp_2 hf
                      rw [e22] at hP hD
                      exact k_iret hx hb hr hlocks hK hP hD hS e21 dX8_fitting_140
                    · have hf := it_f hf c20
                      refine lv_iload_n hx hb dX8_fitting_116 rfl (lv_at hl 1 rfl) ?_
                      refine lv_aload_n hx hb dX8_fitting_117 rfl (lv_at hl 0 rfl) ?_
                      refine va_get (D := g.1) (ci := 8) (fs := fcM bM vM_8) (v := .ref (bM 22)) (C := RX8) (T := TX8) (N := 23) hx hb htu hinX8 hown hK hP 0 rfl rfl 21 (by decide) k_5_93 (fun _ h9 => h9) rfl dX8_fitting_118 ?_
                      refine lv_iload_n hx hb dX8_fitting_121 rfl (lv_at hl 2 rfl) ?_
                      obtain ⟨h23, hf⟩ := gd_in hf
                      refine va_zald (D := g.1) (f := (vM_8.2.1 21)) hx hb hK hP 12 2 rfl rfl h23 dX8_fitting_122 ?_
                      obtain ⟨k25, hk27, hf⟩ := jn_at hf
                      have hJ26 : ∀ (t24 : Int32), k25 t24 = some (r, vM1) → ∀ (H : Heap) (locs : List Loc), va_P g.1 vwCl (cM g bM vM_8) H → va_D A (cM g bM vM_8) → va_S A s.heap H locs → ∀ ls : Array Slot, lv_has ls 3 [(0, .ref (bM 0)), (2, .int x2_16)] → W p l e (headSpec wsX8_fitting rmX8_fitting).room s m ([.ref (bM 0)] : List Value).toArray below meth c H locs 0 0 (MQ below (qI g A (cM g bM vM1) r) ([.ref (bM 0)] : List Value).toArray s 0 0 A) (F0 m 131 ls [.int t24, .int x1_15]) := by
                        intro t24 hf H locs hP hD hS ls hl
                        rw [hk27] at hf
                        dsimp only at hf
                        clear hk27
                        refine lv_iadd hx hb dX8_fitting_131 ?_
                        refine lv_istore_n (lv' := [(1, .int (x1_15 + t24)), (0, .ref (bM 0)), (2, .int x2_16)]) hx hb dX8_fitting_132 rfl hl (by decide) rfl (fun ls hl => ?_)
                        refine lv_iinc (v := (x2_16 + (1 : Int32))) (lv' := [(2, .int (x2_16 + (1 : Int32))), (1, .int (x1_15 + t24)), (0, .ref (bM 0))]) hx hb dX8_fitting_133 hl (k := 2) rfl rfl (by decide) rfl (fun ls hl => ?_)
                        refine lv_goto (tgt := 110) hx hb dX8_fitting_136 (by decide) ?_
                        exact ih19 (x1_15 + t24) (x2_16 + (1 : Int32)) hf H locs hP hD hS _ (lv_sub hl [2, 1, 0] rfl)
                      refine lv_if_eq (tgt := 130) hx hb dX8_fitting_123 (by decide) (fun c28 => ?_) (fun c28 => ?_)
                      · have hf := it_t hf c28
                        refine lv_iconst (v := (0 : Int32)) hx hb dX8_fitting_130 (by decide) ?_
                        exact hJ26 (0 : Int32) hf H locs hP hD hS _ (lv_sub hl [0, 2] rfl)
                      · have hf := it_f hf c28
                        refine lv_iconst (v := (1 : Int32)) hx hb dX8_fitting_126 (by decide) ?_
                        refine lv_goto (tgt := 131) hx hb dX8_fitting_127 (by decide) ?_
                        exact hJ26 (1 : Int32) hf H locs hP hD hS _ (lv_sub hl [0, 2] rfl)
                exact hL18 (0 : Int32) (0 : Int32) hf H locs hP hD hS _ (lv_sub hl [2, 1, 0] rfl)
              · have hf := it_f hf c14
                refine lv_aload_n hx hb dX8_fitting_49 rfl (lv_at hl 0 rfl) ?_
                refine lv_iload_n hx hb dX8_fitting_50 rfl (lv_at hl 1 rfl) ?_
                obtain ⟨vM_29, hg30, hf⟩ := o1_at hf
                refine k_vvW ⟨hx, hb, hml, hown, htu⟩ hK hP hD hS hA hG (c_X8_asksTest l g bM vM_8 x1_7 vM_29 hg30) (cwV 1 htu (gU_V mw_6_68 hcX8_asksTest) rfl rfl rfl hdX8_asksTest ⟨Nat.le_of_ble_eq_true rfl, Nat.le_of_ble_eq_true rfl⟩) (q0 := 0) (ci := 8) (fs := fcM bM vM_8) (q := (RX8, TX8, 23)) rfl rfl rfl (As := [.int x1_7]) (rest := []) rfl rfl hl.1 (Nat.le_of_ble_eq_true rfl) dX8_fitting_51 (k1 := 0) (n1 := 0) rfl rfl ⟨Nat.zero_le _, Nat.zero_le _⟩ (fun H locs hP hD hS => ?_)
                refine lv_iconst (v := (0 : Int32)) hx hb dX8_fitting_54 (by decide) ?_
                refine lv_istore_n (lv' := [(2, .int (0 : Int32)), (0, .ref (bM 0)), (1, .int x1_7)]) hx hb dX8_fitting_55 rfl hl (by decide) rfl (fun ls hl => ?_)
                have hL34 : ∀ (x2_31 : Int32) (vM_32 : Vs), lp (f_X8_fitting_L56 x1_7 self9) (fun _ _ => none) FU x2_31 vM_32 = some (r, vM1) → ∀ (H : Heap) (locs : List Loc), va_P g.1 vwCl (cM g bM vM_32) H → va_D A (cM g bM vM_32) → va_S A s.heap H locs → ∀ ls : Array Slot, lv_has ls 3 [(0, .ref (bM 0)), (1, .int x1_7), (2, .int x2_31)] → W p l e (headSpec wsX8_fitting rmX8_fitting).room s m ([.ref (bM 0)] : List Value).toArray below meth c H locs 0 0 (MQ below (qI g A (cM g bM vM1) r) ([.ref (bM 0)] : List Value).toArray s 0 0 A) (F0 m 56 ls []) := by
                  refine lp_ind (T := Int32 → Vs → Option (Int32 × Vs)) (fun self33 => ∀ (x2_31 : Int32) (vM_32 : Vs), self33 x2_31 vM_32 = some (r, vM1) → ∀ (H : Heap) (locs : List Loc), va_P g.1 vwCl (cM g bM vM_32) H → va_D A (cM g bM vM_32) → va_S A s.heap H locs → ∀ ls : Array Slot, lv_has ls 3 [(0, .ref (bM 0)), (1, .int x1_7), (2, .int x2_31)] → W p l e (headSpec wsX8_fitting rmX8_fitting).room s m ([.ref (bM 0)] : List Value).toArray below meth c H locs 0 0 (MQ below (qI g A (cM g bM vM1) r) ([.ref (bM 0)] : List Value).toArray s 0 0 A) (F0 m 56 ls [])) ?_ ?_ FU
                  · intro x2_31 vM_32 hf; cases hf
                  · intro self33 ih35 x2_31 vM_32 hf H locs hP hD hS ls hl
                    unfold f_X8_fitting_L56 at hf
                    refine lv_iload_n hx hb dX8_fitting_56 rfl (lv_at hl 2 rfl) ?_
                    refine lv_bipush (v := (57 : Int32)) hx hb dX8_fitting_57 (by decide) ?_
                    refine lv_icmp_ge (tgt := 100) hx hb dX8_fitting_59 (by decide) (fun c36 => ?_) (fun c36 => ?_)
                    · have hf := it_t hf c36
                      refine lv_iinc (v := (x1_7 + (1 : Int32))) (lv' := [(1, .int (x1_7 + (1 : Int32))), (0, .ref (bM 0)), (2, .int x2_31)]) hx hb dX8_fitting_100 hl (k := 1) rfl rfl (by decide) rfl (fun ls hl => ?_)
                      refine lv_goto (tgt := 41) hx hb dX8_fitting_103 (by decide) ?_
                      exact ih11 (x1_7 + (1 : Int32)) vM_32 hf H locs hP hD hS _ (lv_sub hl [1, 0] rfl)
                    · have hf := it_f hf c36
                      refine lv_aload_n hx hb dX8_fitting_62 rfl (lv_at hl 0 rfl) ?_
                      refine va_get (D := g.1) (ci := 8) (fs := fcM bM vM_32) (v := .ref (bM 22)) (C := RX8) (T := TX8) (N := 23) hx hb htu hinX8 hown hK hP 0 rfl rfl 21 (by decide) k_5_93 (fun _ h9 => h9) rfl dX8_fitting_63 ?_
                      refine lv_iload_n hx hb dX8_fitting_66 rfl (lv_at hl 2 rfl) ?_
                      obtain ⟨h37, hf⟩ := gd_in hf
                      refine va_zald (D := g.1) (f := (vM_32.2.1 21)) hx hb hK hP 12 2 rfl rfl h37 dX8_fitting_67 ?_
                      obtain ⟨k39, hk41, hf⟩ := jn_at hf
                      have hJ40 : ∀ (vM_38 : Vs), k39 vM_38 = some (r, vM1) → ∀ (H : Heap) (locs : List Loc), va_P g.1 vwCl (cM g bM vM_38) H → va_D A (cM g bM vM_38) → va_S A s.heap H locs → ∀ ls : Array Slot, lv_has ls 3 [(0, .ref (bM 0)), (1, .int x1_7), (2, .int x2_31)] → W p l e (headSpec wsX8_fitting rmX8_fitting).room s m ([.ref (bM 0)] : List Value).toArray below meth c H locs 0 0 (MQ below (qI g A (cM g bM vM1) r) ([.ref (bM 0)] : List Value).toArray s 0 0 A) (F0 m 94 ls []) := by
                        intro vM_38 hf H locs hP hD hS ls hl
                        rw [hk41] at hf
                        dsimp only at hf
                        clear hk41
                        refine lv_iinc (v := (x2_31 + (1 : Int32))) (lv' := [(2, .int (x2_31 + (1 : Int32))), (0, .ref (bM 0)), (1, .int x1_7)]) hx hb dX8_fitting_94 hl (k := 2) rfl rfl (by decide) rfl (fun ls hl => ?_)
                        refine lv_goto (tgt := 56) hx hb dX8_fitting_97 (by decide) ?_
                        exact ih35 (x2_31 + (1 : Int32)) vM_38 hf H locs hP hD hS _ (lv_sub hl [1, 2, 0] rfl)
                      refine lv_if_ne (tgt := 74) hx hb dX8_fitting_68 (by decide) (fun c42 => ?_) (fun c42 => ?_)
                      · have hf := it_f hf c42
                        refine lv_aload_n hx hb dX8_fitting_74 rfl (lv_at hl 0 rfl) ?_
                        refine lv_aload_n hx hb dX8_fitting_75 rfl (lv_at hl 0 rfl) ?_
                        refine lv_iload_n hx hb dX8_fitting_76 rfl (lv_at hl 2 rfl) ?_
                        obtain ⟨r43, hg44, hf⟩ := o1_at hf
                        refine k_viW ⟨hx, hb, hml, hown, htu⟩ hK hP hD hS hA hG (c_X8_faultAtIndex l g bM vM_32 x2_31 r43 hg44) (cwV 1 htu (gU_V mw_7_5 hcX8_faultAtIndex) rfl rfl rfl hdX8_faultAtIndex ⟨Nat.le_of_ble_eq_true rfl, Nat.le_of_ble_eq_true rfl⟩) (q0 := 0) (ci := 8) (fs := fcM bM vM_32) (q := (RX8, TX8, 23)) rfl rfl rfl (As := [.int x2_31]) (rest := [.ref (bM 0)]) rfl rfl hl.1 (Nat.le_of_ble_eq_true rfl) dX8_fitting_77 (k1 := 0) (n1 := 0) rfl rfl ⟨Nat.zero_le _, Nat.zero_le _⟩ (fun H locs hP hD hS => ?_)
                        obtain ⟨vM_45, hg46, hf⟩ := o1_at hf
                        refine k_vvW ⟨hx, hb, hml, hown, htu⟩ hK hP hD hS hA hG (c_X8_bends l g bM vM_32 r43 vM_45 hg46) (cwV 1 htu (gU_V mw_6_102 hcX8_bends) rfl rfl rfl hdX8_bends ⟨Nat.le_of_ble_eq_true rfl, Nat.le_of_ble_eq_true rfl⟩) (q0 := 0) (ci := 8) (fs := fcM bM vM_32) (q := (RX8, TX8, 23)) rfl rfl rfl (As := [.int r43]) (rest := []) rfl rfl hl.1 (Nat.le_of_ble_eq_true rfl) dX8_fitting_80 (k1 := 0) (n1 := 0) rfl rfl ⟨Nat.zero_le _, Nat.zero_le _⟩ (fun H locs hP hD hS => ?_)
                        refine lv_aload_n hx hb dX8_fitting_83 rfl (lv_at hl 0 rfl) ?_
                        refine va_get (D := g.1) (ci := 8) (fs := fcM bM vM_45) (v := .ref (bM 22)) (C := RX8) (T := TX8) (N := 23) hx hb htu hinX8 hown hK hP 0 rfl rfl 21 (by decide) k_5_93 (fun _ h9 => h9) rfl dX8_fitting_84 ?_
                        refine lv_iload_n hx hb dX8_fitting_87 rfl (lv_at hl 2 rfl) ?_
                        refine lv_aload_n hx hb dX8_fitting_88 rfl (lv_at hl 0 rfl) ?_
                        refine lv_iload_n hx hb dX8_fitting_89 rfl (lv_at hl 1 rfl) ?_
                        obtain ⟨r47, hg48, hf⟩ := o1_at hf
                        refine k_viW ⟨hx, hb, hml, hown, htu⟩ hK hP hD hS hA hG (c_X8_isFit l g bM vM_45 x1_7 r47 hg48) (cwV 1 htu (gU_V mw_7_9 hcX8_isFit) rfl rfl rfl hdX8_isFit ⟨Nat.le_of_ble_eq_true rfl, Nat.le_of_ble_eq_true rfl⟩) (q0 := 0) (ci := 8) (fs := fcM bM vM_45) (q := (RX8, TX8, 23)) rfl rfl rfl (As := [.int x1_7]) (rest := [.int x2_31, .ref (bM 22)]) rfl rfl hl.1 (Nat.le_of_ble_eq_true rfl) dX8_fitting_90 (k1 := 0) (n1 := 0) rfl rfl ⟨Nat.zero_le _, Nat.zero_le _⟩ (fun H locs hP hD hS => ?_)
                        obtain ⟨h49, hf⟩ := gd_in hf
                        refine va_zast (D := g.1) (f := (vM_45.2.1 21)) hx hb hK hP hD hS 12 2 rfl rfl h49 dX8_fitting_93 (fun H locs hP hD hS => ?_)
                        obtain ⟨vM_50, evM_50⟩ : ∃ z, z = sI vM_45 21 (x2_31).toNatClampNeg (vp_nar .boolean r47) := ⟨_, rfl⟩
                        have hf := bn_at hf evM_50
                        have hP : va_P g.1 vwCl (cM g bM vM_50) H := by rw [evM_50]; exact hP
                        have hD : va_D A (cM g bM vM_50) := by rw [evM_50]; exact hD
                        exact hJ40 vM_50 hf H locs hP hD hS _ (lv_sub hl [0, 1, 2] rfl)
                      · have hf := it_t hf c42
                        refine lv_goto (tgt := 94) hx hb dX8_fitting_71 (by decide) ?_
                        exact hJ40 vM_32 hf H locs hP hD hS _ (lv_sub hl [0, 1, 2] rfl)
                exact hL34 (0 : Int32) vM_29 hf H locs hP hD hS _ (lv_sub hl [1, 2, 0] rfl)
          exact hL10 (0 : Int32) vM_2 hf H locs hP hD hS _ (lv_sub hl [1, 0] rfl)
        · have hf := it_f hf c6
          refine lv_aload_n hx hb dX8_fitting_8 rfl (lv_at hl 0 rfl) ?_
          refine va_get (D := g.1) (ci := 8) (fs := fcM bM vM_2) (v := .ref (bM 22)) (C := RX8) (T := TX8) (N := 23) hx hb htu hinX8 hown hK hP 0 rfl rfl 21 (by decide) k_5_93 (fun _ h9 => h9) rfl dX8_fitting_9 ?_
          refine lv_iload_n hx hb dX8_fitting_12 rfl (lv_at hl 1 rfl) ?_
          refine lv_iload_n hx hb dX8_fitting_13 rfl (lv_at hl 1 rfl) ?_
          refine lv_aload_n hx hb dX8_fitting_14 rfl (lv_at hl 0 rfl) ?_
          obtain ⟨r51, hg52, hf⟩ := o1_at hf
          refine k_viW ⟨hx, hb, hml, hown, htu⟩ hK hP hD hS hA hG (c_X8_faults l g bM vM_2 r51 hg52) (cwV 0 htu (gU_V mw_6_44 hcX8_faults) rfl rfl rfl hdX8_faults ⟨Nat.le_of_ble_eq_true rfl, Nat.le_of_ble_eq_true rfl⟩) (q0 := 0) (ci := 8) (fs := fcM bM vM_2) (q := (RX8, TX8, 23)) rfl rfl rfl (As := []) (rest := [.int x1_1, .int x1_1, .ref (bM 22)]) rfl rfl hl.1 (Nat.le_of_ble_eq_true rfl) dX8_fitting_15 (k1 := 0) (n1 := 0) rfl rfl ⟨Nat.zero_le _, Nat.zero_le _⟩ (fun H locs hP hD hS => ?_)
          obtain ⟨k54, hk58, hf⟩ := jn_at hf
          have hJ55 : ∀ (t53 : Int32), k54 t53 = some (r, vM1) → ∀ (H : Heap) (locs : List Loc), va_P g.1 vwCl (cM g bM vM_2) H → va_D A (cM g bM vM_2) → va_S A s.heap H locs → ∀ ls : Array Slot, lv_has ls 3 [(0, .ref (bM 0)), (1, .int x1_1)] → W p l e (headSpec wsX8_fitting rmX8_fitting).room s m ([.ref (bM 0)] : List Value).toArray below meth c H locs 0 0 (MQ below (qI g A (cM g bM vM1) r) ([.ref (bM 0)] : List Value).toArray s 0 0 A) (F0 m 32 ls [.int t53, .int x1_1, .ref (bM 22)]) := by
            intro t53 hf H locs hP hD hS ls hl
            rw [hk58] at hf
            dsimp only at hf
            clear hk58
            obtain ⟨h56, hf⟩ := gd_in hf
            refine va_zast (D := g.1) (f := (vM_2.2.1 21)) hx hb hK hP hD hS 12 2 rfl rfl h56 dX8_fitting_32 (fun H locs hP hD hS => ?_)
            obtain ⟨vM_57, evM_57⟩ : ∃ z, z = sI vM_2 21 (x1_1).toNatClampNeg (vp_nar .boolean t53) := ⟨_, rfl⟩
            have hf := bn_at hf evM_57
            have hP : va_P g.1 vwCl (cM g bM vM_57) H := by rw [evM_57]; exact hP
            have hD : va_D A (cM g bM vM_57) := by rw [evM_57]; exact hD
            refine lv_iinc (v := (x1_1 + (1 : Int32))) (lv' := [(1, .int (x1_1 + (1 : Int32))), (0, .ref (bM 0))]) hx hb dX8_fitting_33 hl (k := 1) rfl rfl (by decide) rfl (fun ls hl => ?_)
            refine lv_goto (tgt := 2) hx hb dX8_fitting_36 (by decide) ?_
            exact ih5 (x1_1 + (1 : Int32)) vM_57 hf H locs hP hD hS _ (lv_sub hl [1, 0] rfl)
          obtain ⟨k59, hk61, hf⟩ := jn_at hf
          have hJ60 : k59 = some (r, vM1) → ∀ (H : Heap) (locs : List Loc), va_P g.1 vwCl (cM g bM vM_2) H → va_D A (cM g bM vM_2) → va_S A s.heap H locs → ∀ ls : Array Slot, lv_has ls 3 [(0, .ref (bM 0)), (1, .int x1_1)] → W p l e (headSpec wsX8_fitting rmX8_fitting).room s m ([.ref (bM 0)] : List Value).toArray below meth c H locs 0 0 (MQ below (qI g A (cM g bM vM1) r) ([.ref (bM 0)] : List Value).toArray s 0 0 A) (F0 m 27 ls [.int x1_1, .ref (bM 22)]) := by
            intro hf H locs hP hD hS ls hl
            rw [hk61] at hf
            clear hk61
            refine lv_iconst (v := (1 : Int32)) hx hb dX8_fitting_27 (by decide) ?_
            refine lv_goto (tgt := 32) hx hb dX8_fitting_28 (by decide) ?_
            exact hJ55 (1 : Int32) hf H locs hP hD hS _ (lv_sub hl [0, 1] rfl)
          refine lv_icmp_lt (tgt := 27) hx hb dX8_fitting_18 (by decide) (fun c62 => ?_) (fun c62 => ?_)
          · have hf := it_t hf c62
            exact hJ60 hf H locs hP hD hS _ (lv_sub hl [0, 1] rfl)
          · have hf := it_f hf c62
            refine lv_iload_n hx hb dX8_fitting_21 rfl (lv_at hl 1 rfl) ?_
            refine lv_bipush (v := (56 : Int32)) hx hb dX8_fitting_22 (by decide) ?_
            refine lv_icmp_ne (tgt := 31) hx hb dX8_fitting_24 (by decide) (fun c63 => ?_) (fun c63 => ?_)
            · have hf := it_f hf c63
              refine lv_iconst (v := (0 : Int32)) hx hb dX8_fitting_31 (by decide) ?_
              exact hJ55 (0 : Int32) hf H locs hP hD hS _ (lv_sub hl [0, 1] rfl)
            · have hf := it_t hf c63
              exact hJ60 hf H locs hP hD hS _ (lv_sub hl [0, 1] rfl)
    exact hL4 (0 : Int32) vM hf H locs hP hD hS _ (lv_sub hl [1, 0] rfl)
  rw [hH, hlo] at hW
  exact hW
def f_X8_suspects (vM : Vs) : Option (Int32 × Vs) :=
  bn (sF vM 0 (0 : Int32)) (fun (vM_1 : Vs) => o2 (f_X8_fitting vM_1) (fun (r2 : Int32) (vM_3 : Vs) => some (r2, vM_3)))
abbrev wsX8_suspects : List Cond := .code yX8_suspects cX8_suspects 1 (some .int) :: UW
abbrev rmX8_suspects : Room := { frames := 6, cells := 0, slots := 0, locals := 135 }
set_option maxHeartbeats 4000000 in
set_option maxRecDepth 100000 in
theorem c_X8_suspects (l : Launch) (g : Gx) (bM : Nat → Nat) (vM : Vs) (r : Int32) (vM1 : Vs) (hf : f_X8_suspects vM = some (r, vM1)) : CtI l yX8_suspects wsX8_suspects rmX8_suspects g [.ref (bM 0)] (cM g bM vM) (cM g bM vM1) r 0 0 := by
  unfold CtI
  intro sz
  refine Met.ofW (cc := cX8_suspects) (maxL := 1) (ret := (some .int)) (by decide) rfl ?_
  intro p e s m args below meth c s₁ B hml hv
  obtain ⟨rfl, hsz, hP, hK, hD0, hG⟩ := hv
  have hx := B.exec
  have hb := B.bytes
  have hr := B.returns
  have hts := atoms_spec (ws := wsX8_suspects) B.pre
  have hown : s.vm.findClass RX8 = some m.cls := findClass_of_methodNamed B.named
  have hlocks := B.notSynchronized
  subst hsz
  have hD := hD0.self (sz := s.heap.size)
  generalize hAe : va_A (cM g bM vM) s.heap.size = A at hD hG ⊢
  have hA : ∀ q : Nat, s.heap.size ≤ q → A q := fun q h => by rw [← hAe]; exact Or.inr h
  clear hAe hD0
  have hS : va_S A s.heap s.heap [] := va_S.rf
  have hl := lv_entry ([.ref (bM 0)]) (n := 1) (Nat.le_of_ble_eq_true rfl)
  rw [lg_entry_eq]
  generalize (lg_sl ([.ref (bM 0)]) ++ List.replicate (1 - (lg_sl ([.ref (bM 0)])).length) Slot.unset).toArray = ls at hl ⊢
  have hl : lv_has ls 1 [(0, .ref (bM 0))] := hl
  have htu : ∀ w ∈ UW, w.before _ s = true := fun w h => hts w (List.mem_cons_of_mem _ h)
  have k_5_72 := htu _ mw_5_72
  unfold f_X8_suspects at hf
  obtain ⟨H, hH⟩ : ∃ z, z = s.heap := ⟨_, rfl⟩
  obtain ⟨locs, hlo⟩ : ∃ z : List Loc, z = [] := ⟨_, rfl⟩
  have hS : va_S A s.heap H locs := by rw [hH, hlo]; exact hS
  rw [← hH] at hP
  have hW : W p l e (headSpec wsX8_suspects rmX8_suspects).room s m ([.ref (bM 0)] : List Value).toArray below meth c H locs 0 0 (MQ below (qI g A (cM g bM vM1) r) ([.ref (bM 0)] : List Value).toArray s 0 0 A) (F0 m 0 ls []) := by
    refine lv_aload_n hx hb dX8_suspects_0 rfl (lv_at hl 0 rfl) ?_
    refine lv_iconst (v := (0 : Int32)) hx hb dX8_suspects_1 (by decide) ?_
    refine va_put (D := g.1) (ci := 8) (fs := fcM bM vM) (v := .int (0 : Int32)) (ty := .int) (C := RX8) (T := TX8) (N := 23) hx hb htu hinX8 tyX8 tyX8_ok nmX8 hown hK hP hD hS 0 rfl rfl 0 (by decide) k_5_72 (fun _ h9 => h9) rfl (by decide +kernel) rfl rfl (Nat.le_of_ble_eq_true rfl) dX8_suspects_2 (fun H locs hP hD hS => ?_)
    obtain ⟨vM_1, evM_1⟩ : ∃ z, z = sF vM 0 (0 : Int32) := ⟨_, rfl⟩
    have hf := bn_at hf evM_1
    have hP : va_P g.1 vwCl (cM g bM vM_1) H := by rw [evM_1]; exact hP
    have hD : va_D A (cM g bM vM_1) := by rw [evM_1]; exact hD
    refine lv_aload_n hx hb dX8_suspects_5 rfl (lv_at hl 0 rfl) ?_
    obtain ⟨r2, vM_3, hg4, hf⟩ := o2_at hf
    refine k_viW ⟨hx, hb, hml, hown, htu⟩ hK hP hD hS hA hG (c_X8_fitting l g bM vM_1 r2 vM_3 hg4) (cwV 0 htu (gU_V mw_7_1 hcX8_fitting) rfl rfl rfl hdX8_fitting ⟨Nat.le_of_ble_eq_true rfl, Nat.le_of_ble_eq_true rfl⟩) (q0 := 0) (ci := 8) (fs := fcM bM vM_1) (q := (RX8, TX8, 23)) rfl rfl rfl (As := []) (rest := []) rfl rfl hl.1 (Nat.le_of_ble_eq_true rfl) dX8_suspects_6 (k1 := 0) (n1 := 0) rfl rfl ⟨Nat.zero_le _, Nat.zero_le _⟩ (fun H locs hP hD hS => ?_)
    obtain ⟨e5, e6⟩ := kp_2 hf
    rw [e6] at hP hD
    exact k_iret hx hb hr hlocks hK hP hD hS e5 dX8_suspects_9
  rw [hH, hlo] at hW
  exact hW
def f_X8_suspect_L55 (vM_8 : Vs) (self18 : Int32 → Int32 → Option (Int32 × Vs)) (x3_16 : Int32) (x4_17 : Int32) : Option (Int32 × Vs) :=
  gd (inb x4_17 57) (jn (gd (inb x4_17 57) (jn (fun (t25 : Int32) => self18 (x3_16 - t25) (x4_17 + (1 : Int32))) (fun k26 => if (vM_8.2.1 21 (x4_17).toNatClampNeg) = 0 then k26 (0 : Int32) else k26 (1 : Int32)))) (fun k22 => if (vM_8.2.1 21 (x4_17).toNatClampNeg) = 0 then k22 else if x3_16 ≤ 0 then some (x4_17, vM_8) else k22))
def f_X8_suspect (vM : Vs) (x1 : Int32) : Option (Int32 × Vs) :=
  bn (sF vM 0 (0 : Int32)) (fun (vM_1 : Vs) => o2 (f_X8_fitting vM_1) (fun (r2 : Int32) (vM_3 : Vs) => o1 (f_X8_isIn x1 (0 : Int32) (r2 - (1 : Int32))) (fun (r5 : Int32) => o2 (f_X8_right vM_3 r5 (1 : Int32)) (fun (r7 : Int32) (vM_8 : Vs) => if r7 = 0 then some ((0 : Int32), vM_8) else gd (inb (56 : Int32) 57) (jn (fun (t12 : Int32) => if 0 ≤ t12 then lp (f_X8_suspect_L55 vM_8) (fun _ _ => none) FU t12 (0 : Int32) else some ((-1 : Int32), vM_8)) (fun k13 => if (vM_8.2.1 21 ((56 : Int32)).toNatClampNeg) = 0 then k13 x1 else k13 (x1 - (1 : Int32))))))))
abbrev wsX8_suspect : List Cond := .code yX8_suspect cX8_suspect 5 (some .int) :: UW
abbrev rmX8_suspect : Room := { frames := 6, cells := 0, slots := 0, locals := 135 }
set_option maxHeartbeats 4000000 in
set_option maxRecDepth 100000 in
theorem c_X8_suspect (l : Launch) (g : Gx) (bM : Nat → Nat) (vM : Vs) (x1 : Int32) (r : Int32) (vM1 : Vs) (hf : f_X8_suspect vM x1 = some (r, vM1)) : CtI l yX8_suspect wsX8_suspect rmX8_suspect g [.ref (bM 0), .int x1] (cM g bM vM) (cM g bM vM1) r 0 0 := by
  unfold CtI
  intro sz
  refine Met.ofW (cc := cX8_suspect) (maxL := 5) (ret := (some .int)) (by decide) rfl ?_
  intro p e s m args below meth c s₁ B hml hv
  obtain ⟨rfl, hsz, hP, hK, hD0, hG⟩ := hv
  have hx := B.exec
  have hb := B.bytes
  have hr := B.returns
  have hts := atoms_spec (ws := wsX8_suspect) B.pre
  have hown : s.vm.findClass RX8 = some m.cls := findClass_of_methodNamed B.named
  have hlocks := B.notSynchronized
  subst hsz
  have hD := hD0.self (sz := s.heap.size)
  generalize hAe : va_A (cM g bM vM) s.heap.size = A at hD hG ⊢
  have hA : ∀ q : Nat, s.heap.size ≤ q → A q := fun q h => by rw [← hAe]; exact Or.inr h
  clear hAe hD0
  have hS : va_S A s.heap s.heap [] := va_S.rf
  have hl := lv_entry ([.ref (bM 0), .int x1]) (n := 5) (Nat.le_of_ble_eq_true rfl)
  rw [lg_entry_eq]
  generalize (lg_sl ([.ref (bM 0), .int x1]) ++ List.replicate (5 - (lg_sl ([.ref (bM 0), .int x1])).length) Slot.unset).toArray = ls at hl ⊢
  have hl : lv_has ls 5 [(0, .ref (bM 0)), (1, .int x1)] := hl
  have htu : ∀ w ∈ UW, w.before _ s = true := fun w h => hts w (List.mem_cons_of_mem _ h)
  have k_5_72 := htu _ mw_5_72
  have k_5_93 := htu _ mw_5_93
  unfold f_X8_suspect at hf
  obtain ⟨H, hH⟩ : ∃ z, z = s.heap := ⟨_, rfl⟩
  obtain ⟨locs, hlo⟩ : ∃ z : List Loc, z = [] := ⟨_, rfl⟩
  have hS : va_S A s.heap H locs := by rw [hH, hlo]; exact hS
  rw [← hH] at hP
  have hW : W p l e (headSpec wsX8_suspect rmX8_suspect).room s m ([.ref (bM 0), .int x1] : List Value).toArray below meth c H locs 0 0 (MQ below (qI g A (cM g bM vM1) r) ([.ref (bM 0), .int x1] : List Value).toArray s 0 0 A) (F0 m 0 ls []) := by
    refine lv_aload_n hx hb dX8_suspect_0 rfl (lv_at hl 0 rfl) ?_
    refine lv_iconst (v := (0 : Int32)) hx hb dX8_suspect_1 (by decide) ?_
    refine va_put (D := g.1) (ci := 8) (fs := fcM bM vM) (v := .int (0 : Int32)) (ty := .int) (C := RX8) (T := TX8) (N := 23) hx hb htu hinX8 tyX8 tyX8_ok nmX8 hown hK hP hD hS 0 rfl rfl 0 (by decide) k_5_72 (fun _ h9 => h9) rfl (by decide +kernel) rfl rfl (Nat.le_of_ble_eq_true rfl) dX8_suspect_2 (fun H locs hP hD hS => ?_)
    obtain ⟨vM_1, evM_1⟩ : ∃ z, z = sF vM 0 (0 : Int32) := ⟨_, rfl⟩
    have hf := bn_at hf evM_1
    have hP : va_P g.1 vwCl (cM g bM vM_1) H := by rw [evM_1]; exact hP
    have hD : va_D A (cM g bM vM_1) := by rw [evM_1]; exact hD
    refine lv_aload_n hx hb dX8_suspect_5 rfl (lv_at hl 0 rfl) ?_
    obtain ⟨r2, vM_3, hg4, hf⟩ := o2_at hf
    refine k_viW ⟨hx, hb, hml, hown, htu⟩ hK hP hD hS hA hG (c_X8_fitting l g bM vM_1 r2 vM_3 hg4) (cwV 0 htu (gU_V mw_7_1 hcX8_fitting) rfl rfl rfl hdX8_fitting ⟨Nat.le_of_ble_eq_true rfl, Nat.le_of_ble_eq_true rfl⟩) (q0 := 0) (ci := 8) (fs := fcM bM vM_1) (q := (RX8, TX8, 23)) rfl rfl rfl (As := []) (rest := []) rfl rfl hl.1 (Nat.le_of_ble_eq_true rfl) dX8_suspect_6 (k1 := 0) (n1 := 0) rfl rfl ⟨Nat.zero_le _, Nat.zero_le _⟩ (fun H locs hP hD hS => ?_)
    refine lv_istore_n (lv' := [(2, .int r2), (0, .ref (bM 0)), (1, .int x1)]) hx hb dX8_suspect_9 rfl hl (by decide) rfl (fun ls hl => ?_)
    refine lv_aload_n hx hb dX8_suspect_10 rfl (lv_at hl 1 rfl) ?_
    refine lv_iload_n hx hb dX8_suspect_11 rfl (lv_at hl 2 rfl) ?_
    refine lv_iconst (v := (0 : Int32)) hx hb dX8_suspect_12 (by decide) ?_
    refine lv_iload_n hx hb dX8_suspect_13 rfl (lv_at hl 0 rfl) ?_
    refine lv_iconst (v := (1 : Int32)) hx hb dX8_suspect_14 (by decide) ?_
    refine lv_isub hx hb dX8_suspect_15 ?_
    obtain ⟨r5, hg6, hf⟩ := o1_at hf
    refine k_si0 ⟨hx, hb, hml, hown, htu⟩ hK hP hD hS hA hG (c_X8_isIn l g x1 (0 : Int32) (r2 - (1 : Int32)) r5 hg6) (va_cwS 3 htu (gU_S mw_5_163 hcX8_isIn) rfl rfl rfl hdX8_isIn ⟨Nat.le_of_ble_eq_true rfl, Nat.le_of_ble_eq_true rfl⟩) (As := [.int x1, .int (0 : Int32), .int (r2 - (1 : Int32))]) (rest := [.ref (bM 0)]) rfl rfl hl.1 (Nat.le_of_ble_eq_true rfl) dX8_suspect_16 (k1 := 0) (n1 := 0) rfl rfl ⟨Nat.zero_le _, Nat.zero_le _⟩ (fun H locs hP hD hS => ?_)
    refine lv_iconst (v := (1 : Int32)) hx hb dX8_suspect_19 (by decide) ?_
    obtain ⟨r7, vM_8, hg9, hf⟩ := o2_at hf
    refine k_viW ⟨hx, hb, hml, hown, htu⟩ hK hP hD hS hA hG (c_X8_right l g bM vM_3 r5 (1 : Int32) r7 vM_8 hg9) (cwV 2 htu (gU_V mw_5_166 hcX8_right) rfl rfl rfl hdX8_right ⟨Nat.le_of_ble_eq_true rfl, Nat.le_of_ble_eq_true rfl⟩) (q0 := 0) (ci := 8) (fs := fcM bM vM_3) (q := (RX8, TX8, 23)) rfl rfl rfl (As := [.int r5, .int (1 : Int32)]) (rest := []) rfl rfl hl.1 (Nat.le_of_ble_eq_true rfl) dX8_suspect_20 (k1 := 0) (n1 := 0) rfl rfl ⟨Nat.zero_le _, Nat.zero_le _⟩ (fun H locs hP hD hS => ?_)
    refine lv_if_ne (tgt := 28) hx hb dX8_suspect_23 (by decide) (fun c10 => ?_) (fun c10 => ?_)
    · have hf := it_f hf c10
      refine lv_aload_n hx hb dX8_suspect_28 rfl (lv_at hl 1 rfl) ?_
      refine va_get (D := g.1) (ci := 8) (fs := fcM bM vM_8) (v := .ref (bM 22)) (C := RX8) (T := TX8) (N := 23) hx hb htu hinX8 hown hK hP 0 rfl rfl 21 (by decide) k_5_93 (fun _ h9 => h9) rfl dX8_suspect_29 ?_
      refine lv_bipush (v := (56 : Int32)) hx hb dX8_suspect_32 (by decide) ?_
      obtain ⟨h11, hf⟩ := gd_in hf
      refine va_zald (D := g.1) (f := (vM_8.2.1 21)) hx hb hK hP 12 2 rfl rfl h11 dX8_suspect_34 ?_
      obtain ⟨k13, hk37, hf⟩ := jn_at hf
      have hJ14 : ∀ (t12 : Int32), k13 t12 = some (r, vM1) → ∀ (H : Heap) (locs : List Loc), va_P g.1 vwCl (cM g bM vM_8) H → va_D A (cM g bM vM_8) → va_S A s.heap H locs → ∀ ls : Array Slot, lv_has ls 5 [(0, .ref (bM 0))] → W p l e (headSpec wsX8_suspect rmX8_suspect).room s m ([.ref (bM 0), .int x1] : List Value).toArray below meth c H locs 0 0 (MQ below (qI g A (cM g bM vM1) r) ([.ref (bM 0), .int x1] : List Value).toArray s 0 0 A) (F0 m 45 ls [.int t12]) := by
        intro t12 hf H locs hP hD hS ls hl
        rw [hk37] at hf
        dsimp only at hf
        clear hk37
        refine lv_istore_n (lv' := [(3, .int t12), (0, .ref (bM 0))]) hx hb dX8_suspect_45 rfl hl (by decide) rfl (fun ls hl => ?_)
        refine lv_iload_n hx hb dX8_suspect_46 rfl (lv_at hl 0 rfl) ?_
        refine lv_if_ge (tgt := 52) hx hb dX8_suspect_47 (by decide) (fun c15 => ?_) (fun c15 => ?_)
        · have hf := it_t hf c15
          refine lv_iconst (v := (0 : Int32)) hx hb dX8_suspect_52 (by decide) ?_
          refine lv_istore (lv' := [(4, .int (0 : Int32)), (3, .int t12), (0, .ref (bM 0))]) hx hb dX8_suspect_53 hl (by decide) rfl (fun ls hl => ?_)
          have hL19 : ∀ (x3_16 : Int32) (x4_17 : Int32), lp (f_X8_suspect_L55 vM_8) (fun _ _ => none) FU x3_16 x4_17 = some (r, vM1) → ∀ (H : Heap) (locs : List Loc), va_P g.1 vwCl (cM g bM vM_8) H → va_D A (cM g bM vM_8) → va_S A s.heap H locs → ∀ ls : Array Slot, lv_has ls 5 [(0, .ref (bM 0)), (3, .int x3_16), (4, .int x4_17)] → W p l e (headSpec wsX8_suspect rmX8_suspect).room s m ([.ref (bM 0), .int x1] : List Value).toArray below meth c H locs 0 0 (MQ below (qI g A (cM g bM vM1) r) ([.ref (bM 0), .int x1] : List Value).toArray s 0 0 A) (F0 m 55 ls []) := by
            refine lp_ind (T := Int32 → Int32 → Option (Int32 × Vs)) (fun self18 => ∀ (x3_16 : Int32) (x4_17 : Int32), self18 x3_16 x4_17 = some (r, vM1) → ∀ (H : Heap) (locs : List Loc), va_P g.1 vwCl (cM g bM vM_8) H → va_D A (cM g bM vM_8) → va_S A s.heap H locs → ∀ ls : Array Slot, lv_has ls 5 [(0, .ref (bM 0)), (3, .int x3_16), (4, .int x4_17)] → W p l e (headSpec wsX8_suspect rmX8_suspect).room s m ([.ref (bM 0), .int x1] : List Value).toArray below meth c H locs 0 0 (MQ below (qI g A (cM g bM vM1) r) ([.ref (bM 0), .int x1] : List Value).toArray s 0 0 A) (F0 m 55 ls [])) ?_ ?_ FU
            · intro x3_16 x4_17 hf; cases hf
            · intro self18 ih20 x3_16 x4_17 hf H locs hP hD hS ls hl
              unfold f_X8_suspect_L55 at hf
              refine lv_aload_n hx hb dX8_suspect_55 rfl (lv_at hl 0 rfl) ?_
              refine va_get (D := g.1) (ci := 8) (fs := fcM bM vM_8) (v := .ref (bM 22)) (C := RX8) (T := TX8) (N := 23) hx hb htu hinX8 hown hK hP 0 rfl rfl 21 (by decide) k_5_93 (fun _ h9 => h9) rfl dX8_suspect_56 ?_
              refine lv_iload hx hb dX8_suspect_59 (lv_at hl 2 rfl) ?_
              obtain ⟨h21, hf⟩ := gd_in hf
              refine va_zald (D := g.1) (f := (vM_8.2.1 21)) hx hb hK hP 12 2 rfl rfl h21 dX8_suspect_61 ?_
              obtain ⟨k22, hk30, hf⟩ := jn_at hf
              have hJ23 : k22 = some (r, vM1) → ∀ (H : Heap) (locs : List Loc), va_P g.1 vwCl (cM g bM vM_8) H → va_D A (cM g bM vM_8) → va_S A s.heap H locs → ∀ ls : Array Slot, lv_has ls 5 [(0, .ref (bM 0)), (3, .int x3_16), (4, .int x4_17)] → W p l e (headSpec wsX8_suspect rmX8_suspect).room s m ([.ref (bM 0), .int x1] : List Value).toArray below meth c H locs 0 0 (MQ below (qI g A (cM g bM vM1) r) ([.ref (bM 0), .int x1] : List Value).toArray s 0 0 A) (F0 m 69 ls []) := by
                intro hf H locs hP hD hS ls hl
                rw [hk30] at hf
                clear hk30
                refine lv_iload_n hx hb dX8_suspect_69 rfl (lv_at hl 1 rfl) ?_
                refine lv_aload_n hx hb dX8_suspect_70 rfl (lv_at hl 0 rfl) ?_
                refine va_get (D := g.1) (ci := 8) (fs := fcM bM vM_8) (v := .ref (bM 22)) (C := RX8) (T := TX8) (N := 23) hx hb htu hinX8 hown hK hP 0 rfl rfl 21 (by decide) k_5_93 (fun _ h9 => h9) rfl dX8_suspect_71 ?_
                refine lv_iload hx hb dX8_suspect_74 (lv_at hl 2 rfl) ?_
                obtain ⟨h24, hf⟩ := gd_in hf
                refine va_zald (D := g.1) (f := (vM_8.2.1 21)) hx hb hK hP 12 2 rfl rfl h24 dX8_suspect_76 ?_
                obtain ⟨k26, hk28, hf⟩ := jn_at hf
                have hJ27 : ∀ (t25 : Int32), k26 t25 = some (r, vM1) → ∀ (H : Heap) (locs : List Loc), va_P g.1 vwCl (cM g bM vM_8) H → va_D A (cM g bM vM_8) → va_S A s.heap H locs → ∀ ls : Array Slot, lv_has ls 5 [(0, .ref (bM 0)), (4, .int x4_17)] → W p l e (headSpec wsX8_suspect rmX8_suspect).room s m ([.ref (bM 0), .int x1] : List Value).toArray below meth c H locs 0 0 (MQ below (qI g A (cM g bM vM1) r) ([.ref (bM 0), .int x1] : List Value).toArray s 0 0 A) (F0 m 85 ls [.int t25, .int x3_16]) := by
                  intro t25 hf H locs hP hD hS ls hl
                  rw [hk28] at hf
                  dsimp only at hf
                  clear hk28
                  refine lv_isub hx hb dX8_suspect_85 ?_
                  refine lv_istore_n (lv' := [(3, .int (x3_16 - t25)), (0, .ref (bM 0)), (4, .int x4_17)]) hx hb dX8_suspect_86 rfl hl (by decide) rfl (fun ls hl => ?_)
                  refine lv_iinc (v := (x4_17 + (1 : Int32))) (lv' := [(4, .int (x4_17 + (1 : Int32))), (3, .int (x3_16 - t25)), (0, .ref (bM 0))]) hx hb dX8_suspect_87 hl (k := 2) rfl rfl (by decide) rfl (fun ls hl => ?_)
                  refine lv_goto (tgt := 55) hx hb dX8_suspect_90 (by decide) ?_
                  exact ih20 (x3_16 - t25) (x4_17 + (1 : Int32)) hf H locs hP hD hS _ (lv_sub hl [2, 1, 0] rfl)
                refine lv_if_eq (tgt := 84) hx hb dX8_suspect_77 (by decide) (fun c29 => ?_) (fun c29 => ?_)
                · have hf := it_t hf c29
                  refine lv_iconst (v := (0 : Int32)) hx hb dX8_suspect_84 (by decide) ?_
                  exact hJ27 (0 : Int32) hf H locs hP hD hS _ (lv_sub hl [0, 2] rfl)
                · have hf := it_f hf c29
                  refine lv_iconst (v := (1 : Int32)) hx hb dX8_suspect_80 (by decide) ?_
                  refine lv_goto (tgt := 85) hx hb dX8_suspect_81 (by decide) ?_
                  exact hJ27 (1 : Int32) hf H locs hP hD hS _ (lv_sub hl [0, 2] rfl)
              refine lv_if_eq (tgt := 69) hx hb dX8_suspect_62 (by decide) (fun c31 => ?_) (fun c31 => ?_)
              · have hf := it_t hf c31
                exact hJ23 hf H locs hP hD hS _ (lv_sub hl [0, 1, 2] rfl)
              · have hf := it_f hf c31
                refine lv_iload_n hx hb dX8_suspect_65 rfl (lv_at hl 1 rfl) ?_
                refine lv_if_le (tgt := 93) hx hb dX8_suspect_66 (by decide) (fun c32 => ?_) (fun c32 => ?_)
                · have hf := it_t hf c32
                  refine lv_iload hx hb dX8_suspect_93 (lv_at hl 2 rfl) ?_
                  obtain ⟨e33, e34⟩ := kp_2 hf
                  rw [e34] at hP hD
                  exact k_iret hx hb hr hlocks hK hP hD hS e33 dX8_suspect_95
                · have hf := it_f hf c32
                  exact hJ23 hf H locs hP hD hS _ (lv_sub hl [0, 1, 2] rfl)
          exact hL19 t12 (0 : Int32) hf H locs hP hD hS _ (lv_sub hl [2, 1, 0] rfl)
        · have hf := it_f hf c15
          refine lv_iconst (v := (-1 : Int32)) hx hb dX8_suspect_50 (by decide) ?_
          obtain ⟨e35, e36⟩ := kp_2 hf
          rw [e36] at hP hD
          exact k_iret hx hb hr hlocks hK hP hD hS e35 dX8_suspect_51
      refine lv_if_eq (tgt := 44) hx hb dX8_suspect_35 (by decide) (fun c38 => ?_) (fun c38 => ?_)
      · have hf := it_t hf c38
        refine lv_iload_n hx hb dX8_suspect_44 rfl (lv_at hl 2 rfl) ?_
        exact hJ14 x1 hf H locs hP hD hS _ (lv_sub hl [1] rfl)
      · have hf := it_f hf c38
        refine lv_iload_n hx hb dX8_suspect_38 rfl (lv_at hl 2 rfl) ?_
        refine lv_iconst (v := (1 : Int32)) hx hb dX8_suspect_39 (by decide) ?_
        refine lv_isub hx hb dX8_suspect_40 ?_
        refine lv_goto (tgt := 45) hx hb dX8_suspect_41 (by decide) ?_
        exact hJ14 (x1 - (1 : Int32)) hf H locs hP hD hS _ (lv_sub hl [1] rfl)
    · have hf := it_t hf c10
      refine lv_iconst (v := (0 : Int32)) hx hb dX8_suspect_26 (by decide) ?_
      obtain ⟨e39, e40⟩ := kp_2 hf
      rw [e40] at hP hD
      exact k_iret hx hb hr hlocks hK hP hD hS e39 dX8_suspect_27
  rw [hH, hlo] at hW
  exact hW
def f_X8_greatest_L64 (x2_9 : Int32) (k21 : Int32 → Vs → Option (Int32 × Vs)) (vM_27 : Vs) (self31 : Int32 → Int32 → Option (Int32 × Vs)) (x4_29 : Int32) (x5_30 : Int32) : Option (Int32 × Vs) :=
  o1 (f_X8_outputs vM_27) (fun (r34 : Int32) => if r34 ≤ x5_30 then gd (inb x4_29 729) (gd (inb x4_29 729) (bn (sI vM_27 22 (x4_29).toNatClampNeg ((vM_27.2.1 22 (x4_29).toNatClampNeg) + (1 : Int32))) (fun (vM_39 : Vs) => gd (inb x4_29 729) (jn (fun (t41 : Int32) => k21 t41 vM_39) (fun k42 => if (vM_39.2.1 22 (x4_29).toNatClampNeg) ≤ x2_9 then k42 x2_9 else gd (inb x4_29 729) (k42 (vM_39.2.1 22 (x4_29).toNatClampNeg))))))) else o1 (f_X8_atOutput_bent vM_27 x5_30) (fun (r47 : Int32) => self31 (((3 : Int32) * x4_29) + r47) (x5_30 + (1 : Int32))))
def f_X8_greatest_L31 (self12 : Int32 → Int32 → Vs → Option (Int32 × Vs)) (x2_9 : Int32) (x3_10 : Int32) (vM_11 : Vs) : Option (Int32 × Vs) :=
  if (57 : Int32) ≤ x3_10 then some (x2_9, vM_11) else gd (inb x3_10 57) (jn (fun (x2_19 : Int32) (vM_20 : Vs) => self12 x2_19 (x3_10 + (1 : Int32)) vM_20) (fun k21 => if (vM_11.2.1 21 (x3_10).toNatClampNeg) = 0 then k21 x2_9 vM_11 else o1 (f_X8_faultAtIndex vM_11 x3_10) (fun (r25 : Int32) => o1 (f_X8_bends vM_11 r25) (fun (vM_27 : Vs) => lp (f_X8_greatest_L64 x2_9 k21 vM_27) (fun _ _ => none) FU (0 : Int32) (0 : Int32)))))
def f_X8_greatest_L2 (x1 : Int32) (self3 : Int32 → Vs → Option (Int32 × Vs)) (x2_1 : Int32) (vM_2 : Vs) : Option (Int32 × Vs) :=
  if (729 : Int32) ≤ x2_1 then o1 (f_X8_asksTest vM_2 x1) (fun (vM_7 : Vs) => lp f_X8_greatest_L31 (fun _ _ _ => none) FU (0 : Int32) (0 : Int32) vM_7) else gd (inb x2_1 729) (bn (sI vM_2 22 (x2_1).toNatClampNeg (0 : Int32)) (fun (vM_50 : Vs) => self3 (x2_1 + (1 : Int32)) vM_50))
def f_X8_greatest (vM : Vs) (x1 : Int32) : Option (Int32 × Vs) :=
  lp (f_X8_greatest_L2 x1) (fun _ _ => none) FU (0 : Int32) vM
abbrev wsX8_greatest : List Cond := .code yX8_greatest cX8_greatest 6 (some .int) :: UW
abbrev rmX8_greatest : Room := { frames := 5, cells := 0, slots := 0, locals := 113 }
set_option maxHeartbeats 4000000 in
set_option maxRecDepth 100000 in
theorem c_X8_greatest (l : Launch) (g : Gx) (bM : Nat → Nat) (vM : Vs) (x1 : Int32) (r : Int32) (vM1 : Vs) (hf : f_X8_greatest vM x1 = some (r, vM1)) : CtI l yX8_greatest wsX8_greatest rmX8_greatest g [.ref (bM 0), .int x1] (cM g bM vM) (cM g bM vM1) r 0 0 := by
  unfold CtI
  intro sz
  refine Met.ofW (cc := cX8_greatest) (maxL := 6) (ret := (some .int)) (by decide) rfl ?_
  intro p e s m args below meth c s₁ B hml hv
  obtain ⟨rfl, hsz, hP, hK, hD0, hG⟩ := hv
  have hx := B.exec
  have hb := B.bytes
  have hr := B.returns
  have hts := atoms_spec (ws := wsX8_greatest) B.pre
  have hown : s.vm.findClass RX8 = some m.cls := findClass_of_methodNamed B.named
  have hlocks := B.notSynchronized
  subst hsz
  have hD := hD0.self (sz := s.heap.size)
  generalize hAe : va_A (cM g bM vM) s.heap.size = A at hD hG ⊢
  have hA : ∀ q : Nat, s.heap.size ≤ q → A q := fun q h => by rw [← hAe]; exact Or.inr h
  clear hAe hD0
  have hS : va_S A s.heap s.heap [] := va_S.rf
  have hl := lv_entry ([.ref (bM 0), .int x1]) (n := 6) (Nat.le_of_ble_eq_true rfl)
  rw [lg_entry_eq]
  generalize (lg_sl ([.ref (bM 0), .int x1]) ++ List.replicate (6 - (lg_sl ([.ref (bM 0), .int x1])).length) Slot.unset).toArray = ls at hl ⊢
  have hl : lv_has ls 6 [(0, .ref (bM 0)), (1, .int x1)] := hl
  have htu : ∀ w ∈ UW, w.before _ s = true := fun w h => hts w (List.mem_cons_of_mem _ h)
  have k_5_93 := htu _ mw_5_93
  have k_5_94 := htu _ mw_5_94
  have k_5_80 := htu _ mw_5_80
  unfold f_X8_greatest at hf
  obtain ⟨H, hH⟩ : ∃ z, z = s.heap := ⟨_, rfl⟩
  obtain ⟨locs, hlo⟩ : ∃ z : List Loc, z = [] := ⟨_, rfl⟩
  have hS : va_S A s.heap H locs := by rw [hH, hlo]; exact hS
  rw [← hH] at hP
  have hW : W p l e (headSpec wsX8_greatest rmX8_greatest).room s m ([.ref (bM 0), .int x1] : List Value).toArray below meth c H locs 0 0 (MQ below (qI g A (cM g bM vM1) r) ([.ref (bM 0), .int x1] : List Value).toArray s 0 0 A) (F0 m 0 ls []) := by
    refine lv_iconst (v := (0 : Int32)) hx hb dX8_greatest_0 (by decide) ?_
    refine lv_istore_n (lv' := [(2, .int (0 : Int32)), (0, .ref (bM 0)), (1, .int x1)]) hx hb dX8_greatest_1 rfl hl (by decide) rfl (fun ls hl => ?_)
    have hL4 : ∀ (x2_1 : Int32) (vM_2 : Vs), lp (f_X8_greatest_L2 x1) (fun _ _ => none) FU x2_1 vM_2 = some (r, vM1) → ∀ (H : Heap) (locs : List Loc), va_P g.1 vwCl (cM g bM vM_2) H → va_D A (cM g bM vM_2) → va_S A s.heap H locs → ∀ ls : Array Slot, lv_has ls 6 [(0, .ref (bM 0)), (1, .int x1), (2, .int x2_1)] → W p l e (headSpec wsX8_greatest rmX8_greatest).room s m ([.ref (bM 0), .int x1] : List Value).toArray below meth c H locs 0 0 (MQ below (qI g A (cM g bM vM1) r) ([.ref (bM 0), .int x1] : List Value).toArray s 0 0 A) (F0 m 2 ls []) := by
      refine lp_ind (T := Int32 → Vs → Option (Int32 × Vs)) (fun self3 => ∀ (x2_1 : Int32) (vM_2 : Vs), self3 x2_1 vM_2 = some (r, vM1) → ∀ (H : Heap) (locs : List Loc), va_P g.1 vwCl (cM g bM vM_2) H → va_D A (cM g bM vM_2) → va_S A s.heap H locs → ∀ ls : Array Slot, lv_has ls 6 [(0, .ref (bM 0)), (1, .int x1), (2, .int x2_1)] → W p l e (headSpec wsX8_greatest rmX8_greatest).room s m ([.ref (bM 0), .int x1] : List Value).toArray below meth c H locs 0 0 (MQ below (qI g A (cM g bM vM1) r) ([.ref (bM 0), .int x1] : List Value).toArray s 0 0 A) (F0 m 2 ls [])) ?_ ?_ FU
      · intro x2_1 vM_2 hf; cases hf
      · intro self3 ih5 x2_1 vM_2 hf H locs hP hD hS ls hl
        unfold f_X8_greatest_L2 at hf
        refine lv_iload_n hx hb dX8_greatest_2 rfl (lv_at hl 2 rfl) ?_
        refine lv_sipush (v := (729 : Int32)) hx hb dX8_greatest_3 (by decide) ?_
        refine lv_icmp_ge (tgt := 22) hx hb dX8_greatest_6 (by decide) (fun c6 => ?_) (fun c6 => ?_)
        · have hf := it_t hf c6
          refine lv_aload_n hx hb dX8_greatest_22 rfl (lv_at hl 0 rfl) ?_
          refine lv_iload_n hx hb dX8_greatest_23 rfl (lv_at hl 1 rfl) ?_
          obtain ⟨vM_7, hg8, hf⟩ := o1_at hf
          refine k_vvW ⟨hx, hb, hml, hown, htu⟩ hK hP hD hS hA hG (c_X8_asksTest l g bM vM_2 x1 vM_7 hg8) (cwV 1 htu (gU_V mw_6_68 hcX8_asksTest) rfl rfl rfl hdX8_asksTest ⟨Nat.le_of_ble_eq_true rfl, Nat.le_of_ble_eq_true rfl⟩) (q0 := 0) (ci := 8) (fs := fcM bM vM_2) (q := (RX8, TX8, 23)) rfl rfl rfl (As := [.int x1]) (rest := []) rfl rfl hl.1 (Nat.le_of_ble_eq_true rfl) dX8_greatest_24 (k1 := 0) (n1 := 0) rfl rfl ⟨Nat.zero_le _, Nat.zero_le _⟩ (fun H locs hP hD hS => ?_)
          refine lv_iconst (v := (0 : Int32)) hx hb dX8_greatest_27 (by decide) ?_
          refine lv_istore_n (lv' := [(2, .int (0 : Int32)), (0, .ref (bM 0)), (1, .int x1)]) hx hb dX8_greatest_28 rfl hl (by decide) rfl (fun ls hl => ?_)
          refine lv_iconst (v := (0 : Int32)) hx hb dX8_greatest_29 (by decide) ?_
          refine lv_istore_n (lv' := [(3, .int (0 : Int32)), (2, .int (0 : Int32)), (0, .ref (bM 0)), (1, .int x1)]) hx hb dX8_greatest_30 rfl hl (by decide) rfl (fun ls hl => ?_)
          have hL13 : ∀ (x2_9 : Int32) (x3_10 : Int32) (vM_11 : Vs), lp f_X8_greatest_L31 (fun _ _ _ => none) FU x2_9 x3_10 vM_11 = some (r, vM1) → ∀ (H : Heap) (locs : List Loc), va_P g.1 vwCl (cM g bM vM_11) H → va_D A (cM g bM vM_11) → va_S A s.heap H locs → ∀ ls : Array Slot, lv_has ls 6 [(0, .ref (bM 0)), (2, .int x2_9), (3, .int x3_10)] → W p l e (headSpec wsX8_greatest rmX8_greatest).room s m ([.ref (bM 0), .int x1] : List Value).toArray below meth c H locs 0 0 (MQ below (qI g A (cM g bM vM1) r) ([.ref (bM 0), .int x1] : List Value).toArray s 0 0 A) (F0 m 31 ls []) := by
            refine lp_ind (T := Int32 → Int32 → Vs → Option (Int32 × Vs)) (fun self12 => ∀ (x2_9 : Int32) (x3_10 : Int32) (vM_11 : Vs), self12 x2_9 x3_10 vM_11 = some (r, vM1) → ∀ (H : Heap) (locs : List Loc), va_P g.1 vwCl (cM g bM vM_11) H → va_D A (cM g bM vM_11) → va_S A s.heap H locs → ∀ ls : Array Slot, lv_has ls 6 [(0, .ref (bM 0)), (2, .int x2_9), (3, .int x3_10)] → W p l e (headSpec wsX8_greatest rmX8_greatest).room s m ([.ref (bM 0), .int x1] : List Value).toArray below meth c H locs 0 0 (MQ below (qI g A (cM g bM vM1) r) ([.ref (bM 0), .int x1] : List Value).toArray s 0 0 A) (F0 m 31 ls [])) ?_ ?_ FU
            · intro x2_9 x3_10 vM_11 hf; cases hf
            · intro self12 ih14 x2_9 x3_10 vM_11 hf H locs hP hD hS ls hl
              unfold f_X8_greatest_L31 at hf
              refine lv_iload_n hx hb dX8_greatest_31 rfl (lv_at hl 2 rfl) ?_
              refine lv_bipush (v := (57 : Int32)) hx hb dX8_greatest_32 (by decide) ?_
              refine lv_icmp_ge (tgt := 136) hx hb dX8_greatest_34 (by decide) (fun c15 => ?_) (fun c15 => ?_)
              · have hf := it_t hf c15
                refine lv_iload_n hx hb dX8_greatest_136 rfl (lv_at hl 1 rfl) ?_
                obtain ⟨e16, e17⟩ := kp_2 hf
                rw [e17] at hP hD
                exact k_iret hx hb hr hlocks hK hP hD hS e16 dX8_greatest_137
              · have hf := it_f hf c15
                refine lv_aload_n hx hb dX8_greatest_37 rfl (lv_at hl 0 rfl) ?_
                refine va_get (D := g.1) (ci := 8) (fs := fcM bM vM_11) (v := .ref (bM 22)) (C := RX8) (T := TX8) (N := 23) hx hb htu hinX8 hown hK hP 0 rfl rfl 21 (by decide) k_5_93 (fun _ h9 => h9) rfl dX8_greatest_38 ?_
                refine lv_iload_n hx hb dX8_greatest_41 rfl (lv_at hl 2 rfl) ?_
                obtain ⟨h18, hf⟩ := gd_in hf
                refine va_zald (D := g.1) (f := (vM_11.2.1 21)) hx hb hK hP 12 2 rfl rfl h18 dX8_greatest_42 ?_
                obtain ⟨k21, hk23, hf⟩ := jn_at hf
                have hJ22 : ∀ (x2_19 : Int32) (vM_20 : Vs), k21 x2_19 vM_20 = some (r, vM1) → ∀ (H : Heap) (locs : List Loc), va_P g.1 vwCl (cM g bM vM_20) H → va_D A (cM g bM vM_20) → va_S A s.heap H locs → ∀ ls : Array Slot, lv_has ls 6 [(0, .ref (bM 0)), (2, .int x2_19), (3, .int x3_10)] → W p l e (headSpec wsX8_greatest rmX8_greatest).room s m ([.ref (bM 0), .int x1] : List Value).toArray below meth c H locs 0 0 (MQ below (qI g A (cM g bM vM1) r) ([.ref (bM 0), .int x1] : List Value).toArray s 0 0 A) (F0 m 130 ls []) := by
                  intro x2_19 vM_20 hf H locs hP hD hS ls hl
                  rw [hk23] at hf
                  dsimp only at hf
                  clear hk23
                  refine lv_iinc (v := (x3_10 + (1 : Int32))) (lv' := [(3, .int (x3_10 + (1 : Int32))), (0, .ref (bM 0)), (2, .int x2_19)]) hx hb dX8_greatest_130 hl (k := 2) rfl rfl (by decide) rfl (fun ls hl => ?_)
                  refine lv_goto (tgt := 31) hx hb dX8_greatest_133 (by decide) ?_
                  exact ih14 x2_19 (x3_10 + (1 : Int32)) vM_20 hf H locs hP hD hS _ (lv_sub hl [1, 2, 0] rfl)
                refine lv_if_ne (tgt := 49) hx hb dX8_greatest_43 (by decide) (fun c24 => ?_) (fun c24 => ?_)
                · have hf := it_f hf c24
                  refine lv_aload_n hx hb dX8_greatest_49 rfl (lv_at hl 0 rfl) ?_
                  refine lv_aload_n hx hb dX8_greatest_50 rfl (lv_at hl 0 rfl) ?_
                  refine lv_iload_n hx hb dX8_greatest_51 rfl (lv_at hl 2 rfl) ?_
                  obtain ⟨r25, hg26, hf⟩ := o1_at hf
                  refine k_viW ⟨hx, hb, hml, hown, htu⟩ hK hP hD hS hA hG (c_X8_faultAtIndex l g bM vM_11 x3_10 r25 hg26) (cwV 1 htu (gU_V mw_7_5 hcX8_faultAtIndex) rfl rfl rfl hdX8_faultAtIndex ⟨Nat.le_of_ble_eq_true rfl, Nat.le_of_ble_eq_true rfl⟩) (q0 := 0) (ci := 8) (fs := fcM bM vM_11) (q := (RX8, TX8, 23)) rfl rfl rfl (As := [.int x3_10]) (rest := [.ref (bM 0)]) rfl rfl hl.1 (Nat.le_of_ble_eq_true rfl) dX8_greatest_52 (k1 := 0) (n1 := 0) rfl rfl ⟨Nat.zero_le _, Nat.zero_le _⟩ (fun H locs hP hD hS => ?_)
                  obtain ⟨vM_27, hg28, hf⟩ := o1_at hf
                  refine k_vvW ⟨hx, hb, hml, hown, htu⟩ hK hP hD hS hA hG (c_X8_bends l g bM vM_11 r25 vM_27 hg28) (cwV 1 htu (gU_V mw_6_102 hcX8_bends) rfl rfl rfl hdX8_bends ⟨Nat.le_of_ble_eq_true rfl, Nat.le_of_ble_eq_true rfl⟩) (q0 := 0) (ci := 8) (fs := fcM bM vM_11) (q := (RX8, TX8, 23)) rfl rfl rfl (As := [.int r25]) (rest := []) rfl rfl hl.1 (Nat.le_of_ble_eq_true rfl) dX8_greatest_55 (k1 := 0) (n1 := 0) rfl rfl ⟨Nat.zero_le _, Nat.zero_le _⟩ (fun H locs hP hD hS => ?_)
                  refine lv_iconst (v := (0 : Int32)) hx hb dX8_greatest_58 (by decide) ?_
                  refine lv_istore (lv' := [(4, .int (0 : Int32)), (0, .ref (bM 0)), (2, .int x2_9), (3, .int x3_10)]) hx hb dX8_greatest_59 hl (by decide) rfl (fun ls hl => ?_)
                  refine lv_iconst (v := (0 : Int32)) hx hb dX8_greatest_61 (by decide) ?_
                  refine lv_istore (lv' := [(5, .int (0 : Int32)), (4, .int (0 : Int32)), (0, .ref (bM 0)), (2, .int x2_9), (3, .int x3_10)]) hx hb dX8_greatest_62 hl (by decide) rfl (fun ls hl => ?_)
                  have hL32 : ∀ (x4_29 : Int32) (x5_30 : Int32), lp (f_X8_greatest_L64 x2_9 k21 vM_27) (fun _ _ => none) FU x4_29 x5_30 = some (r, vM1) → ∀ (H : Heap) (locs : List Loc), va_P g.1 vwCl (cM g bM vM_27) H → va_D A (cM g bM vM_27) → va_S A s.heap H locs → ∀ ls : Array Slot, lv_has ls 6 [(0, .ref (bM 0)), (2, .int x2_9), (3, .int x3_10), (4, .int x4_29), (5, .int x5_30)] → W p l e (headSpec wsX8_greatest rmX8_greatest).room s m ([.ref (bM 0), .int x1] : List Value).toArray below meth c H locs 0 0 (MQ below (qI g A (cM g bM vM1) r) ([.ref (bM 0), .int x1] : List Value).toArray s 0 0 A) (F0 m 64 ls []) := by
                    refine lp_ind (T := Int32 → Int32 → Option (Int32 × Vs)) (fun self31 => ∀ (x4_29 : Int32) (x5_30 : Int32), self31 x4_29 x5_30 = some (r, vM1) → ∀ (H : Heap) (locs : List Loc), va_P g.1 vwCl (cM g bM vM_27) H → va_D A (cM g bM vM_27) → va_S A s.heap H locs → ∀ ls : Array Slot, lv_has ls 6 [(0, .ref (bM 0)), (2, .int x2_9), (3, .int x3_10), (4, .int x4_29), (5, .int x5_30)] → W p l e (headSpec wsX8_greatest rmX8_greatest).room s m ([.ref (bM 0), .int x1] : List Value).toArray below meth c H locs 0 0 (MQ below (qI g A (cM g bM vM1) r) ([.ref (bM 0), .int x1] : List Value).toArray s 0 0 A) (F0 m 64 ls [])) ?_ ?_ FU
                    · intro x4_29 x5_30 hf; cases hf
                    · intro self31 ih33 x4_29 x5_30 hf H locs hP hD hS ls hl
                      unfold f_X8_greatest_L64 at hf
                      refine lv_iload hx hb dX8_greatest_64 (lv_at hl 4 rfl) ?_
                      refine lv_aload_n hx hb dX8_greatest_66 rfl (lv_at hl 0 rfl) ?_
                      obtain ⟨r34, hg35, hf⟩ := o1_at hf
                      refine k_viW ⟨hx, hb, hml, hown, htu⟩ hK hP hD hS hA hG (c_X8_outputs l g bM vM_27 r34 hg35) (cwV 0 htu (gU_V mw_6_40 hcX8_outputs) rfl rfl rfl hdX8_outputs ⟨Nat.le_of_ble_eq_true rfl, Nat.le_of_ble_eq_true rfl⟩) (q0 := 0) (ci := 8) (fs := fcM bM vM_27) (q := (RX8, TX8, 23)) rfl rfl rfl (As := []) (rest := [.int x5_30]) rfl rfl hl.1 (Nat.le_of_ble_eq_true rfl) dX8_greatest_67 (k1 := 0) (n1 := 0) rfl rfl ⟨Nat.zero_le _, Nat.zero_le _⟩ (fun H locs hP hD hS => ?_)
                      refine lv_icmp_ge (tgt := 96) hx hb dX8_greatest_70 (by decide) (fun c36 => ?_) (fun c36 => ?_)
                      · have hf := it_t hf c36
                        refine lv_aload_n hx hb dX8_greatest_96 rfl (lv_at hl 0 rfl) ?_
                        refine va_get (D := g.1) (ci := 8) (fs := fcM bM vM_27) (v := .ref (bM 23)) (C := RX8) (T := TX8) (N := 23) hx hb htu hinX8 hown hK hP 0 rfl rfl 22 (by decide) k_5_94 (fun _ h9 => h9) rfl dX8_greatest_97 ?_
                        refine lv_iload hx hb dX8_greatest_100 (lv_at hl 3 rfl) ?_
                        refine lv_dup2_11 hx hb dX8_greatest_102 rfl rfl ?_
                        obtain ⟨h37, hf⟩ := gd_in hf
                        refine va_iald (D := g.1) (f := (vM_27.2.1 22)) hx hb hK hP 13 0 rfl rfl h37 dX8_greatest_103 ?_
                        refine lv_iconst (v := (1 : Int32)) hx hb dX8_greatest_104 (by decide) ?_
                        refine lv_iadd hx hb dX8_greatest_105 ?_
                        obtain ⟨h38, hf⟩ := gd_in hf
                        refine va_iast (D := g.1) (f := (vM_27.2.1 22)) hx hb hK hP hD hS 13 0 rfl rfl h38 dX8_greatest_106 (fun H locs hP hD hS => ?_)
                        obtain ⟨vM_39, evM_39⟩ : ∃ z, z = sI vM_27 22 (x4_29).toNatClampNeg ((vM_27.2.1 22 (x4_29).toNatClampNeg) + (1 : Int32)) := ⟨_, rfl⟩
                        have hf := bn_at hf evM_39
                        have hP : va_P g.1 vwCl (cM g bM vM_39) H := by rw [evM_39]; exact hP
                        have hD : va_D A (cM g bM vM_39) := by rw [evM_39]; exact hD
                        refine lv_aload_n hx hb dX8_greatest_107 rfl (lv_at hl 0 rfl) ?_
                        refine va_get (D := g.1) (ci := 8) (fs := fcM bM vM_39) (v := .ref (bM 23)) (C := RX8) (T := TX8) (N := 23) hx hb htu hinX8 hown hK hP 0 rfl rfl 22 (by decide) k_5_94 (fun _ h9 => h9) rfl dX8_greatest_108 ?_
                        refine lv_iload hx hb dX8_greatest_111 (lv_at hl 3 rfl) ?_
                        obtain ⟨h40, hf⟩ := gd_in hf
                        refine va_iald (D := g.1) (f := (vM_39.2.1 22)) hx hb hK hP 13 0 rfl rfl h40 dX8_greatest_113 ?_
                        refine lv_iload_n hx hb dX8_greatest_114 rfl (lv_at hl 1 rfl) ?_
                        obtain ⟨k42, hk44, hf⟩ := jn_at hf
                        have hJ43 : ∀ (t41 : Int32), k42 t41 = some (r, vM1) → ∀ (H : Heap) (locs : List Loc), va_P g.1 vwCl (cM g bM vM_39) H → va_D A (cM g bM vM_39) → va_S A s.heap H locs → ∀ ls : Array Slot, lv_has ls 6 [(0, .ref (bM 0)), (3, .int x3_10)] → W p l e (headSpec wsX8_greatest rmX8_greatest).room s m ([.ref (bM 0), .int x1] : List Value).toArray below meth c H locs 0 0 (MQ below (qI g A (cM g bM vM1) r) ([.ref (bM 0), .int x1] : List Value).toArray s 0 0 A) (F0 m 129 ls [.int t41]) := by
                          intro t41 hf H locs hP hD hS ls hl
                          rw [hk44] at hf
                          dsimp only at hf
                          clear hk44
                          refine lv_istore_n (lv' := [(2, .int t41), (0, .ref (bM 0)), (3, .int x3_10)]) hx hb dX8_greatest_129 rfl hl (by decide) rfl (fun ls hl => ?_)
                          exact hJ22 t41 vM_39 hf H locs hP hD hS _ (lv_sub hl [1, 0, 2] rfl)
                        refine lv_icmp_le (tgt := 128) hx hb dX8_greatest_115 (by decide) (fun c45 => ?_) (fun c45 => ?_)
                        · have hf := it_t hf c45
                          refine lv_iload_n hx hb dX8_greatest_128 rfl (lv_at hl 1 rfl) ?_
                          exact hJ43 x2_9 hf H locs hP hD hS _ (lv_sub hl [0, 2] rfl)
                        · have hf := it_f hf c45
                          refine lv_aload_n hx hb dX8_greatest_118 rfl (lv_at hl 0 rfl) ?_
                          refine va_get (D := g.1) (ci := 8) (fs := fcM bM vM_39) (v := .ref (bM 23)) (C := RX8) (T := TX8) (N := 23) hx hb htu hinX8 hown hK hP 0 rfl rfl 22 (by decide) k_5_94 (fun _ h9 => h9) rfl dX8_greatest_119 ?_
                          refine lv_iload hx hb dX8_greatest_122 (lv_at hl 3 rfl) ?_
                          obtain ⟨h46, hf⟩ := gd_in hf
                          refine va_iald (D := g.1) (f := (vM_39.2.1 22)) hx hb hK hP 13 0 rfl rfl h46 dX8_greatest_124 ?_
                          refine lv_goto (tgt := 129) hx hb dX8_greatest_125 (by decide) ?_
                          exact hJ43 (vM_39.2.1 22 (x4_29).toNatClampNeg) hf H locs hP hD hS _ (lv_sub hl [0, 2] rfl)
                      · have hf := it_f hf c36
                        refine lv_iconst (v := (3 : Int32)) hx hb dX8_greatest_73 (by decide) ?_
                        refine lv_iload hx hb dX8_greatest_74 (lv_at hl 3 rfl) ?_
                        refine lv_imul hx hb dX8_greatest_76 ?_
                        refine lv_aload_n hx hb dX8_greatest_77 rfl (lv_at hl 0 rfl) ?_
                        refine lv_iload hx hb dX8_greatest_78 (lv_at hl 4 rfl) ?_
                        refine lv_aload_n hx hb dX8_greatest_80 rfl (lv_at hl 0 rfl) ?_
                        refine va_get (D := g.1) (ci := 8) (fs := fcM bM vM_27) (v := .ref (bM 9)) (C := RX8) (T := TX8) (N := 23) hx hb htu hinX8 hown hK hP 0 rfl rfl 8 (by decide) k_5_80 (fun _ h9 => h9) rfl dX8_greatest_81 ?_
                        obtain ⟨r47, hg48, hf⟩ := o1_at hf
                        refine k_viW ⟨hx, hb, hml, hown, htu⟩ hK hP hD hS hA hG (c_X8_atOutput_bent l g bM vM_27 x5_30 r47 hg48) (cwV 2 htu (gU_V mw_6_106 hcX8_atOutput) rfl rfl rfl hdX8_atOutput ⟨Nat.le_of_ble_eq_true rfl, Nat.le_of_ble_eq_true rfl⟩) (q0 := 0) (ci := 8) (fs := fcM bM vM_27) (q := (RX8, TX8, 23)) rfl rfl rfl (As := [.int x5_30, .ref (bM 9)]) (rest := [.int ((3 : Int32) * x4_29)]) rfl rfl hl.1 (Nat.le_of_ble_eq_true rfl) dX8_greatest_84 (k1 := 0) (n1 := 0) rfl rfl ⟨Nat.zero_le _, Nat.zero_le _⟩ (fun H locs hP hD hS => ?_)
                        refine lv_iadd hx hb dX8_greatest_87 ?_
                        refine lv_istore (lv' := [(4, .int (((3 : Int32) * x4_29) + r47)), (0, .ref (bM 0)), (2, .int x2_9), (3, .int x3_10), (5, .int x5_30)]) hx hb dX8_greatest_88 hl (by decide) rfl (fun ls hl => ?_)
                        refine lv_iinc (v := (x5_30 + (1 : Int32))) (lv' := [(5, .int (x5_30 + (1 : Int32))), (4, .int (((3 : Int32) * x4_29) + r47)), (0, .ref (bM 0)), (2, .int x2_9), (3, .int x3_10)]) hx hb dX8_greatest_90 hl (k := 4) rfl rfl (by decide) rfl (fun ls hl => ?_)
                        refine lv_goto (tgt := 64) hx hb dX8_greatest_93 (by decide) ?_
                        exact ih33 (((3 : Int32) * x4_29) + r47) (x5_30 + (1 : Int32)) hf H locs hP hD hS _ (lv_sub hl [2, 3, 4, 1, 0] rfl)
                  exact hL32 (0 : Int32) (0 : Int32) hf H locs hP hD hS _ (lv_sub hl [2, 3, 4, 1, 0] rfl)
                · have hf := it_t hf c24
                  refine lv_goto (tgt := 130) hx hb dX8_greatest_46 (by decide) ?_
                  exact hJ22 x2_9 vM_11 hf H locs hP hD hS _ (lv_sub hl [0, 1, 2] rfl)
          exact hL13 (0 : Int32) (0 : Int32) vM_7 hf H locs hP hD hS _ (lv_sub hl [2, 1, 0] rfl)
        · have hf := it_f hf c6
          refine lv_aload_n hx hb dX8_greatest_9 rfl (lv_at hl 0 rfl) ?_
          refine va_get (D := g.1) (ci := 8) (fs := fcM bM vM_2) (v := .ref (bM 23)) (C := RX8) (T := TX8) (N := 23) hx hb htu hinX8 hown hK hP 0 rfl rfl 22 (by decide) k_5_94 (fun _ h9 => h9) rfl dX8_greatest_10 ?_
          refine lv_iload_n hx hb dX8_greatest_13 rfl (lv_at hl 2 rfl) ?_
          refine lv_iconst (v := (0 : Int32)) hx hb dX8_greatest_14 (by decide) ?_
          obtain ⟨h49, hf⟩ := gd_in hf
          refine va_iast (D := g.1) (f := (vM_2.2.1 22)) hx hb hK hP hD hS 13 0 rfl rfl h49 dX8_greatest_15 (fun H locs hP hD hS => ?_)
          obtain ⟨vM_50, evM_50⟩ : ∃ z, z = sI vM_2 22 (x2_1).toNatClampNeg (0 : Int32) := ⟨_, rfl⟩
          have hf := bn_at hf evM_50
          have hP : va_P g.1 vwCl (cM g bM vM_50) H := by rw [evM_50]; exact hP
          have hD : va_D A (cM g bM vM_50) := by rw [evM_50]; exact hD
          refine lv_iinc (v := (x2_1 + (1 : Int32))) (lv' := [(2, .int (x2_1 + (1 : Int32))), (0, .ref (bM 0)), (1, .int x1)]) hx hb dX8_greatest_16 hl (k := 2) rfl rfl (by decide) rfl (fun ls hl => ?_)
          refine lv_goto (tgt := 2) hx hb dX8_greatest_19 (by decide) ?_
          exact ih5 (x2_1 + (1 : Int32)) vM_50 hf H locs hP hD hS _ (lv_sub hl [1, 2, 0] rfl)
    exact hL4 (0 : Int32) vM hf H locs hP hD hS _ (lv_sub hl [1, 2, 0] rfl)
  rw [hH, hlo] at hW
  exact hW
def f_X8_nextTest_L21 (self10 : Int32 → Int32 → Int32 → Vs → Option (Int32 × Vs)) (x1_6 : Int32) (x2_7 : Int32) (x3_8 : Int32) (vM_9 : Vs) : Option (Int32 × Vs) :=
  o1 (f_X8_tests vM_9) (fun (r13 : Int32) => if r13 ≤ x3_8 then some (x1_6, vM_9) else o2 (f_X8_greatest vM_9 x3_8) (fun (r18 : Int32) (vM_19 : Vs) => jn (fun (x1_21 : Int32) (x2_22 : Int32) => self10 x1_21 x2_22 (x3_8 + (1 : Int32)) vM_19) (fun k23 => jn (k23 x3_8 r18) (fun k26 => if x1_6 = (-1 : Int32) then k26 else if r18 < x2_7 then k26 else k23 x1_6 x2_7))))
def f_X8_nextTest (vM : Vs) : Option (Int32 × Vs) :=
  bn (sF vM 0 (0 : Int32)) (fun (vM_1 : Vs) => o2 (f_X8_fitting vM_1) (fun (r2 : Int32) (vM_3 : Vs) => if (2 : Int32) ≤ r2 then lp f_X8_nextTest_L21 (fun _ _ _ _ => none) FU (-1 : Int32) (0 : Int32) (0 : Int32) vM_3 else some ((-1 : Int32), vM_3)))
abbrev wsX8_nextTest : List Cond := .code yX8_nextTest cX8_nextTest 5 (some .int) :: UW
abbrev rmX8_nextTest : Room := { frames := 6, cells := 0, slots := 0, locals := 138 }
set_option maxHeartbeats 4000000 in
set_option maxRecDepth 100000 in
theorem c_X8_nextTest (l : Launch) (g : Gx) (bM : Nat → Nat) (vM : Vs) (r : Int32) (vM1 : Vs) (hf : f_X8_nextTest vM = some (r, vM1)) : CtI l yX8_nextTest wsX8_nextTest rmX8_nextTest g [.ref (bM 0)] (cM g bM vM) (cM g bM vM1) r 0 0 := by
  unfold CtI
  intro sz
  refine Met.ofW (cc := cX8_nextTest) (maxL := 5) (ret := (some .int)) (by decide) rfl ?_
  intro p e s m args below meth c s₁ B hml hv
  obtain ⟨rfl, hsz, hP, hK, hD0, hG⟩ := hv
  have hx := B.exec
  have hb := B.bytes
  have hr := B.returns
  have hts := atoms_spec (ws := wsX8_nextTest) B.pre
  have hown : s.vm.findClass RX8 = some m.cls := findClass_of_methodNamed B.named
  have hlocks := B.notSynchronized
  subst hsz
  have hD := hD0.self (sz := s.heap.size)
  generalize hAe : va_A (cM g bM vM) s.heap.size = A at hD hG ⊢
  have hA : ∀ q : Nat, s.heap.size ≤ q → A q := fun q h => by rw [← hAe]; exact Or.inr h
  clear hAe hD0
  have hS : va_S A s.heap s.heap [] := va_S.rf
  have hl := lv_entry ([.ref (bM 0)]) (n := 5) (Nat.le_of_ble_eq_true rfl)
  rw [lg_entry_eq]
  generalize (lg_sl ([.ref (bM 0)]) ++ List.replicate (5 - (lg_sl ([.ref (bM 0)])).length) Slot.unset).toArray = ls at hl ⊢
  have hl : lv_has ls 5 [(0, .ref (bM 0))] := hl
  have htu : ∀ w ∈ UW, w.before _ s = true := fun w h => hts w (List.mem_cons_of_mem _ h)
  have k_5_72 := htu _ mw_5_72
  unfold f_X8_nextTest at hf
  obtain ⟨H, hH⟩ : ∃ z, z = s.heap := ⟨_, rfl⟩
  obtain ⟨locs, hlo⟩ : ∃ z : List Loc, z = [] := ⟨_, rfl⟩
  have hS : va_S A s.heap H locs := by rw [hH, hlo]; exact hS
  rw [← hH] at hP
  have hW : W p l e (headSpec wsX8_nextTest rmX8_nextTest).room s m ([.ref (bM 0)] : List Value).toArray below meth c H locs 0 0 (MQ below (qI g A (cM g bM vM1) r) ([.ref (bM 0)] : List Value).toArray s 0 0 A) (F0 m 0 ls []) := by
    refine lv_aload_n hx hb dX8_nextTest_0 rfl (lv_at hl 0 rfl) ?_
    refine lv_iconst (v := (0 : Int32)) hx hb dX8_nextTest_1 (by decide) ?_
    refine va_put (D := g.1) (ci := 8) (fs := fcM bM vM) (v := .int (0 : Int32)) (ty := .int) (C := RX8) (T := TX8) (N := 23) hx hb htu hinX8 tyX8 tyX8_ok nmX8 hown hK hP hD hS 0 rfl rfl 0 (by decide) k_5_72 (fun _ h9 => h9) rfl (by decide +kernel) rfl rfl (Nat.le_of_ble_eq_true rfl) dX8_nextTest_2 (fun H locs hP hD hS => ?_)
    obtain ⟨vM_1, evM_1⟩ : ∃ z, z = sF vM 0 (0 : Int32) := ⟨_, rfl⟩
    have hf := bn_at hf evM_1
    have hP : va_P g.1 vwCl (cM g bM vM_1) H := by rw [evM_1]; exact hP
    have hD : va_D A (cM g bM vM_1) := by rw [evM_1]; exact hD
    refine lv_aload_n hx hb dX8_nextTest_5 rfl (lv_at hl 0 rfl) ?_
    obtain ⟨r2, vM_3, hg4, hf⟩ := o2_at hf
    refine k_viW ⟨hx, hb, hml, hown, htu⟩ hK hP hD hS hA hG (c_X8_fitting l g bM vM_1 r2 vM_3 hg4) (cwV 0 htu (gU_V mw_7_1 hcX8_fitting) rfl rfl rfl hdX8_fitting ⟨Nat.le_of_ble_eq_true rfl, Nat.le_of_ble_eq_true rfl⟩) (q0 := 0) (ci := 8) (fs := fcM bM vM_1) (q := (RX8, TX8, 23)) rfl rfl rfl (As := []) (rest := []) rfl rfl hl.1 (Nat.le_of_ble_eq_true rfl) dX8_nextTest_6 (k1 := 0) (n1 := 0) rfl rfl ⟨Nat.zero_le _, Nat.zero_le _⟩ (fun H locs hP hD hS => ?_)
    refine lv_iconst (v := (2 : Int32)) hx hb dX8_nextTest_9 (by decide) ?_
    refine lv_icmp_ge (tgt := 15) hx hb dX8_nextTest_10 (by decide) (fun c5 => ?_) (fun c5 => ?_)
    · have hf := it_t hf c5
      refine lv_iconst (v := (-1 : Int32)) hx hb dX8_nextTest_15 (by decide) ?_
      refine lv_istore_n (lv' := [(1, .int (-1 : Int32)), (0, .ref (bM 0))]) hx hb dX8_nextTest_16 rfl hl (by decide) rfl (fun ls hl => ?_)
      refine lv_iconst (v := (0 : Int32)) hx hb dX8_nextTest_17 (by decide) ?_
      refine lv_istore_n (lv' := [(2, .int (0 : Int32)), (1, .int (-1 : Int32)), (0, .ref (bM 0))]) hx hb dX8_nextTest_18 rfl hl (by decide) rfl (fun ls hl => ?_)
      refine lv_iconst (v := (0 : Int32)) hx hb dX8_nextTest_19 (by decide) ?_
      refine lv_istore_n (lv' := [(3, .int (0 : Int32)), (2, .int (0 : Int32)), (1, .int (-1 : Int32)), (0, .ref (bM 0))]) hx hb dX8_nextTest_20 rfl hl (by decide) rfl (fun ls hl => ?_)
      have hL11 : ∀ (x1_6 : Int32) (x2_7 : Int32) (x3_8 : Int32) (vM_9 : Vs), lp f_X8_nextTest_L21 (fun _ _ _ _ => none) FU x1_6 x2_7 x3_8 vM_9 = some (r, vM1) → ∀ (H : Heap) (locs : List Loc), va_P g.1 vwCl (cM g bM vM_9) H → va_D A (cM g bM vM_9) → va_S A s.heap H locs → ∀ ls : Array Slot, lv_has ls 5 [(0, .ref (bM 0)), (1, .int x1_6), (2, .int x2_7), (3, .int x3_8)] → W p l e (headSpec wsX8_nextTest rmX8_nextTest).room s m ([.ref (bM 0)] : List Value).toArray below meth c H locs 0 0 (MQ below (qI g A (cM g bM vM1) r) ([.ref (bM 0)] : List Value).toArray s 0 0 A) (F0 m 21 ls []) := by
        refine lp_ind (T := Int32 → Int32 → Int32 → Vs → Option (Int32 × Vs)) (fun self10 => ∀ (x1_6 : Int32) (x2_7 : Int32) (x3_8 : Int32) (vM_9 : Vs), self10 x1_6 x2_7 x3_8 vM_9 = some (r, vM1) → ∀ (H : Heap) (locs : List Loc), va_P g.1 vwCl (cM g bM vM_9) H → va_D A (cM g bM vM_9) → va_S A s.heap H locs → ∀ ls : Array Slot, lv_has ls 5 [(0, .ref (bM 0)), (1, .int x1_6), (2, .int x2_7), (3, .int x3_8)] → W p l e (headSpec wsX8_nextTest rmX8_nextTest).room s m ([.ref (bM 0)] : List Value).toArray below meth c H locs 0 0 (MQ below (qI g A (cM g bM vM1) r) ([.ref (bM 0)] : List Value).toArray s 0 0 A) (F0 m 21 ls [])) ?_ ?_ FU
        · intro x1_6 x2_7 x3_8 vM_9 hf; cases hf
        · intro self10 ih12 x1_6 x2_7 x3_8 vM_9 hf H locs hP hD hS ls hl
          unfold f_X8_nextTest_L21 at hf
          refine lv_iload_n hx hb dX8_nextTest_21 rfl (lv_at hl 3 rfl) ?_
          refine lv_aload_n hx hb dX8_nextTest_22 rfl (lv_at hl 0 rfl) ?_
          obtain ⟨r13, hg14, hf⟩ := o1_at hf
          refine k_viW ⟨hx, hb, hml, hown, htu⟩ hK hP hD hS hA hG (c_X8_tests l g bM vM_9 r13 hg14) (cwV 0 htu (gU_V mw_6_48 hcX8_tests) rfl rfl rfl hdX8_tests ⟨Nat.le_of_ble_eq_true rfl, Nat.le_of_ble_eq_true rfl⟩) (q0 := 0) (ci := 8) (fs := fcM bM vM_9) (q := (RX8, TX8, 23)) rfl rfl rfl (As := []) (rest := [.int x3_8]) rfl rfl hl.1 (Nat.le_of_ble_eq_true rfl) dX8_nextTest_23 (k1 := 0) (n1 := 0) rfl rfl ⟨Nat.zero_le _, Nat.zero_le _⟩ (fun H locs hP hD hS => ?_)
          refine lv_icmp_ge (tgt := 61) hx hb dX8_nextTest_26 (by decide) (fun c15 => ?_) (fun c15 => ?_)
          · have hf := it_t hf c15
            refine lv_iload_n hx hb dX8_nextTest_61 rfl (lv_at hl 1 rfl) ?_
            obtain ⟨e16, e17⟩ := kp_2 hf
            rw [e17] at hP hD
            exact k_iret hx hb hr hlocks hK hP hD hS e16 dX8_nextTest_62
          · have hf := it_f hf c15
            refine lv_aload_n hx hb dX8_nextTest_29 rfl (lv_at hl 0 rfl) ?_
            refine lv_iload_n hx hb dX8_nextTest_30 rfl (lv_at hl 3 rfl) ?_
            obtain ⟨r18, vM_19, hg20, hf⟩ := o2_at hf
            refine k_viW ⟨hx, hb, hml, hown, htu⟩ hK hP hD hS hA hG (c_X8_greatest l g bM vM_9 x3_8 r18 vM_19 hg20) (cwV 1 htu (gU_V mw_7_21 hcX8_greatest) rfl rfl rfl hdX8_greatest ⟨Nat.le_of_ble_eq_true rfl, Nat.le_of_ble_eq_true rfl⟩) (q0 := 0) (ci := 8) (fs := fcM bM vM_9) (q := (RX8, TX8, 23)) rfl rfl rfl (As := [.int x3_8]) (rest := []) rfl rfl hl.1 (Nat.le_of_ble_eq_true rfl) dX8_nextTest_31 (k1 := 0) (n1 := 0) rfl rfl ⟨Nat.zero_le _, Nat.zero_le _⟩ (fun H locs hP hD hS => ?_)
            refine lv_istore (lv' := [(4, .int r18), (0, .ref (bM 0)), (1, .int x1_6), (2, .int x2_7), (3, .int x3_8)]) hx hb dX8_nextTest_34 hl (by decide) rfl (fun ls hl => ?_)
            refine lv_iload_n hx hb dX8_nextTest_36 rfl (lv_at hl 2 rfl) ?_
            refine lv_iconst (v := (-1 : Int32)) hx hb dX8_nextTest_37 (by decide) ?_
            obtain ⟨k23, hk25, hf⟩ := jn_at hf
            have hJ24 : ∀ (x1_21 : Int32) (x2_22 : Int32), k23 x1_21 x2_22 = some (r, vM1) → ∀ (H : Heap) (locs : List Loc), va_P g.1 vwCl (cM g bM vM_19) H → va_D A (cM g bM vM_19) → va_S A s.heap H locs → ∀ ls : Array Slot, lv_has ls 5 [(0, .ref (bM 0)), (1, .int x1_21), (2, .int x2_22), (3, .int x3_8)] → W p l e (headSpec wsX8_nextTest rmX8_nextTest).room s m ([.ref (bM 0)] : List Value).toArray below meth c H locs 0 0 (MQ below (qI g A (cM g bM vM1) r) ([.ref (bM 0)] : List Value).toArray s 0 0 A) (F0 m 55 ls []) := by
              intro x1_21 x2_22 hf H locs hP hD hS ls hl
              rw [hk25] at hf
              dsimp only at hf
              clear hk25
              refine lv_iinc (v := (x3_8 + (1 : Int32))) (lv' := [(3, .int (x3_8 + (1 : Int32))), (0, .ref (bM 0)), (1, .int x1_21), (2, .int x2_22)]) hx hb dX8_nextTest_55 hl (k := 3) rfl rfl (by decide) rfl (fun ls hl => ?_)
              refine lv_goto (tgt := 21) hx hb dX8_nextTest_58 (by decide) ?_
              exact ih12 x1_21 x2_22 (x3_8 + (1 : Int32)) vM_19 hf H locs hP hD hS _ (lv_sub hl [1, 2, 3, 0] rfl)
            obtain ⟨k26, hk28, hf⟩ := jn_at hf
            have hJ27 : k26 = some (r, vM1) → ∀ (H : Heap) (locs : List Loc), va_P g.1 vwCl (cM g bM vM_19) H → va_D A (cM g bM vM_19) → va_S A s.heap H locs → ∀ ls : Array Slot, lv_has ls 5 [(0, .ref (bM 0)), (3, .int x3_8), (4, .int r18)] → W p l e (headSpec wsX8_nextTest rmX8_nextTest).room s m ([.ref (bM 0)] : List Value).toArray below meth c H locs 0 0 (MQ below (qI g A (cM g bM vM1) r) ([.ref (bM 0)] : List Value).toArray s 0 0 A) (F0 m 50 ls []) := by
              intro hf H locs hP hD hS ls hl
              rw [hk28] at hf
              clear hk28
              refine lv_iload_n hx hb dX8_nextTest_50 rfl (lv_at hl 1 rfl) ?_
              refine lv_istore_n (lv' := [(1, .int x3_8), (0, .ref (bM 0)), (3, .int x3_8), (4, .int r18)]) hx hb dX8_nextTest_51 rfl hl (by decide) rfl (fun ls hl => ?_)
              refine lv_iload hx hb dX8_nextTest_52 (lv_at hl 3 rfl) ?_
              refine lv_istore_n (lv' := [(2, .int r18), (1, .int x3_8), (0, .ref (bM 0)), (3, .int x3_8), (4, .int r18)]) hx hb dX8_nextTest_54 rfl hl (by decide) rfl (fun ls hl => ?_)
              exact hJ24 x3_8 r18 hf H locs hP hD hS _ (lv_sub hl [2, 1, 0, 3] rfl)
            refine lv_icmp_eq (tgt := 50) hx hb dX8_nextTest_38 (by decide) (fun c29 => ?_) (fun c29 => ?_)
            · have hf := it_t hf c29
              exact hJ27 hf H locs hP hD hS _ (lv_sub hl [1, 4, 0] rfl)
            · have hf := it_f hf c29
              refine lv_iload hx hb dX8_nextTest_41 (lv_at hl 0 rfl) ?_
              refine lv_iload_n hx hb dX8_nextTest_43 rfl (lv_at hl 3 rfl) ?_
              refine lv_icmp_lt (tgt := 50) hx hb dX8_nextTest_44 (by decide) (fun c30 => ?_) (fun c30 => ?_)
              · have hf := it_t hf c30
                exact hJ27 hf H locs hP hD hS _ (lv_sub hl [1, 4, 0] rfl)
              · have hf := it_f hf c30
                refine lv_goto (tgt := 55) hx hb dX8_nextTest_47 (by decide) ?_
                exact hJ24 x1_6 x2_7 hf H locs hP hD hS _ (lv_sub hl [1, 2, 3, 4] rfl)
      exact hL11 (-1 : Int32) (0 : Int32) (0 : Int32) vM_3 hf H locs hP hD hS _ (lv_sub hl [3, 2, 1, 0] rfl)
    · have hf := it_f hf c5
      refine lv_iconst (v := (-1 : Int32)) hx hb dX8_nextTest_13 (by decide) ?_
      obtain ⟨e31, e32⟩ := kp_2 hf
      rw [e32] at hP hD
      exact k_iret hx hb hr hlocks hK hP hD hS e31 dX8_nextTest_14
  rw [hH, hlo] at hW
  exact hW
def f_X8_adds_L61 (self13 : Int32 → Vs → Option (Vs)) (x4_11 : Int32) (vM_12 : Vs) : Option (Vs) :=
  if (6 : Int32) ≤ x4_11 then o1 (f_X8_tests vM_12) (fun (r17 : Int32) => o1 (f_X8_put vM_12 (4 : Int32) (r17 + (1 : Int32))) (fun (vM_19 : Vs) => some (vM_19))) else o1 (f_X8_tests vM_12) (fun (r22 : Int32) => o1 (f_X8_put vM_12 (((310 : Int32) + ((6 : Int32) * r22)) + x4_11) (2 : Int32)) (fun (vM_24 : Vs) => self13 (x4_11 + (1 : Int32)) vM_24))
def f_X8_adds_L15 (x1 : Int32) (x2 : Int32) (r1 : Int32) (self5 : Int32 → Vs → Option (Vs)) (x4_3 : Int32) (vM_4 : Vs) : Option (Vs) :=
  o1 (f_X8_inputs vM_4) (fun (r8 : Int32) => if r8 ≤ x4_3 then lp f_X8_adds_L61 (fun _ _ => none) FU (0 : Int32) vM_4 else jn (fun (t26 : Int32) => o1 (f_X8_put vM_4 (((182 : Int32) + ((8 : Int32) * r1)) + x4_3) t26) (fun (vM_29 : Vs) => self5 (x4_3 + (1 : Int32)) vM_29)) (fun k27 => if ((x2 >>> (x4_3 &&& 31)) &&& (1 : Int32)) = (1 : Int32) then k27 (2 : Int32) else k27 ((x1 >>> (x4_3 &&& 31)) &&& (1 : Int32))))
def f_X8_adds (vM : Vs) (x1 : Int32) (x2 : Int32) : Option (Vs) :=
  o1 (f_X8_tests vM) (fun (r1 : Int32) => lp (f_X8_adds_L15 x1 x2 r1) (fun _ _ => none) FU (0 : Int32) vM)
abbrev wsX8_adds : List Cond := .code yX8_adds cX8_adds 5 none :: UW
abbrev rmX8_adds : Room := { frames := 2, cells := 0, slots := 0, locals := 41 }
set_option maxHeartbeats 4000000 in
set_option maxRecDepth 100000 in
theorem c_X8_adds (l : Launch) (g : Gx) (bM : Nat → Nat) (vM : Vs) (x1 : Int32) (x2 : Int32) (vM1 : Vs) (hf : f_X8_adds vM x1 x2 = some vM1) : CtV l yX8_adds wsX8_adds rmX8_adds g [.ref (bM 0), .int x1, .int x2] (cM g bM vM) (cM g bM vM1) 0 0 := by
  unfold CtV
  intro sz
  refine Met.ofW (cc := cX8_adds) (maxL := 5) (ret := none) (by decide) rfl ?_
  intro p e s m args below meth c s₁ B hml hv
  obtain ⟨rfl, hsz, hP, hK, hD0, hG⟩ := hv
  have hx := B.exec
  have hb := B.bytes
  have hr := B.returns
  have hts := atoms_spec (ws := wsX8_adds) B.pre
  have hown : s.vm.findClass RX8 = some m.cls := findClass_of_methodNamed B.named
  have hlocks := B.notSynchronized
  subst hsz
  have hD := hD0.self (sz := s.heap.size)
  generalize hAe : va_A (cM g bM vM) s.heap.size = A at hD hG ⊢
  have hA : ∀ q : Nat, s.heap.size ≤ q → A q := fun q h => by rw [← hAe]; exact Or.inr h
  clear hAe hD0
  have hS : va_S A s.heap s.heap [] := va_S.rf
  have hl := lv_entry ([.ref (bM 0), .int x1, .int x2]) (n := 5) (Nat.le_of_ble_eq_true rfl)
  rw [lg_entry_eq]
  generalize (lg_sl ([.ref (bM 0), .int x1, .int x2]) ++ List.replicate (5 - (lg_sl ([.ref (bM 0), .int x1, .int x2])).length) Slot.unset).toArray = ls at hl ⊢
  have hl : lv_has ls 5 [(0, .ref (bM 0)), (1, .int x1), (2, .int x2)] := hl
  have htu : ∀ w ∈ UW, w.before _ s = true := fun w h => hts w (List.mem_cons_of_mem _ h)
  unfold f_X8_adds at hf
  obtain ⟨H, hH⟩ : ∃ z, z = s.heap := ⟨_, rfl⟩
  obtain ⟨locs, hlo⟩ : ∃ z : List Loc, z = [] := ⟨_, rfl⟩
  have hS : va_S A s.heap H locs := by rw [hH, hlo]; exact hS
  rw [← hH] at hP
  have hW : W p l e (headSpec wsX8_adds rmX8_adds).room s m ([.ref (bM 0), .int x1, .int x2] : List Value).toArray below meth c H locs 0 0 (MQ below (qV g A (cM g bM vM1)) ([.ref (bM 0), .int x1, .int x2] : List Value).toArray s 0 0 A) (F0 m 0 ls []) := by
    refine lv_sipush (v := (182 : Int32)) hx hb dX8_adds_0 (by decide) ?_
    refine lv_bipush (v := (8 : Int32)) hx hb dX8_adds_3 (by decide) ?_
    refine lv_aload_n hx hb dX8_adds_5 rfl (lv_at hl 0 rfl) ?_
    obtain ⟨r1, hg2, hf⟩ := o1_at hf
    refine k_viW ⟨hx, hb, hml, hown, htu⟩ hK hP hD hS hA hG (c_X8_tests l g bM vM r1 hg2) (cwV 0 htu (gU_V mw_6_48 hcX8_tests) rfl rfl rfl hdX8_tests ⟨Nat.le_of_ble_eq_true rfl, Nat.le_of_ble_eq_true rfl⟩) (q0 := 0) (ci := 8) (fs := fcM bM vM) (q := (RX8, TX8, 23)) rfl rfl rfl (As := []) (rest := [.int (8 : Int32), .int (182 : Int32)]) rfl rfl hl.1 (Nat.le_of_ble_eq_true rfl) dX8_adds_6 (k1 := 0) (n1 := 0) rfl rfl ⟨Nat.zero_le _, Nat.zero_le _⟩ (fun H locs hP hD hS => ?_)
    refine lv_imul hx hb dX8_adds_9 ?_
    refine lv_iadd hx hb dX8_adds_10 ?_
    refine lv_istore_n (lv' := [(3, .int ((182 : Int32) + ((8 : Int32) * r1))), (0, .ref (bM 0)), (1, .int x1), (2, .int x2)]) hx hb dX8_adds_11 rfl hl (by decide) rfl (fun ls hl => ?_)
    refine lv_iconst (v := (0 : Int32)) hx hb dX8_adds_12 (by decide) ?_
    refine lv_istore (lv' := [(4, .int (0 : Int32)), (3, .int ((182 : Int32) + ((8 : Int32) * r1))), (0, .ref (bM 0)), (1, .int x1), (2, .int x2)]) hx hb dX8_adds_13 hl (by decide) rfl (fun ls hl => ?_)
    have hL6 : ∀ (x4_3 : Int32) (vM_4 : Vs), lp (f_X8_adds_L15 x1 x2 r1) (fun _ _ => none) FU x4_3 vM_4 = some vM1 → ∀ (H : Heap) (locs : List Loc), va_P g.1 vwCl (cM g bM vM_4) H → va_D A (cM g bM vM_4) → va_S A s.heap H locs → ∀ ls : Array Slot, lv_has ls 5 [(0, .ref (bM 0)), (1, .int x1), (2, .int x2), (3, .int ((182 : Int32) + ((8 : Int32) * r1))), (4, .int x4_3)] → W p l e (headSpec wsX8_adds rmX8_adds).room s m ([.ref (bM 0), .int x1, .int x2] : List Value).toArray below meth c H locs 0 0 (MQ below (qV g A (cM g bM vM1)) ([.ref (bM 0), .int x1, .int x2] : List Value).toArray s 0 0 A) (F0 m 15 ls []) := by
      refine lp_ind (T := Int32 → Vs → Option (Vs)) (fun self5 => ∀ (x4_3 : Int32) (vM_4 : Vs), self5 x4_3 vM_4 = some vM1 → ∀ (H : Heap) (locs : List Loc), va_P g.1 vwCl (cM g bM vM_4) H → va_D A (cM g bM vM_4) → va_S A s.heap H locs → ∀ ls : Array Slot, lv_has ls 5 [(0, .ref (bM 0)), (1, .int x1), (2, .int x2), (3, .int ((182 : Int32) + ((8 : Int32) * r1))), (4, .int x4_3)] → W p l e (headSpec wsX8_adds rmX8_adds).room s m ([.ref (bM 0), .int x1, .int x2] : List Value).toArray below meth c H locs 0 0 (MQ below (qV g A (cM g bM vM1)) ([.ref (bM 0), .int x1, .int x2] : List Value).toArray s 0 0 A) (F0 m 15 ls [])) ?_ ?_ FU
      · intro x4_3 vM_4 hf; cases hf
      · intro self5 ih7 x4_3 vM_4 hf H locs hP hD hS ls hl
        unfold f_X8_adds_L15 at hf
        refine lv_iload hx hb dX8_adds_15 (lv_at hl 4 rfl) ?_
        refine lv_aload_n hx hb dX8_adds_17 rfl (lv_at hl 0 rfl) ?_
        obtain ⟨r8, hg9, hf⟩ := o1_at hf
        refine k_viW ⟨hx, hb, hml, hown, htu⟩ hK hP hD hS hA hG (c_X8_inputs l g bM vM_4 r8 hg9) (cwV 0 htu (gU_V mw_6_36 hcX8_inputs) rfl rfl rfl hdX8_inputs ⟨Nat.le_of_ble_eq_true rfl, Nat.le_of_ble_eq_true rfl⟩) (q0 := 0) (ci := 8) (fs := fcM bM vM_4) (q := (RX8, TX8, 23)) rfl rfl rfl (As := []) (rest := [.int x4_3]) rfl rfl hl.1 (Nat.le_of_ble_eq_true rfl) dX8_adds_18 (k1 := 0) (n1 := 0) rfl rfl ⟨Nat.zero_le _, Nat.zero_le _⟩ (fun H locs hP hD hS => ?_)
        refine lv_icmp_ge (tgt := 58) hx hb dX8_adds_21 (by decide) (fun c10 => ?_) (fun c10 => ?_)
        · have hf := it_t hf c10
          refine lv_iconst (v := (0 : Int32)) hx hb dX8_adds_58 (by decide) ?_
          refine lv_istore (lv' := [(4, .int (0 : Int32)), (0, .ref (bM 0)), (1, .int x1), (2, .int x2), (3, .int ((182 : Int32) + ((8 : Int32) * r1)))]) hx hb dX8_adds_59 hl (by decide) rfl (fun ls hl => ?_)
          have hL14 : ∀ (x4_11 : Int32) (vM_12 : Vs), lp f_X8_adds_L61 (fun _ _ => none) FU x4_11 vM_12 = some vM1 → ∀ (H : Heap) (locs : List Loc), va_P g.1 vwCl (cM g bM vM_12) H → va_D A (cM g bM vM_12) → va_S A s.heap H locs → ∀ ls : Array Slot, lv_has ls 5 [(0, .ref (bM 0)), (4, .int x4_11)] → W p l e (headSpec wsX8_adds rmX8_adds).room s m ([.ref (bM 0), .int x1, .int x2] : List Value).toArray below meth c H locs 0 0 (MQ below (qV g A (cM g bM vM1)) ([.ref (bM 0), .int x1, .int x2] : List Value).toArray s 0 0 A) (F0 m 61 ls []) := by
            refine lp_ind (T := Int32 → Vs → Option (Vs)) (fun self13 => ∀ (x4_11 : Int32) (vM_12 : Vs), self13 x4_11 vM_12 = some vM1 → ∀ (H : Heap) (locs : List Loc), va_P g.1 vwCl (cM g bM vM_12) H → va_D A (cM g bM vM_12) → va_S A s.heap H locs → ∀ ls : Array Slot, lv_has ls 5 [(0, .ref (bM 0)), (4, .int x4_11)] → W p l e (headSpec wsX8_adds rmX8_adds).room s m ([.ref (bM 0), .int x1, .int x2] : List Value).toArray below meth c H locs 0 0 (MQ below (qV g A (cM g bM vM1)) ([.ref (bM 0), .int x1, .int x2] : List Value).toArray s 0 0 A) (F0 m 61 ls [])) ?_ ?_ FU
            · intro x4_11 vM_12 hf; cases hf
            · intro self13 ih15 x4_11 vM_12 hf H locs hP hD hS ls hl
              unfold f_X8_adds_L61 at hf
              refine lv_iload hx hb dX8_adds_61 (lv_at hl 1 rfl) ?_
              refine lv_bipush (v := (6 : Int32)) hx hb dX8_adds_63 (by decide) ?_
              refine lv_icmp_ge (tgt := 93) hx hb dX8_adds_65 (by decide) (fun c16 => ?_) (fun c16 => ?_)
              · have hf := it_t hf c16
                refine lv_aload_n hx hb dX8_adds_93 rfl (lv_at hl 0 rfl) ?_
                refine lv_iconst (v := (4 : Int32)) hx hb dX8_adds_94 (by decide) ?_
                refine lv_aload_n hx hb dX8_adds_95 rfl (lv_at hl 0 rfl) ?_
                obtain ⟨r17, hg18, hf⟩ := o1_at hf
                refine k_viW ⟨hx, hb, hml, hown, htu⟩ hK hP hD hS hA hG (c_X8_tests l g bM vM_12 r17 hg18) (cwV 0 htu (gU_V mw_6_48 hcX8_tests) rfl rfl rfl hdX8_tests ⟨Nat.le_of_ble_eq_true rfl, Nat.le_of_ble_eq_true rfl⟩) (q0 := 0) (ci := 8) (fs := fcM bM vM_12) (q := (RX8, TX8, 23)) rfl rfl rfl (As := []) (rest := [.int (4 : Int32), .ref (bM 0)]) rfl rfl hl.1 (Nat.le_of_ble_eq_true rfl) dX8_adds_96 (k1 := 0) (n1 := 0) rfl rfl ⟨Nat.zero_le _, Nat.zero_le _⟩ (fun H locs hP hD hS => ?_)
                refine lv_iconst (v := (1 : Int32)) hx hb dX8_adds_99 (by decide) ?_
                refine lv_iadd hx hb dX8_adds_100 ?_
                obtain ⟨vM_19, hg20, hf⟩ := o1_at hf
                refine k_vvW ⟨hx, hb, hml, hown, htu⟩ hK hP hD hS hA hG (c_X8_put l g bM vM_12 (4 : Int32) (r17 + (1 : Int32)) vM_19 hg20) (cwV 2 htu (gU_V mw_5_68 hcX8_put) rfl rfl rfl hdX8_put ⟨Nat.le_of_ble_eq_true rfl, Nat.le_of_ble_eq_true rfl⟩) (q0 := 0) (ci := 8) (fs := fcM bM vM_12) (q := (RX8, TX8, 23)) rfl rfl rfl (As := [.int (4 : Int32), .int (r17 + (1 : Int32))]) (rest := []) rfl rfl hl.1 (Nat.le_of_ble_eq_true rfl) dX8_adds_101 (k1 := 0) (n1 := 0) rfl rfl ⟨Nat.zero_le _, Nat.zero_le _⟩ (fun H locs hP hD hS => ?_)
                have e21 := Option.some.inj hf
                rw [e21] at hP hD
                exact k_vret hx hb hr hlocks hK hP hD hS dX8_adds_104
              · have hf := it_f hf c16
                refine lv_aload_n hx hb dX8_adds_68 rfl (lv_at hl 0 rfl) ?_
                refine lv_sipush (v := (310 : Int32)) hx hb dX8_adds_69 (by decide) ?_
                refine lv_bipush (v := (6 : Int32)) hx hb dX8_adds_72 (by decide) ?_
                refine lv_aload_n hx hb dX8_adds_74 rfl (lv_at hl 0 rfl) ?_
                obtain ⟨r22, hg23, hf⟩ := o1_at hf
                refine k_viW ⟨hx, hb, hml, hown, htu⟩ hK hP hD hS hA hG (c_X8_tests l g bM vM_12 r22 hg23) (cwV 0 htu (gU_V mw_6_48 hcX8_tests) rfl rfl rfl hdX8_tests ⟨Nat.le_of_ble_eq_true rfl, Nat.le_of_ble_eq_true rfl⟩) (q0 := 0) (ci := 8) (fs := fcM bM vM_12) (q := (RX8, TX8, 23)) rfl rfl rfl (As := []) (rest := [.int (6 : Int32), .int (310 : Int32), .ref (bM 0)]) rfl rfl hl.1 (Nat.le_of_ble_eq_true rfl) dX8_adds_75 (k1 := 0) (n1 := 0) rfl rfl ⟨Nat.zero_le _, Nat.zero_le _⟩ (fun H locs hP hD hS => ?_)
                refine lv_imul hx hb dX8_adds_78 ?_
                refine lv_iadd hx hb dX8_adds_79 ?_
                refine lv_iload hx hb dX8_adds_80 (lv_at hl 1 rfl) ?_
                refine lv_iadd hx hb dX8_adds_82 ?_
                refine lv_iconst (v := (2 : Int32)) hx hb dX8_adds_83 (by decide) ?_
                obtain ⟨vM_24, hg25, hf⟩ := o1_at hf
                refine k_vvW ⟨hx, hb, hml, hown, htu⟩ hK hP hD hS hA hG (c_X8_put l g bM vM_12 (((310 : Int32) + ((6 : Int32) * r22)) + x4_11) (2 : Int32) vM_24 hg25) (cwV 2 htu (gU_V mw_5_68 hcX8_put) rfl rfl rfl hdX8_put ⟨Nat.le_of_ble_eq_true rfl, Nat.le_of_ble_eq_true rfl⟩) (q0 := 0) (ci := 8) (fs := fcM bM vM_12) (q := (RX8, TX8, 23)) rfl rfl rfl (As := [.int (((310 : Int32) + ((6 : Int32) * r22)) + x4_11), .int (2 : Int32)]) (rest := []) rfl rfl hl.1 (Nat.le_of_ble_eq_true rfl) dX8_adds_84 (k1 := 0) (n1 := 0) rfl rfl ⟨Nat.zero_le _, Nat.zero_le _⟩ (fun H locs hP hD hS => ?_)
                refine lv_iinc (v := (x4_11 + (1 : Int32))) (lv' := [(4, .int (x4_11 + (1 : Int32))), (0, .ref (bM 0))]) hx hb dX8_adds_87 hl (k := 1) rfl rfl (by decide) rfl (fun ls hl => ?_)
                refine lv_goto (tgt := 61) hx hb dX8_adds_90 (by decide) ?_
                exact ih15 (x4_11 + (1 : Int32)) vM_24 hf H locs hP hD hS _ (lv_sub hl [1, 0] rfl)
          exact hL14 (0 : Int32) vM_4 hf H locs hP hD hS _ (lv_sub hl [1, 0] rfl)
        · have hf := it_f hf c10
          refine lv_aload_n hx hb dX8_adds_24 rfl (lv_at hl 0 rfl) ?_
          refine lv_iload_n hx hb dX8_adds_25 rfl (lv_at hl 3 rfl) ?_
          refine lv_iload hx hb dX8_adds_26 (lv_at hl 4 rfl) ?_
          refine lv_iadd hx hb dX8_adds_28 ?_
          refine lv_iload_n hx hb dX8_adds_29 rfl (lv_at hl 2 rfl) ?_
          refine lv_iload hx hb dX8_adds_30 (lv_at hl 4 rfl) ?_
          refine lv_ishr hx hb dX8_adds_32 ?_
          refine lv_iconst (v := (1 : Int32)) hx hb dX8_adds_33 (by decide) ?_
          refine lv_iand hx hb dX8_adds_34 ?_
          refine lv_iconst (v := (1 : Int32)) hx hb dX8_adds_35 (by decide) ?_
          obtain ⟨k27, hk31, hf⟩ := jn_at hf
          have hJ28 : ∀ (t26 : Int32), k27 t26 = some vM1 → ∀ (H : Heap) (locs : List Loc), va_P g.1 vwCl (cM g bM vM_4) H → va_D A (cM g bM vM_4) → va_S A s.heap H locs → ∀ ls : Array Slot, lv_has ls 5 [(0, .ref (bM 0)), (1, .int x1), (2, .int x2), (3, .int ((182 : Int32) + ((8 : Int32) * r1))), (4, .int x4_3)] → W p l e (headSpec wsX8_adds rmX8_adds).room s m ([.ref (bM 0), .int x1, .int x2] : List Value).toArray below meth c H locs 0 0 (MQ below (qV g A (cM g bM vM1)) ([.ref (bM 0), .int x1, .int x2] : List Value).toArray s 0 0 A) (F0 m 49 ls [.int t26, .int (((182 : Int32) + ((8 : Int32) * r1)) + x4_3), .ref (bM 0)]) := by
            intro t26 hf H locs hP hD hS ls hl
            rw [hk31] at hf
            dsimp only at hf
            clear hk31
            obtain ⟨vM_29, hg30, hf⟩ := o1_at hf
            refine k_vvW ⟨hx, hb, hml, hown, htu⟩ hK hP hD hS hA hG (c_X8_put l g bM vM_4 (((182 : Int32) + ((8 : Int32) * r1)) + x4_3) t26 vM_29 hg30) (cwV 2 htu (gU_V mw_5_68 hcX8_put) rfl rfl rfl hdX8_put ⟨Nat.le_of_ble_eq_true rfl, Nat.le_of_ble_eq_true rfl⟩) (q0 := 0) (ci := 8) (fs := fcM bM vM_4) (q := (RX8, TX8, 23)) rfl rfl rfl (As := [.int (((182 : Int32) + ((8 : Int32) * r1)) + x4_3), .int t26]) (rest := []) rfl rfl hl.1 (Nat.le_of_ble_eq_true rfl) dX8_adds_49 (k1 := 0) (n1 := 0) rfl rfl ⟨Nat.zero_le _, Nat.zero_le _⟩ (fun H locs hP hD hS => ?_)
            refine lv_iinc (v := (x4_3 + (1 : Int32))) (lv' := [(4, .int (x4_3 + (1 : Int32))), (0, .ref (bM 0)), (1, .int x1), (2, .int x2), (3, .int ((182 : Int32) + ((8 : Int32) * r1)))]) hx hb dX8_adds_52 hl (k := 4) rfl rfl (by decide) rfl (fun ls hl => ?_)
            refine lv_goto (tgt := 15) hx hb dX8_adds_55 (by decide) ?_
            exact ih7 (x4_3 + (1 : Int32)) vM_29 hf H locs hP hD hS _ (lv_sub hl [1, 2, 3, 4, 0] rfl)
          refine lv_icmp_ne (tgt := 43) hx hb dX8_adds_36 (by decide) (fun c32 => ?_) (fun c32 => ?_)
          · have hf := it_f hf c32
            refine lv_iload_n hx hb dX8_adds_43 rfl (lv_at hl 1 rfl) ?_
            refine lv_iload hx hb dX8_adds_44 (lv_at hl 4 rfl) ?_
            refine lv_ishr hx hb dX8_adds_46 ?_
            refine lv_iconst (v := (1 : Int32)) hx hb dX8_adds_47 (by decide) ?_
            refine lv_iand hx hb dX8_adds_48 ?_
            exact hJ28 ((x1 >>> (x4_3 &&& 31)) &&& (1 : Int32)) hf H locs hP hD hS _ (lv_sub hl [0, 1, 2, 3, 4] rfl)
          · have hf := it_t hf c32
            refine lv_iconst (v := (2 : Int32)) hx hb dX8_adds_39 (by decide) ?_
            refine lv_goto (tgt := 49) hx hb dX8_adds_40 (by decide) ?_
            exact hJ28 (2 : Int32) hf H locs hP hD hS _ (lv_sub hl [0, 1, 2, 3, 4] rfl)
    exact hL6 (0 : Int32) vM hf H locs hP hD hS _ (lv_sub hl [2, 3, 4, 1, 0] rfl)
  rw [hH, hlo] at hW
  exact hW
def f_X8_addTest (vM : Vs) (x1 : Int32) (x2 : Int32) : Option (Int32 × Vs) :=
  bn (sF vM 0 (0 : Int32)) (fun (vM_1 : Vs) => o1 (f_X8_fulls vM_1) (fun (r2 : Int32) => o1 (f_X8_isIn x1 (0 : Int32) (r2 - (1 : Int32))) (fun (r4 : Int32) => jn (fun (t6 : Int32) => o2 (f_X8_right vM_1 t6 (1 : Int32)) (fun (r9 : Int32) (vM_10 : Vs) => jn (fun (vM_12 : Vs) => some ((0 : Int32), vM_12)) (fun k13 => if r9 = 0 then k13 vM_10 else o1 (f_X8_tests vM_10) (fun (r19 : Int32) => jn (fun (t21 : Int32) => o2 (f_X8_right vM_10 t21 (2 : Int32)) (fun (r24 : Int32) (vM_25 : Vs) => if r24 = 0 then k13 vM_25 else o1 (f_X8_change vM_25) (fun (vM_28 : Vs) => o1 (f_X8_adds vM_28 x1 x2) (fun (vM_30 : Vs) => o1 (f_X8_tests vM_30) (fun (r32 : Int32) => some ((r32 - (1 : Int32)), vM_30)))))) (fun k22 => if (16 : Int32) ≤ r19 then k22 (0 : Int32) else k22 (1 : Int32)))))) (fun k7 => jn (k7 (0 : Int32)) (fun k39 => if r4 = 0 then k39 else o1 (f_X8_fulls vM_1) (fun (r43 : Int32) => o1 (f_X8_isIn x2 (0 : Int32) (r43 - (1 : Int32))) (fun (r45 : Int32) => if r45 = 0 then k39 else if (x1 &&& x2) = 0 then k7 (1 : Int32) else k39)))))))
abbrev wsX8_addTest : List Cond := .code yX8_addTest cX8_addTest 3 (some .int) :: UW
abbrev rmX8_addTest : Room := { frames := 3, cells := 0, slots := 0, locals := 65 }
set_option maxHeartbeats 4000000 in
set_option maxRecDepth 100000 in
theorem c_X8_addTest (l : Launch) (g : Gx) (bM : Nat → Nat) (vM : Vs) (x1 : Int32) (x2 : Int32) (r : Int32) (vM1 : Vs) (hf : f_X8_addTest vM x1 x2 = some (r, vM1)) : CtI l yX8_addTest wsX8_addTest rmX8_addTest g [.ref (bM 0), .int x1, .int x2] (cM g bM vM) (cM g bM vM1) r 0 0 := by
  unfold CtI
  intro sz
  refine Met.ofW (cc := cX8_addTest) (maxL := 3) (ret := (some .int)) (by decide) rfl ?_
  intro p e s m args below meth c s₁ B hml hv
  obtain ⟨rfl, hsz, hP, hK, hD0, hG⟩ := hv
  have hx := B.exec
  have hb := B.bytes
  have hr := B.returns
  have hts := atoms_spec (ws := wsX8_addTest) B.pre
  have hown : s.vm.findClass RX8 = some m.cls := findClass_of_methodNamed B.named
  have hlocks := B.notSynchronized
  subst hsz
  have hD := hD0.self (sz := s.heap.size)
  generalize hAe : va_A (cM g bM vM) s.heap.size = A at hD hG ⊢
  have hA : ∀ q : Nat, s.heap.size ≤ q → A q := fun q h => by rw [← hAe]; exact Or.inr h
  clear hAe hD0
  have hS : va_S A s.heap s.heap [] := va_S.rf
  have hl := lv_entry ([.ref (bM 0), .int x1, .int x2]) (n := 3) (Nat.le_of_ble_eq_true rfl)
  rw [lg_entry_eq]
  generalize (lg_sl ([.ref (bM 0), .int x1, .int x2]) ++ List.replicate (3 - (lg_sl ([.ref (bM 0), .int x1, .int x2])).length) Slot.unset).toArray = ls at hl ⊢
  have hl : lv_has ls 3 [(0, .ref (bM 0)), (1, .int x1), (2, .int x2)] := hl
  have htu : ∀ w ∈ UW, w.before _ s = true := fun w h => hts w (List.mem_cons_of_mem _ h)
  have k_5_72 := htu _ mw_5_72
  unfold f_X8_addTest at hf
  obtain ⟨H, hH⟩ : ∃ z, z = s.heap := ⟨_, rfl⟩
  obtain ⟨locs, hlo⟩ : ∃ z : List Loc, z = [] := ⟨_, rfl⟩
  have hS : va_S A s.heap H locs := by rw [hH, hlo]; exact hS
  rw [← hH] at hP
  have hW : W p l e (headSpec wsX8_addTest rmX8_addTest).room s m ([.ref (bM 0), .int x1, .int x2] : List Value).toArray below meth c H locs 0 0 (MQ below (qI g A (cM g bM vM1) r) ([.ref (bM 0), .int x1, .int x2] : List Value).toArray s 0 0 A) (F0 m 0 ls []) := by
    refine lv_aload_n hx hb dX8_addTest_0 rfl (lv_at hl 0 rfl) ?_
    refine lv_iconst (v := (0 : Int32)) hx hb dX8_addTest_1 (by decide) ?_
    refine va_put (D := g.1) (ci := 8) (fs := fcM bM vM) (v := .int (0 : Int32)) (ty := .int) (C := RX8) (T := TX8) (N := 23) hx hb htu hinX8 tyX8 tyX8_ok nmX8 hown hK hP hD hS 0 rfl rfl 0 (by decide) k_5_72 (fun _ h9 => h9) rfl (by decide +kernel) rfl rfl (Nat.le_of_ble_eq_true rfl) dX8_addTest_2 (fun H locs hP hD hS => ?_)
    obtain ⟨vM_1, evM_1⟩ : ∃ z, z = sF vM 0 (0 : Int32) := ⟨_, rfl⟩
    have hf := bn_at hf evM_1
    have hP : va_P g.1 vwCl (cM g bM vM_1) H := by rw [evM_1]; exact hP
    have hD : va_D A (cM g bM vM_1) := by rw [evM_1]; exact hD
    refine lv_aload_n hx hb dX8_addTest_5 rfl (lv_at hl 0 rfl) ?_
    refine lv_iload_n hx hb dX8_addTest_6 rfl (lv_at hl 1 rfl) ?_
    refine lv_iconst (v := (0 : Int32)) hx hb dX8_addTest_7 (by decide) ?_
    refine lv_aload_n hx hb dX8_addTest_8 rfl (lv_at hl 0 rfl) ?_
    obtain ⟨r2, hg3, hf⟩ := o1_at hf
    refine k_viW ⟨hx, hb, hml, hown, htu⟩ hK hP hD hS hA hG (c_X8_fulls l g bM vM_1 r2 hg3) (cwV 0 htu (gU_V mw_6_178 hcX8_fulls) rfl rfl rfl hdX8_fulls ⟨Nat.le_of_ble_eq_true rfl, Nat.le_of_ble_eq_true rfl⟩) (q0 := 0) (ci := 8) (fs := fcM bM vM_1) (q := (RX8, TX8, 23)) rfl rfl rfl (As := []) (rest := [.int (0 : Int32), .int x1, .ref (bM 0)]) rfl rfl hl.1 (Nat.le_of_ble_eq_true rfl) dX8_addTest_9 (k1 := 0) (n1 := 0) rfl rfl ⟨Nat.zero_le _, Nat.zero_le _⟩ (fun H locs hP hD hS => ?_)
    refine lv_iconst (v := (1 : Int32)) hx hb dX8_addTest_12 (by decide) ?_
    refine lv_isub hx hb dX8_addTest_13 ?_
    obtain ⟨r4, hg5, hf⟩ := o1_at hf
    refine k_si0 ⟨hx, hb, hml, hown, htu⟩ hK hP hD hS hA hG (c_X8_isIn l g x1 (0 : Int32) (r2 - (1 : Int32)) r4 hg5) (va_cwS 3 htu (gU_S mw_5_163 hcX8_isIn) rfl rfl rfl hdX8_isIn ⟨Nat.le_of_ble_eq_true rfl, Nat.le_of_ble_eq_true rfl⟩) (As := [.int x1, .int (0 : Int32), .int (r2 - (1 : Int32))]) (rest := [.ref (bM 0)]) rfl rfl hl.1 (Nat.le_of_ble_eq_true rfl) dX8_addTest_14 (k1 := 0) (n1 := 0) rfl rfl ⟨Nat.zero_le _, Nat.zero_le _⟩ (fun H locs hP hD hS => ?_)
    obtain ⟨k7, hk38, hf⟩ := jn_at hf
    have hJ8 : ∀ (t6 : Int32), k7 t6 = some (r, vM1) → ∀ (H : Heap) (locs : List Loc), va_P g.1 vwCl (cM g bM vM_1) H → va_D A (cM g bM vM_1) → va_S A s.heap H locs → ∀ ls : Array Slot, lv_has ls 3 [(0, .ref (bM 0)), (1, .int x1), (2, .int x2)] → W p l e (headSpec wsX8_addTest rmX8_addTest).room s m ([.ref (bM 0), .int x1, .int x2] : List Value).toArray below meth c H locs 0 0 (MQ below (qI g A (cM g bM vM1) r) ([.ref (bM 0), .int x1, .int x2] : List Value).toArray s 0 0 A) (F0 m 45 ls [.int t6, .ref (bM 0)]) := by
      intro t6 hf H locs hP hD hS ls hl
      rw [hk38] at hf
      dsimp only at hf
      clear hk38
      refine lv_iconst (v := (1 : Int32)) hx hb dX8_addTest_45 (by decide) ?_
      obtain ⟨r9, vM_10, hg11, hf⟩ := o2_at hf
      refine k_viW ⟨hx, hb, hml, hown, htu⟩ hK hP hD hS hA hG (c_X8_right l g bM vM_1 t6 (1 : Int32) r9 vM_10 hg11) (cwV 2 htu (gU_V mw_5_166 hcX8_right) rfl rfl rfl hdX8_right ⟨Nat.le_of_ble_eq_true rfl, Nat.le_of_ble_eq_true rfl⟩) (q0 := 0) (ci := 8) (fs := fcM bM vM_1) (q := (RX8, TX8, 23)) rfl rfl rfl (As := [.int t6, .int (1 : Int32)]) (rest := []) rfl rfl hl.1 (Nat.le_of_ble_eq_true rfl) dX8_addTest_46 (k1 := 0) (n1 := 0) rfl rfl ⟨Nat.zero_le _, Nat.zero_le _⟩ (fun H locs hP hD hS => ?_)
      obtain ⟨k13, hk17, hf⟩ := jn_at hf
      have hJ14 : ∀ (vM_12 : Vs), k13 vM_12 = some (r, vM1) → ∀ (H : Heap) (locs : List Loc), va_P g.1 vwCl (cM g bM vM_12) H → va_D A (cM g bM vM_12) → va_S A s.heap H locs → ∀ ls : Array Slot, lv_has ls 3 [] → W p l e (headSpec wsX8_addTest rmX8_addTest).room s m ([.ref (bM 0), .int x1, .int x2] : List Value).toArray below meth c H locs 0 0 (MQ below (qI g A (cM g bM vM1) r) ([.ref (bM 0), .int x1, .int x2] : List Value).toArray s 0 0 A) (F0 m 74 ls []) := by
        intro vM_12 hf H locs hP hD hS ls hl
        rw [hk17] at hf
        dsimp only at hf
        clear hk17
        refine lv_iconst (v := (0 : Int32)) hx hb dX8_addTest_74 (by decide) ?_
        obtain ⟨e15, e16⟩ := kp_2 hf
        rw [e16] at hP hD
        exact k_iret hx hb hr hlocks hK hP hD hS e15 dX8_addTest_75
      refine lv_if_eq (tgt := 74) hx hb dX8_addTest_49 (by decide) (fun c18 => ?_) (fun c18 => ?_)
      · have hf := it_t hf c18
        exact hJ14 vM_10 hf H locs hP hD hS _ (lv_sub hl [] rfl)
      · have hf := it_f hf c18
        refine lv_aload_n hx hb dX8_addTest_52 rfl (lv_at hl 0 rfl) ?_
        refine lv_aload_n hx hb dX8_addTest_53 rfl (lv_at hl 0 rfl) ?_
        obtain ⟨r19, hg20, hf⟩ := o1_at hf
        refine k_viW ⟨hx, hb, hml, hown, htu⟩ hK hP hD hS hA hG (c_X8_tests l g bM vM_10 r19 hg20) (cwV 0 htu (gU_V mw_6_48 hcX8_tests) rfl rfl rfl hdX8_tests ⟨Nat.le_of_ble_eq_true rfl, Nat.le_of_ble_eq_true rfl⟩) (q0 := 0) (ci := 8) (fs := fcM bM vM_10) (q := (RX8, TX8, 23)) rfl rfl rfl (As := []) (rest := [.ref (bM 0)]) rfl rfl hl.1 (Nat.le_of_ble_eq_true rfl) dX8_addTest_54 (k1 := 0) (n1 := 0) rfl rfl ⟨Nat.zero_le _, Nat.zero_le _⟩ (fun H locs hP hD hS => ?_)
        refine lv_bipush (v := (16 : Int32)) hx hb dX8_addTest_57 (by decide) ?_
        obtain ⟨k22, hk36, hf⟩ := jn_at hf
        have hJ23 : ∀ (t21 : Int32), k22 t21 = some (r, vM1) → ∀ (H : Heap) (locs : List Loc), va_P g.1 vwCl (cM g bM vM_10) H → va_D A (cM g bM vM_10) → va_S A s.heap H locs → ∀ ls : Array Slot, lv_has ls 3 [(0, .ref (bM 0)), (1, .int x1), (2, .int x2)] → W p l e (headSpec wsX8_addTest rmX8_addTest).room s m ([.ref (bM 0), .int x1, .int x2] : List Value).toArray below meth c H locs 0 0 (MQ below (qI g A (cM g bM vM1) r) ([.ref (bM 0), .int x1, .int x2] : List Value).toArray s 0 0 A) (F0 m 67 ls [.int t21, .ref (bM 0)]) := by
          intro t21 hf H locs hP hD hS ls hl
          rw [hk36] at hf
          dsimp only at hf
          clear hk36
          refine lv_iconst (v := (2 : Int32)) hx hb dX8_addTest_67 (by decide) ?_
          obtain ⟨r24, vM_25, hg26, hf⟩ := o2_at hf
          refine k_viW ⟨hx, hb, hml, hown, htu⟩ hK hP hD hS hA hG (c_X8_right l g bM vM_10 t21 (2 : Int32) r24 vM_25 hg26) (cwV 2 htu (gU_V mw_5_166 hcX8_right) rfl rfl rfl hdX8_right ⟨Nat.le_of_ble_eq_true rfl, Nat.le_of_ble_eq_true rfl⟩) (q0 := 0) (ci := 8) (fs := fcM bM vM_10) (q := (RX8, TX8, 23)) rfl rfl rfl (As := [.int t21, .int (2 : Int32)]) (rest := []) rfl rfl hl.1 (Nat.le_of_ble_eq_true rfl) dX8_addTest_68 (k1 := 0) (n1 := 0) rfl rfl ⟨Nat.zero_le _, Nat.zero_le _⟩ (fun H locs hP hD hS => ?_)
          refine lv_if_ne (tgt := 76) hx hb dX8_addTest_71 (by decide) (fun c27 => ?_) (fun c27 => ?_)
          · have hf := it_f hf c27
            refine lv_aload_n hx hb dX8_addTest_76 rfl (lv_at hl 0 rfl) ?_
            obtain ⟨vM_28, hg29, hf⟩ := o1_at hf
            refine k_vvW ⟨hx, hb, hml, hown, htu⟩ hK hP hD hS hA hG (c_X8_change l g bM vM_25 vM_28 hg29) (cwV 0 htu (gU_V mw_6_16 hcX8_change) rfl rfl rfl hdX8_change ⟨Nat.le_of_ble_eq_true rfl, Nat.le_of_ble_eq_true rfl⟩) (q0 := 0) (ci := 8) (fs := fcM bM vM_25) (q := (RX8, TX8, 23)) rfl rfl rfl (As := []) (rest := []) rfl rfl hl.1 (Nat.le_of_ble_eq_true rfl) dX8_addTest_77 (k1 := 0) (n1 := 0) rfl rfl ⟨Nat.zero_le _, Nat.zero_le _⟩ (fun H locs hP hD hS => ?_)
            refine lv_aload_n hx hb dX8_addTest_80 rfl (lv_at hl 0 rfl) ?_
            refine lv_iload_n hx hb dX8_addTest_81 rfl (lv_at hl 1 rfl) ?_
            refine lv_iload_n hx hb dX8_addTest_82 rfl (lv_at hl 2 rfl) ?_
            obtain ⟨vM_30, hg31, hf⟩ := o1_at hf
            refine k_vvW ⟨hx, hb, hml, hown, htu⟩ hK hP hD hS hA hG (c_X8_adds l g bM vM_28 x1 x2 vM_30 hg31) (cwV 2 htu (gU_V mw_7_29 hcX8_adds) rfl rfl rfl hdX8_adds ⟨Nat.le_of_ble_eq_true rfl, Nat.le_of_ble_eq_true rfl⟩) (q0 := 0) (ci := 8) (fs := fcM bM vM_28) (q := (RX8, TX8, 23)) rfl rfl rfl (As := [.int x1, .int x2]) (rest := []) rfl rfl hl.1 (Nat.le_of_ble_eq_true rfl) dX8_addTest_83 (k1 := 0) (n1 := 0) rfl rfl ⟨Nat.zero_le _, Nat.zero_le _⟩ (fun H locs hP hD hS => ?_)
            refine lv_aload_n hx hb dX8_addTest_86 rfl (lv_at hl 0 rfl) ?_
            obtain ⟨r32, hg33, hf⟩ := o1_at hf
            refine k_viW ⟨hx, hb, hml, hown, htu⟩ hK hP hD hS hA hG (c_X8_tests l g bM vM_30 r32 hg33) (cwV 0 htu (gU_V mw_6_48 hcX8_tests) rfl rfl rfl hdX8_tests ⟨Nat.le_of_ble_eq_true rfl, Nat.le_of_ble_eq_true rfl⟩) (q0 := 0) (ci := 8) (fs := fcM bM vM_30) (q := (RX8, TX8, 23)) rfl rfl rfl (As := []) (rest := []) rfl rfl hl.1 (Nat.le_of_ble_eq_true rfl) dX8_addTest_87 (k1 := 0) (n1 := 0) rfl rfl ⟨Nat.zero_le _, Nat.zero_le _⟩ (fun H locs hP hD hS => ?_)
            refine lv_iconst (v := (1 : Int32)) hx hb dX8_addTest_90 (by decide) ?_
            refine lv_isub hx hb dX8_addTest_91 ?_
            obtain ⟨e34, e35⟩ := kp_2 hf
            rw [e35] at hP hD
            exact k_iret hx hb hr hlocks hK hP hD hS e34 dX8_addTest_92
          · have hf := it_t hf c27
            exact hJ14 vM_25 hf H locs hP hD hS _ (lv_sub hl [] rfl)
        refine lv_icmp_ge (tgt := 66) hx hb dX8_addTest_59 (by decide) (fun c37 => ?_) (fun c37 => ?_)
        · have hf := it_t hf c37
          refine lv_iconst (v := (0 : Int32)) hx hb dX8_addTest_66 (by decide) ?_
          exact hJ23 (0 : Int32) hf H locs hP hD hS _ (lv_sub hl [0, 1, 2] rfl)
        · have hf := it_f hf c37
          refine lv_iconst (v := (1 : Int32)) hx hb dX8_addTest_62 (by decide) ?_
          refine lv_goto (tgt := 67) hx hb dX8_addTest_63 (by decide) ?_
          exact hJ23 (1 : Int32) hf H locs hP hD hS _ (lv_sub hl [0, 1, 2] rfl)
    obtain ⟨k39, hk41, hf⟩ := jn_at hf
    have hJ40 : k39 = some (r, vM1) → ∀ (H : Heap) (locs : List Loc), va_P g.1 vwCl (cM g bM vM_1) H → va_D A (cM g bM vM_1) → va_S A s.heap H locs → ∀ ls : Array Slot, lv_has ls 3 [(0, .ref (bM 0)), (1, .int x1), (2, .int x2)] → W p l e (headSpec wsX8_addTest rmX8_addTest).room s m ([.ref (bM 0), .int x1, .int x2] : List Value).toArray below meth c H locs 0 0 (MQ below (qI g A (cM g bM vM1) r) ([.ref (bM 0), .int x1, .int x2] : List Value).toArray s 0 0 A) (F0 m 44 ls [.ref (bM 0)]) := by
      intro hf H locs hP hD hS ls hl
      rw [hk41] at hf
      clear hk41
      refine lv_iconst (v := (0 : Int32)) hx hb dX8_addTest_44 (by decide) ?_
      exact hJ8 (0 : Int32) hf H locs hP hD hS _ (lv_sub hl [0, 1, 2] rfl)
    refine lv_if_eq (tgt := 44) hx hb dX8_addTest_17 (by decide) (fun c42 => ?_) (fun c42 => ?_)
    · have hf := it_t hf c42
      exact hJ40 hf H locs hP hD hS _ (lv_sub hl [0, 1, 2] rfl)
    · have hf := it_f hf c42
      refine lv_iload_n hx hb dX8_addTest_20 rfl (lv_at hl 2 rfl) ?_
      refine lv_iconst (v := (0 : Int32)) hx hb dX8_addTest_21 (by decide) ?_
      refine lv_aload_n hx hb dX8_addTest_22 rfl (lv_at hl 0 rfl) ?_
      obtain ⟨r43, hg44, hf⟩ := o1_at hf
      refine k_viW ⟨hx, hb, hml, hown, htu⟩ hK hP hD hS hA hG (c_X8_fulls l g bM vM_1 r43 hg44) (cwV 0 htu (gU_V mw_6_178 hcX8_fulls) rfl rfl rfl hdX8_fulls ⟨Nat.le_of_ble_eq_true rfl, Nat.le_of_ble_eq_true rfl⟩) (q0 := 0) (ci := 8) (fs := fcM bM vM_1) (q := (RX8, TX8, 23)) rfl rfl rfl (As := []) (rest := [.int (0 : Int32), .int x2, .ref (bM 0)]) rfl rfl hl.1 (Nat.le_of_ble_eq_true rfl) dX8_addTest_23 (k1 := 0) (n1 := 0) rfl rfl ⟨Nat.zero_le _, Nat.zero_le _⟩ (fun H locs hP hD hS => ?_)
      refine lv_iconst (v := (1 : Int32)) hx hb dX8_addTest_26 (by decide) ?_
      refine lv_isub hx hb dX8_addTest_27 ?_
      obtain ⟨r45, hg46, hf⟩ := o1_at hf
      refine k_si0 ⟨hx, hb, hml, hown, htu⟩ hK hP hD hS hA hG (c_X8_isIn l g x2 (0 : Int32) (r43 - (1 : Int32)) r45 hg46) (va_cwS 3 htu (gU_S mw_5_163 hcX8_isIn) rfl rfl rfl hdX8_isIn ⟨Nat.le_of_ble_eq_true rfl, Nat.le_of_ble_eq_true rfl⟩) (As := [.int x2, .int (0 : Int32), .int (r43 - (1 : Int32))]) (rest := [.ref (bM 0)]) rfl rfl hl.1 (Nat.le_of_ble_eq_true rfl) dX8_addTest_28 (k1 := 0) (n1 := 0) rfl rfl ⟨Nat.zero_le _, Nat.zero_le _⟩ (fun H locs hP hD hS => ?_)
      refine lv_if_eq (tgt := 44) hx hb dX8_addTest_31 (by decide) (fun c47 => ?_) (fun c47 => ?_)
      · have hf := it_t hf c47
        exact hJ40 hf H locs hP hD hS _ (lv_sub hl [0, 1, 2] rfl)
      · have hf := it_f hf c47
        refine lv_iload_n hx hb dX8_addTest_34 rfl (lv_at hl 1 rfl) ?_
        refine lv_iload_n hx hb dX8_addTest_35 rfl (lv_at hl 2 rfl) ?_
        refine lv_iand hx hb dX8_addTest_36 ?_
        refine lv_if_ne (tgt := 44) hx hb dX8_addTest_37 (by decide) (fun c48 => ?_) (fun c48 => ?_)
        · have hf := it_f hf c48
          exact hJ40 hf H locs hP hD hS _ (lv_sub hl [0, 1, 2] rfl)
        · have hf := it_t hf c48
          refine lv_iconst (v := (1 : Int32)) hx hb dX8_addTest_40 (by decide) ?_
          refine lv_goto (tgt := 45) hx hb dX8_addTest_41 (by decide) ?_
          exact hJ8 (1 : Int32) hf H locs hP hD hS _ (lv_sub hl [0, 1, 2] rfl)
  rw [hH, hlo] at hW
  exact hW
def f_X8_removeTest_L78 (x2_8 : Int32) (self10 : Int32 → Vs → Option (Int32 × Vs)) (self32 : Int32 → Vs → Option (Int32 × Vs)) (x3_30 : Int32) (vM_31 : Vs) : Option (Int32 × Vs) :=
  if (6 : Int32) ≤ x3_30 then self10 (x2_8 + (1 : Int32)) vM_31 else o1 (f_X8_get vM_31 ((((310 : Int32) + ((6 : Int32) * x2_8)) + (6 : Int32)) + x3_30)) (fun (r36 : Int32) => o1 (f_X8_put vM_31 (((310 : Int32) + ((6 : Int32) * x2_8)) + x3_30) r36) (fun (vM_38 : Vs) => self32 (x3_30 + (1 : Int32)) vM_38))
def f_X8_removeTest_L33 (x2_8 : Int32) (self10 : Int32 → Vs → Option (Int32 × Vs)) (self26 : Int32 → Vs → Option (Int32 × Vs)) (x3_24 : Int32) (vM_25 : Vs) : Option (Int32 × Vs) :=
  if (8 : Int32) ≤ x3_24 then lp (f_X8_removeTest_L78 x2_8 self10) (fun _ _ => none) FU (0 : Int32) vM_25 else o1 (f_X8_get vM_25 ((((182 : Int32) + ((8 : Int32) * x2_8)) + (8 : Int32)) + x3_24)) (fun (r40 : Int32) => o1 (f_X8_put vM_25 (((182 : Int32) + ((8 : Int32) * x2_8)) + x3_24) r40) (fun (vM_42 : Vs) => self26 (x3_24 + (1 : Int32)) vM_42))
def f_X8_removeTest_L21 (self10 : Int32 → Vs → Option (Int32 × Vs)) (x2_8 : Int32) (vM_9 : Vs) : Option (Int32 × Vs) :=
  o1 (f_X8_tests vM_9) (fun (r13 : Int32) => if r13 ≤ (x2_8 + (1 : Int32)) then o1 (f_X8_tests vM_9) (fun (r16 : Int32) => o1 (f_X8_put vM_9 (4 : Int32) (r16 - (1 : Int32))) (fun (vM_18 : Vs) => o1 (f_X8_tests vM_18) (fun (r20 : Int32) => some (r20, vM_18)))) else lp (f_X8_removeTest_L33 x2_8 self10) (fun _ _ => none) FU (0 : Int32) vM_9)
def f_X8_removeTest (vM : Vs) (x1 : Int32) : Option (Int32 × Vs) :=
  bn (sF vM 0 (0 : Int32)) (fun (vM_1 : Vs) => o2 (f_X8_isTest vM_1 x1) (fun (r2 : Int32) (vM_3 : Vs) => if r2 = 0 then some ((0 : Int32), vM_3) else o1 (f_X8_change vM_3) (fun (vM_6 : Vs) => lp f_X8_removeTest_L21 (fun _ _ => none) FU x1 vM_6)))
abbrev wsX8_removeTest : List Cond := .code yX8_removeTest cX8_removeTest 4 (some .int) :: UW
abbrev rmX8_removeTest : Room := { frames := 3, cells := 0, slots := 0, locals := 62 }
set_option maxHeartbeats 4000000 in
set_option maxRecDepth 100000 in
theorem c_X8_removeTest (l : Launch) (g : Gx) (bM : Nat → Nat) (vM : Vs) (x1 : Int32) (r : Int32) (vM1 : Vs) (hf : f_X8_removeTest vM x1 = some (r, vM1)) : CtI l yX8_removeTest wsX8_removeTest rmX8_removeTest g [.ref (bM 0), .int x1] (cM g bM vM) (cM g bM vM1) r 0 0 := by
  unfold CtI
  intro sz
  refine Met.ofW (cc := cX8_removeTest) (maxL := 4) (ret := (some .int)) (by decide) rfl ?_
  intro p e s m args below meth c s₁ B hml hv
  obtain ⟨rfl, hsz, hP, hK, hD0, hG⟩ := hv
  have hx := B.exec
  have hb := B.bytes
  have hr := B.returns
  have hts := atoms_spec (ws := wsX8_removeTest) B.pre
  have hown : s.vm.findClass RX8 = some m.cls := findClass_of_methodNamed B.named
  have hlocks := B.notSynchronized
  subst hsz
  have hD := hD0.self (sz := s.heap.size)
  generalize hAe : va_A (cM g bM vM) s.heap.size = A at hD hG ⊢
  have hA : ∀ q : Nat, s.heap.size ≤ q → A q := fun q h => by rw [← hAe]; exact Or.inr h
  clear hAe hD0
  have hS : va_S A s.heap s.heap [] := va_S.rf
  have hl := lv_entry ([.ref (bM 0), .int x1]) (n := 4) (Nat.le_of_ble_eq_true rfl)
  rw [lg_entry_eq]
  generalize (lg_sl ([.ref (bM 0), .int x1]) ++ List.replicate (4 - (lg_sl ([.ref (bM 0), .int x1])).length) Slot.unset).toArray = ls at hl ⊢
  have hl : lv_has ls 4 [(0, .ref (bM 0)), (1, .int x1)] := hl
  have htu : ∀ w ∈ UW, w.before _ s = true := fun w h => hts w (List.mem_cons_of_mem _ h)
  have k_5_72 := htu _ mw_5_72
  unfold f_X8_removeTest at hf
  obtain ⟨H, hH⟩ : ∃ z, z = s.heap := ⟨_, rfl⟩
  obtain ⟨locs, hlo⟩ : ∃ z : List Loc, z = [] := ⟨_, rfl⟩
  have hS : va_S A s.heap H locs := by rw [hH, hlo]; exact hS
  rw [← hH] at hP
  have hW : W p l e (headSpec wsX8_removeTest rmX8_removeTest).room s m ([.ref (bM 0), .int x1] : List Value).toArray below meth c H locs 0 0 (MQ below (qI g A (cM g bM vM1) r) ([.ref (bM 0), .int x1] : List Value).toArray s 0 0 A) (F0 m 0 ls []) := by
    refine lv_aload_n hx hb dX8_removeTest_0 rfl (lv_at hl 0 rfl) ?_
    refine lv_iconst (v := (0 : Int32)) hx hb dX8_removeTest_1 (by decide) ?_
    refine va_put (D := g.1) (ci := 8) (fs := fcM bM vM) (v := .int (0 : Int32)) (ty := .int) (C := RX8) (T := TX8) (N := 23) hx hb htu hinX8 tyX8 tyX8_ok nmX8 hown hK hP hD hS 0 rfl rfl 0 (by decide) k_5_72 (fun _ h9 => h9) rfl (by decide +kernel) rfl rfl (Nat.le_of_ble_eq_true rfl) dX8_removeTest_2 (fun H locs hP hD hS => ?_)
    obtain ⟨vM_1, evM_1⟩ : ∃ z, z = sF vM 0 (0 : Int32) := ⟨_, rfl⟩
    have hf := bn_at hf evM_1
    have hP : va_P g.1 vwCl (cM g bM vM_1) H := by rw [evM_1]; exact hP
    have hD : va_D A (cM g bM vM_1) := by rw [evM_1]; exact hD
    refine lv_aload_n hx hb dX8_removeTest_5 rfl (lv_at hl 0 rfl) ?_
    refine lv_iload_n hx hb dX8_removeTest_6 rfl (lv_at hl 1 rfl) ?_
    obtain ⟨r2, vM_3, hg4, hf⟩ := o2_at hf
    refine k_viW ⟨hx, hb, hml, hown, htu⟩ hK hP hD hS hA hG (c_X8_isTest l g bM vM_1 x1 r2 vM_3 hg4) (cwV 1 htu (gU_V mw_6_142 hcX8_isTest) rfl rfl rfl hdX8_isTest ⟨Nat.le_of_ble_eq_true rfl, Nat.le_of_ble_eq_true rfl⟩) (q0 := 0) (ci := 8) (fs := fcM bM vM_1) (q := (RX8, TX8, 23)) rfl rfl rfl (As := [.int x1]) (rest := []) rfl rfl hl.1 (Nat.le_of_ble_eq_true rfl) dX8_removeTest_7 (k1 := 0) (n1 := 0) rfl rfl ⟨Nat.zero_le _, Nat.zero_le _⟩ (fun H locs hP hD hS => ?_)
    refine lv_if_ne (tgt := 15) hx hb dX8_removeTest_10 (by decide) (fun c5 => ?_) (fun c5 => ?_)
    · have hf := it_f hf c5
      refine lv_aload_n hx hb dX8_removeTest_15 rfl (lv_at hl 0 rfl) ?_
      obtain ⟨vM_6, hg7, hf⟩ := o1_at hf
      refine k_vvW ⟨hx, hb, hml, hown, htu⟩ hK hP hD hS hA hG (c_X8_change l g bM vM_3 vM_6 hg7) (cwV 0 htu (gU_V mw_6_16 hcX8_change) rfl rfl rfl hdX8_change ⟨Nat.le_of_ble_eq_true rfl, Nat.le_of_ble_eq_true rfl⟩) (q0 := 0) (ci := 8) (fs := fcM bM vM_3) (q := (RX8, TX8, 23)) rfl rfl rfl (As := []) (rest := []) rfl rfl hl.1 (Nat.le_of_ble_eq_true rfl) dX8_removeTest_16 (k1 := 0) (n1 := 0) rfl rfl ⟨Nat.zero_le _, Nat.zero_le _⟩ (fun H locs hP hD hS => ?_)
      refine lv_iload_n hx hb dX8_removeTest_19 rfl (lv_at hl 1 rfl) ?_
      refine lv_istore_n (lv' := [(2, .int x1), (0, .ref (bM 0)), (1, .int x1)]) hx hb dX8_removeTest_20 rfl hl (by decide) rfl (fun ls hl => ?_)
      have hL11 : ∀ (x2_8 : Int32) (vM_9 : Vs), lp f_X8_removeTest_L21 (fun _ _ => none) FU x2_8 vM_9 = some (r, vM1) → ∀ (H : Heap) (locs : List Loc), va_P g.1 vwCl (cM g bM vM_9) H → va_D A (cM g bM vM_9) → va_S A s.heap H locs → ∀ ls : Array Slot, lv_has ls 4 [(0, .ref (bM 0)), (2, .int x2_8)] → W p l e (headSpec wsX8_removeTest rmX8_removeTest).room s m ([.ref (bM 0), .int x1] : List Value).toArray below meth c H locs 0 0 (MQ below (qI g A (cM g bM vM1) r) ([.ref (bM 0), .int x1] : List Value).toArray s 0 0 A) (F0 m 21 ls []) := by
        refine lp_ind (T := Int32 → Vs → Option (Int32 × Vs)) (fun self10 => ∀ (x2_8 : Int32) (vM_9 : Vs), self10 x2_8 vM_9 = some (r, vM1) → ∀ (H : Heap) (locs : List Loc), va_P g.1 vwCl (cM g bM vM_9) H → va_D A (cM g bM vM_9) → va_S A s.heap H locs → ∀ ls : Array Slot, lv_has ls 4 [(0, .ref (bM 0)), (2, .int x2_8)] → W p l e (headSpec wsX8_removeTest rmX8_removeTest).room s m ([.ref (bM 0), .int x1] : List Value).toArray below meth c H locs 0 0 (MQ below (qI g A (cM g bM vM1) r) ([.ref (bM 0), .int x1] : List Value).toArray s 0 0 A) (F0 m 21 ls [])) ?_ ?_ FU
        · intro x2_8 vM_9 hf; cases hf
        · intro self10 ih12 x2_8 vM_9 hf H locs hP hD hS ls hl
          unfold f_X8_removeTest_L21 at hf
          refine lv_iload_n hx hb dX8_removeTest_21 rfl (lv_at hl 1 rfl) ?_
          refine lv_iconst (v := (1 : Int32)) hx hb dX8_removeTest_22 (by decide) ?_
          refine lv_iadd hx hb dX8_removeTest_23 ?_
          refine lv_aload_n hx hb dX8_removeTest_24 rfl (lv_at hl 0 rfl) ?_
          obtain ⟨r13, hg14, hf⟩ := o1_at hf
          refine k_viW ⟨hx, hb, hml, hown, htu⟩ hK hP hD hS hA hG (c_X8_tests l g bM vM_9 r13 hg14) (cwV 0 htu (gU_V mw_6_48 hcX8_tests) rfl rfl rfl hdX8_tests ⟨Nat.le_of_ble_eq_true rfl, Nat.le_of_ble_eq_true rfl⟩) (q0 := 0) (ci := 8) (fs := fcM bM vM_9) (q := (RX8, TX8, 23)) rfl rfl rfl (As := []) (rest := [.int (x2_8 + (1 : Int32))]) rfl rfl hl.1 (Nat.le_of_ble_eq_true rfl) dX8_removeTest_25 (k1 := 0) (n1 := 0) rfl rfl ⟨Nat.zero_le _, Nat.zero_le _⟩ (fun H locs hP hD hS => ?_)
          refine lv_icmp_ge (tgt := 127) hx hb dX8_removeTest_28 (by decide) (fun c15 => ?_) (fun c15 => ?_)
          · have hf := it_t hf c15
            refine lv_aload_n hx hb dX8_removeTest_127 rfl (lv_at hl 0 rfl) ?_
            refine lv_iconst (v := (4 : Int32)) hx hb dX8_removeTest_128 (by decide) ?_
            refine lv_aload_n hx hb dX8_removeTest_129 rfl (lv_at hl 0 rfl) ?_
            obtain ⟨r16, hg17, hf⟩ := o1_at hf
            refine k_viW ⟨hx, hb, hml, hown, htu⟩ hK hP hD hS hA hG (c_X8_tests l g bM vM_9 r16 hg17) (cwV 0 htu (gU_V mw_6_48 hcX8_tests) rfl rfl rfl hdX8_tests ⟨Nat.le_of_ble_eq_true rfl, Nat.le_of_ble_eq_true rfl⟩) (q0 := 0) (ci := 8) (fs := fcM bM vM_9) (q := (RX8, TX8, 23)) rfl rfl rfl (As := []) (rest := [.int (4 : Int32), .ref (bM 0)]) rfl rfl hl.1 (Nat.le_of_ble_eq_true rfl) dX8_removeTest_130 (k1 := 0) (n1 := 0) rfl rfl ⟨Nat.zero_le _, Nat.zero_le _⟩ (fun H locs hP hD hS => ?_)
            refine lv_iconst (v := (1 : Int32)) hx hb dX8_removeTest_133 (by decide) ?_
            refine lv_isub hx hb dX8_removeTest_134 ?_
            obtain ⟨vM_18, hg19, hf⟩ := o1_at hf
            refine k_vvW ⟨hx, hb, hml, hown, htu⟩ hK hP hD hS hA hG (c_X8_put l g bM vM_9 (4 : Int32) (r16 - (1 : Int32)) vM_18 hg19) (cwV 2 htu (gU_V mw_5_68 hcX8_put) rfl rfl rfl hdX8_put ⟨Nat.le_of_ble_eq_true rfl, Nat.le_of_ble_eq_true rfl⟩) (q0 := 0) (ci := 8) (fs := fcM bM vM_9) (q := (RX8, TX8, 23)) rfl rfl rfl (As := [.int (4 : Int32), .int (r16 - (1 : Int32))]) (rest := []) rfl rfl hl.1 (Nat.le_of_ble_eq_true rfl) dX8_removeTest_135 (k1 := 0) (n1 := 0) rfl rfl ⟨Nat.zero_le _, Nat.zero_le _⟩ (fun H locs hP hD hS => ?_)
            refine lv_aload_n hx hb dX8_removeTest_138 rfl (lv_at hl 0 rfl) ?_
            obtain ⟨r20, hg21, hf⟩ := o1_at hf
            refine k_viW ⟨hx, hb, hml, hown, htu⟩ hK hP hD hS hA hG (c_X8_tests l g bM vM_18 r20 hg21) (cwV 0 htu (gU_V mw_6_48 hcX8_tests) rfl rfl rfl hdX8_tests ⟨Nat.le_of_ble_eq_true rfl, Nat.le_of_ble_eq_true rfl⟩) (q0 := 0) (ci := 8) (fs := fcM bM vM_18) (q := (RX8, TX8, 23)) rfl rfl rfl (As := []) (rest := []) rfl rfl hl.1 (Nat.le_of_ble_eq_true rfl) dX8_removeTest_139 (k1 := 0) (n1 := 0) rfl rfl ⟨Nat.zero_le _, Nat.zero_le _⟩ (fun H locs hP hD hS => ?_)
            obtain ⟨e22, e23⟩ := kp_2 hf
            rw [e23] at hP hD
            exact k_iret hx hb hr hlocks hK hP hD hS e22 dX8_removeTest_142
          · have hf := it_f hf c15
            refine lv_iconst (v := (0 : Int32)) hx hb dX8_removeTest_31 (by decide) ?_
            refine lv_istore_n (lv' := [(3, .int (0 : Int32)), (0, .ref (bM 0)), (2, .int x2_8)]) hx hb dX8_removeTest_32 rfl hl (by decide) rfl (fun ls hl => ?_)
            have hL27 : ∀ (x3_24 : Int32) (vM_25 : Vs), lp (f_X8_removeTest_L33 x2_8 self10) (fun _ _ => none) FU x3_24 vM_25 = some (r, vM1) → ∀ (H : Heap) (locs : List Loc), va_P g.1 vwCl (cM g bM vM_25) H → va_D A (cM g bM vM_25) → va_S A s.heap H locs → ∀ ls : Array Slot, lv_has ls 4 [(0, .ref (bM 0)), (2, .int x2_8), (3, .int x3_24)] → W p l e (headSpec wsX8_removeTest rmX8_removeTest).room s m ([.ref (bM 0), .int x1] : List Value).toArray below meth c H locs 0 0 (MQ below (qI g A (cM g bM vM1) r) ([.ref (bM 0), .int x1] : List Value).toArray s 0 0 A) (F0 m 33 ls []) := by
              refine lp_ind (T := Int32 → Vs → Option (Int32 × Vs)) (fun self26 => ∀ (x3_24 : Int32) (vM_25 : Vs), self26 x3_24 vM_25 = some (r, vM1) → ∀ (H : Heap) (locs : List Loc), va_P g.1 vwCl (cM g bM vM_25) H → va_D A (cM g bM vM_25) → va_S A s.heap H locs → ∀ ls : Array Slot, lv_has ls 4 [(0, .ref (bM 0)), (2, .int x2_8), (3, .int x3_24)] → W p l e (headSpec wsX8_removeTest rmX8_removeTest).room s m ([.ref (bM 0), .int x1] : List Value).toArray below meth c H locs 0 0 (MQ below (qI g A (cM g bM vM1) r) ([.ref (bM 0), .int x1] : List Value).toArray s 0 0 A) (F0 m 33 ls [])) ?_ ?_ FU
              · intro x3_24 vM_25 hf; cases hf
              · intro self26 ih28 x3_24 vM_25 hf H locs hP hD hS ls hl
                unfold f_X8_removeTest_L33 at hf
                refine lv_iload_n hx hb dX8_removeTest_33 rfl (lv_at hl 2 rfl) ?_
                refine lv_bipush (v := (8 : Int32)) hx hb dX8_removeTest_34 (by decide) ?_
                refine lv_icmp_ge (tgt := 76) hx hb dX8_removeTest_36 (by decide) (fun c29 => ?_) (fun c29 => ?_)
                · have hf := it_t hf c29
                  refine lv_iconst (v := (0 : Int32)) hx hb dX8_removeTest_76 (by decide) ?_
                  refine lv_istore_n (lv' := [(3, .int (0 : Int32)), (0, .ref (bM 0)), (2, .int x2_8)]) hx hb dX8_removeTest_77 rfl hl (by decide) rfl (fun ls hl => ?_)
                  have hL33 : ∀ (x3_30 : Int32) (vM_31 : Vs), lp (f_X8_removeTest_L78 x2_8 self10) (fun _ _ => none) FU x3_30 vM_31 = some (r, vM1) → ∀ (H : Heap) (locs : List Loc), va_P g.1 vwCl (cM g bM vM_31) H → va_D A (cM g bM vM_31) → va_S A s.heap H locs → ∀ ls : Array Slot, lv_has ls 4 [(0, .ref (bM 0)), (2, .int x2_8), (3, .int x3_30)] → W p l e (headSpec wsX8_removeTest rmX8_removeTest).room s m ([.ref (bM 0), .int x1] : List Value).toArray below meth c H locs 0 0 (MQ below (qI g A (cM g bM vM1) r) ([.ref (bM 0), .int x1] : List Value).toArray s 0 0 A) (F0 m 78 ls []) := by
                    refine lp_ind (T := Int32 → Vs → Option (Int32 × Vs)) (fun self32 => ∀ (x3_30 : Int32) (vM_31 : Vs), self32 x3_30 vM_31 = some (r, vM1) → ∀ (H : Heap) (locs : List Loc), va_P g.1 vwCl (cM g bM vM_31) H → va_D A (cM g bM vM_31) → va_S A s.heap H locs → ∀ ls : Array Slot, lv_has ls 4 [(0, .ref (bM 0)), (2, .int x2_8), (3, .int x3_30)] → W p l e (headSpec wsX8_removeTest rmX8_removeTest).room s m ([.ref (bM 0), .int x1] : List Value).toArray below meth c H locs 0 0 (MQ below (qI g A (cM g bM vM1) r) ([.ref (bM 0), .int x1] : List Value).toArray s 0 0 A) (F0 m 78 ls [])) ?_ ?_ FU
                    · intro x3_30 vM_31 hf; cases hf
                    · intro self32 ih34 x3_30 vM_31 hf H locs hP hD hS ls hl
                      unfold f_X8_removeTest_L78 at hf
                      refine lv_iload_n hx hb dX8_removeTest_78 rfl (lv_at hl 2 rfl) ?_
                      refine lv_bipush (v := (6 : Int32)) hx hb dX8_removeTest_79 (by decide) ?_
                      refine lv_icmp_ge (tgt := 121) hx hb dX8_removeTest_81 (by decide) (fun c35 => ?_) (fun c35 => ?_)
                      · have hf := it_t hf c35
                        refine lv_iinc (v := (x2_8 + (1 : Int32))) (lv' := [(2, .int (x2_8 + (1 : Int32))), (0, .ref (bM 0)), (3, .int x3_30)]) hx hb dX8_removeTest_121 hl (k := 1) rfl rfl (by decide) rfl (fun ls hl => ?_)
                        refine lv_goto (tgt := 21) hx hb dX8_removeTest_124 (by decide) ?_
                        exact ih12 (x2_8 + (1 : Int32)) vM_31 hf H locs hP hD hS _ (lv_sub hl [1, 0] rfl)
                      · have hf := it_f hf c35
                        refine lv_aload_n hx hb dX8_removeTest_84 rfl (lv_at hl 0 rfl) ?_
                        refine lv_sipush (v := (310 : Int32)) hx hb dX8_removeTest_85 (by decide) ?_
                        refine lv_bipush (v := (6 : Int32)) hx hb dX8_removeTest_88 (by decide) ?_
                        refine lv_iload_n hx hb dX8_removeTest_90 rfl (lv_at hl 1 rfl) ?_
                        refine lv_imul hx hb dX8_removeTest_91 ?_
                        refine lv_iadd hx hb dX8_removeTest_92 ?_
                        refine lv_iload_n hx hb dX8_removeTest_93 rfl (lv_at hl 2 rfl) ?_
                        refine lv_iadd hx hb dX8_removeTest_94 ?_
                        refine lv_aload_n hx hb dX8_removeTest_95 rfl (lv_at hl 0 rfl) ?_
                        refine lv_sipush (v := (310 : Int32)) hx hb dX8_removeTest_96 (by decide) ?_
                        refine lv_bipush (v := (6 : Int32)) hx hb dX8_removeTest_99 (by decide) ?_
                        refine lv_iload_n hx hb dX8_removeTest_101 rfl (lv_at hl 1 rfl) ?_
                        refine lv_imul hx hb dX8_removeTest_102 ?_
                        refine lv_iadd hx hb dX8_removeTest_103 ?_
                        refine lv_bipush (v := (6 : Int32)) hx hb dX8_removeTest_104 (by decide) ?_
                        refine lv_iadd hx hb dX8_removeTest_106 ?_
                        refine lv_iload_n hx hb dX8_removeTest_107 rfl (lv_at hl 2 rfl) ?_
                        refine lv_iadd hx hb dX8_removeTest_108 ?_
                        obtain ⟨r36, hg37, hf⟩ := o1_at hf
                        refine k_viW ⟨hx, hb, hml, hown, htu⟩ hK hP hD hS hA hG (c_X8_get l g bM vM_31 ((((310 : Int32) + ((6 : Int32) * x2_8)) + (6 : Int32)) + x3_30) r36 hg37) (cwV 1 htu (gU_V mw_6_20 hcX8_get) rfl rfl rfl hdX8_get ⟨Nat.le_of_ble_eq_true rfl, Nat.le_of_ble_eq_true rfl⟩) (q0 := 0) (ci := 8) (fs := fcM bM vM_31) (q := (RX8, TX8, 23)) rfl rfl rfl (As := [.int ((((310 : Int32) + ((6 : Int32) * x2_8)) + (6 : Int32)) + x3_30)]) (rest := [.int (((310 : Int32) + ((6 : Int32) * x2_8)) + x3_30), .ref (bM 0)]) rfl rfl hl.1 (Nat.le_of_ble_eq_true rfl) dX8_removeTest_109 (k1 := 0) (n1 := 0) rfl rfl ⟨Nat.zero_le _, Nat.zero_le _⟩ (fun H locs hP hD hS => ?_)
                        obtain ⟨vM_38, hg39, hf⟩ := o1_at hf
                        refine k_vvW ⟨hx, hb, hml, hown, htu⟩ hK hP hD hS hA hG (c_X8_put l g bM vM_31 (((310 : Int32) + ((6 : Int32) * x2_8)) + x3_30) r36 vM_38 hg39) (cwV 2 htu (gU_V mw_5_68 hcX8_put) rfl rfl rfl hdX8_put ⟨Nat.le_of_ble_eq_true rfl, Nat.le_of_ble_eq_true rfl⟩) (q0 := 0) (ci := 8) (fs := fcM bM vM_31) (q := (RX8, TX8, 23)) rfl rfl rfl (As := [.int (((310 : Int32) + ((6 : Int32) * x2_8)) + x3_30), .int r36]) (rest := []) rfl rfl hl.1 (Nat.le_of_ble_eq_true rfl) dX8_removeTest_112 (k1 := 0) (n1 := 0) rfl rfl ⟨Nat.zero_le _, Nat.zero_le _⟩ (fun H locs hP hD hS => ?_)
                        refine lv_iinc (v := (x3_30 + (1 : Int32))) (lv' := [(3, .int (x3_30 + (1 : Int32))), (0, .ref (bM 0)), (2, .int x2_8)]) hx hb dX8_removeTest_115 hl (k := 2) rfl rfl (by decide) rfl (fun ls hl => ?_)
                        refine lv_goto (tgt := 78) hx hb dX8_removeTest_118 (by decide) ?_
                        exact ih34 (x3_30 + (1 : Int32)) vM_38 hf H locs hP hD hS _ (lv_sub hl [1, 2, 0] rfl)
                  exact hL33 (0 : Int32) vM_25 hf H locs hP hD hS _ (lv_sub hl [1, 2, 0] rfl)
                · have hf := it_f hf c29
                  refine lv_aload_n hx hb dX8_removeTest_39 rfl (lv_at hl 0 rfl) ?_
                  refine lv_sipush (v := (182 : Int32)) hx hb dX8_removeTest_40 (by decide) ?_
                  refine lv_bipush (v := (8 : Int32)) hx hb dX8_removeTest_43 (by decide) ?_
                  refine lv_iload_n hx hb dX8_removeTest_45 rfl (lv_at hl 1 rfl) ?_
                  refine lv_imul hx hb dX8_removeTest_46 ?_
                  refine lv_iadd hx hb dX8_removeTest_47 ?_
                  refine lv_iload_n hx hb dX8_removeTest_48 rfl (lv_at hl 2 rfl) ?_
                  refine lv_iadd hx hb dX8_removeTest_49 ?_
                  refine lv_aload_n hx hb dX8_removeTest_50 rfl (lv_at hl 0 rfl) ?_
                  refine lv_sipush (v := (182 : Int32)) hx hb dX8_removeTest_51 (by decide) ?_
                  refine lv_bipush (v := (8 : Int32)) hx hb dX8_removeTest_54 (by decide) ?_
                  refine lv_iload_n hx hb dX8_removeTest_56 rfl (lv_at hl 1 rfl) ?_
                  refine lv_imul hx hb dX8_removeTest_57 ?_
                  refine lv_iadd hx hb dX8_removeTest_58 ?_
                  refine lv_bipush (v := (8 : Int32)) hx hb dX8_removeTest_59 (by decide) ?_
                  refine lv_iadd hx hb dX8_removeTest_61 ?_
                  refine lv_iload_n hx hb dX8_removeTest_62 rfl (lv_at hl 2 rfl) ?_
                  refine lv_iadd hx hb dX8_removeTest_63 ?_
                  obtain ⟨r40, hg41, hf⟩ := o1_at hf
                  refine k_viW ⟨hx, hb, hml, hown, htu⟩ hK hP hD hS hA hG (c_X8_get l g bM vM_25 ((((182 : Int32) + ((8 : Int32) * x2_8)) + (8 : Int32)) + x3_24) r40 hg41) (cwV 1 htu (gU_V mw_6_20 hcX8_get) rfl rfl rfl hdX8_get ⟨Nat.le_of_ble_eq_true rfl, Nat.le_of_ble_eq_true rfl⟩) (q0 := 0) (ci := 8) (fs := fcM bM vM_25) (q := (RX8, TX8, 23)) rfl rfl rfl (As := [.int ((((182 : Int32) + ((8 : Int32) * x2_8)) + (8 : Int32)) + x3_24)]) (rest := [.int (((182 : Int32) + ((8 : Int32) * x2_8)) + x3_24), .ref (bM 0)]) rfl rfl hl.1 (Nat.le_of_ble_eq_true rfl) dX8_removeTest_64 (k1 := 0) (n1 := 0) rfl rfl ⟨Nat.zero_le _, Nat.zero_le _⟩ (fun H locs hP hD hS => ?_)
                  obtain ⟨vM_42, hg43, hf⟩ := o1_at hf
                  refine k_vvW ⟨hx, hb, hml, hown, htu⟩ hK hP hD hS hA hG (c_X8_put l g bM vM_25 (((182 : Int32) + ((8 : Int32) * x2_8)) + x3_24) r40 vM_42 hg43) (cwV 2 htu (gU_V mw_5_68 hcX8_put) rfl rfl rfl hdX8_put ⟨Nat.le_of_ble_eq_true rfl, Nat.le_of_ble_eq_true rfl⟩) (q0 := 0) (ci := 8) (fs := fcM bM vM_25) (q := (RX8, TX8, 23)) rfl rfl rfl (As := [.int (((182 : Int32) + ((8 : Int32) * x2_8)) + x3_24), .int r40]) (rest := []) rfl rfl hl.1 (Nat.le_of_ble_eq_true rfl) dX8_removeTest_67 (k1 := 0) (n1 := 0) rfl rfl ⟨Nat.zero_le _, Nat.zero_le _⟩ (fun H locs hP hD hS => ?_)
                  refine lv_iinc (v := (x3_24 + (1 : Int32))) (lv' := [(3, .int (x3_24 + (1 : Int32))), (0, .ref (bM 0)), (2, .int x2_8)]) hx hb dX8_removeTest_70 hl (k := 2) rfl rfl (by decide) rfl (fun ls hl => ?_)
                  refine lv_goto (tgt := 33) hx hb dX8_removeTest_73 (by decide) ?_
                  exact ih28 (x3_24 + (1 : Int32)) vM_42 hf H locs hP hD hS _ (lv_sub hl [1, 2, 0] rfl)
            exact hL27 (0 : Int32) vM_9 hf H locs hP hD hS _ (lv_sub hl [1, 2, 0] rfl)
      exact hL11 x1 vM_6 hf H locs hP hD hS _ (lv_sub hl [1, 0] rfl)
    · have hf := it_t hf c5
      refine lv_iconst (v := (0 : Int32)) hx hb dX8_removeTest_13 (by decide) ?_
      obtain ⟨e44, e45⟩ := kp_2 hf
      rw [e45] at hP hD
      exact k_iret hx hb hr hlocks hK hP hD hS e44 dX8_removeTest_14
  rw [hH, hlo] at hW
  exact hW
def f_X8_setKind (vM : Vs) (x1 : Int32) (x2 : Int32) : Option (Int32 × Vs) :=
  bn (sF vM 0 (0 : Int32)) (fun (vM_1 : Vs) => o2 (f_X8_isWire vM_1 x1) (fun (r2 : Int32) (vM_3 : Vs) => jn (fun (vM_5 : Vs) => some ((0 : Int32), vM_5)) (fun k6 => if r2 = 0 then k6 vM_3 else o1 (f_X8_inputs vM_3) (fun (r12 : Int32) => jn (fun (t14 : Int32) => o2 (f_X8_right vM_3 t14 (2 : Int32)) (fun (r17 : Int32) (vM_18 : Vs) => if r17 = 0 then k6 vM_18 else o1 (f_X8_have vM_18 x1) (fun (r21 : Int32) => o1 (f_X8_fewest x2) (fun (r23 : Int32) => o1 (f_X8_mostOf x2) (fun (r25 : Int32) => o1 (f_X8_isIn r21 r23 r25) (fun (r27 : Int32) => o2 (f_X8_right vM_18 r27 (2 : Int32)) (fun (r29 : Int32) (vM_30 : Vs) => if r29 = 0 then k6 vM_30 else o1 (f_X8_change vM_30) (fun (vM_33 : Vs) => o1 (f_X8_kindOf vM_33 x1) (fun (r35 : Int32) => o1 (f_X8_put vM_33 ((8 : Int32) + x1) x2) (fun (vM_37 : Vs) => some (r35, vM_37))))))))))) (fun k15 => jn (k15 (0 : Int32)) (fun k42 => if x1 < r12 then k42 else o1 (f_X8_isIn x2 (0 : Int32) (8 : Int32)) (fun (r46 : Int32) => if r46 = 0 then k42 else k15 (1 : Int32))))))))
abbrev wsX8_setKind : List Cond := .code yX8_setKind cX8_setKind 4 (some .int) :: UW
abbrev rmX8_setKind : Room := { frames := 3, cells := 0, slots := 0, locals := 62 }
set_option maxHeartbeats 4000000 in
set_option maxRecDepth 100000 in
theorem c_X8_setKind (l : Launch) (g : Gx) (bM : Nat → Nat) (vM : Vs) (x1 : Int32) (x2 : Int32) (r : Int32) (vM1 : Vs) (hf : f_X8_setKind vM x1 x2 = some (r, vM1)) : CtI l yX8_setKind wsX8_setKind rmX8_setKind g [.ref (bM 0), .int x1, .int x2] (cM g bM vM) (cM g bM vM1) r 0 0 := by
  unfold CtI
  intro sz
  refine Met.ofW (cc := cX8_setKind) (maxL := 4) (ret := (some .int)) (by decide) rfl ?_
  intro p e s m args below meth c s₁ B hml hv
  obtain ⟨rfl, hsz, hP, hK, hD0, hG⟩ := hv
  have hx := B.exec
  have hb := B.bytes
  have hr := B.returns
  have hts := atoms_spec (ws := wsX8_setKind) B.pre
  have hown : s.vm.findClass RX8 = some m.cls := findClass_of_methodNamed B.named
  have hlocks := B.notSynchronized
  subst hsz
  have hD := hD0.self (sz := s.heap.size)
  generalize hAe : va_A (cM g bM vM) s.heap.size = A at hD hG ⊢
  have hA : ∀ q : Nat, s.heap.size ≤ q → A q := fun q h => by rw [← hAe]; exact Or.inr h
  clear hAe hD0
  have hS : va_S A s.heap s.heap [] := va_S.rf
  have hl := lv_entry ([.ref (bM 0), .int x1, .int x2]) (n := 4) (Nat.le_of_ble_eq_true rfl)
  rw [lg_entry_eq]
  generalize (lg_sl ([.ref (bM 0), .int x1, .int x2]) ++ List.replicate (4 - (lg_sl ([.ref (bM 0), .int x1, .int x2])).length) Slot.unset).toArray = ls at hl ⊢
  have hl : lv_has ls 4 [(0, .ref (bM 0)), (1, .int x1), (2, .int x2)] := hl
  have htu : ∀ w ∈ UW, w.before _ s = true := fun w h => hts w (List.mem_cons_of_mem _ h)
  have k_5_72 := htu _ mw_5_72
  unfold f_X8_setKind at hf
  obtain ⟨H, hH⟩ : ∃ z, z = s.heap := ⟨_, rfl⟩
  obtain ⟨locs, hlo⟩ : ∃ z : List Loc, z = [] := ⟨_, rfl⟩
  have hS : va_S A s.heap H locs := by rw [hH, hlo]; exact hS
  rw [← hH] at hP
  have hW : W p l e (headSpec wsX8_setKind rmX8_setKind).room s m ([.ref (bM 0), .int x1, .int x2] : List Value).toArray below meth c H locs 0 0 (MQ below (qI g A (cM g bM vM1) r) ([.ref (bM 0), .int x1, .int x2] : List Value).toArray s 0 0 A) (F0 m 0 ls []) := by
    refine lv_aload_n hx hb dX8_setKind_0 rfl (lv_at hl 0 rfl) ?_
    refine lv_iconst (v := (0 : Int32)) hx hb dX8_setKind_1 (by decide) ?_
    refine va_put (D := g.1) (ci := 8) (fs := fcM bM vM) (v := .int (0 : Int32)) (ty := .int) (C := RX8) (T := TX8) (N := 23) hx hb htu hinX8 tyX8 tyX8_ok nmX8 hown hK hP hD hS 0 rfl rfl 0 (by decide) k_5_72 (fun _ h9 => h9) rfl (by decide +kernel) rfl rfl (Nat.le_of_ble_eq_true rfl) dX8_setKind_2 (fun H locs hP hD hS => ?_)
    obtain ⟨vM_1, evM_1⟩ : ∃ z, z = sF vM 0 (0 : Int32) := ⟨_, rfl⟩
    have hf := bn_at hf evM_1
    have hP : va_P g.1 vwCl (cM g bM vM_1) H := by rw [evM_1]; exact hP
    have hD : va_D A (cM g bM vM_1) := by rw [evM_1]; exact hD
    refine lv_aload_n hx hb dX8_setKind_5 rfl (lv_at hl 0 rfl) ?_
    refine lv_iload_n hx hb dX8_setKind_6 rfl (lv_at hl 1 rfl) ?_
    obtain ⟨r2, vM_3, hg4, hf⟩ := o2_at hf
    refine k_viW ⟨hx, hb, hml, hown, htu⟩ hK hP hD hS hA hG (c_X8_isWire l g bM vM_1 x1 r2 vM_3 hg4) (cwV 1 htu (gU_V mw_6_118 hcX8_isWire) rfl rfl rfl hdX8_isWire ⟨Nat.le_of_ble_eq_true rfl, Nat.le_of_ble_eq_true rfl⟩) (q0 := 0) (ci := 8) (fs := fcM bM vM_1) (q := (RX8, TX8, 23)) rfl rfl rfl (As := [.int x1]) (rest := []) rfl rfl hl.1 (Nat.le_of_ble_eq_true rfl) dX8_setKind_7 (k1 := 0) (n1 := 0) rfl rfl ⟨Nat.zero_le _, Nat.zero_le _⟩ (fun H locs hP hD hS => ?_)
    obtain ⟨k6, hk10, hf⟩ := jn_at hf
    have hJ7 : ∀ (vM_5 : Vs), k6 vM_5 = some (r, vM1) → ∀ (H : Heap) (locs : List Loc), va_P g.1 vwCl (cM g bM vM_5) H → va_D A (cM g bM vM_5) → va_S A s.heap H locs → ∀ ls : Array Slot, lv_has ls 4 [] → W p l e (headSpec wsX8_setKind rmX8_setKind).room s m ([.ref (bM 0), .int x1, .int x2] : List Value).toArray below meth c H locs 0 0 (MQ below (qI g A (cM g bM vM1) r) ([.ref (bM 0), .int x1, .int x2] : List Value).toArray s 0 0 A) (F0 m 68 ls []) := by
      intro vM_5 hf H locs hP hD hS ls hl
      rw [hk10] at hf
      dsimp only at hf
      clear hk10
      refine lv_iconst (v := (0 : Int32)) hx hb dX8_setKind_68 (by decide) ?_
      obtain ⟨e8, e9⟩ := kp_2 hf
      rw [e9] at hP hD
      exact k_iret hx hb hr hlocks hK hP hD hS e8 dX8_setKind_69
    refine lv_if_eq (tgt := 68) hx hb dX8_setKind_10 (by decide) (fun c11 => ?_) (fun c11 => ?_)
    · have hf := it_t hf c11
      exact hJ7 vM_3 hf H locs hP hD hS _ (lv_sub hl [] rfl)
    · have hf := it_f hf c11
      refine lv_aload_n hx hb dX8_setKind_13 rfl (lv_at hl 0 rfl) ?_
      refine lv_iload_n hx hb dX8_setKind_14 rfl (lv_at hl 1 rfl) ?_
      refine lv_aload_n hx hb dX8_setKind_15 rfl (lv_at hl 0 rfl) ?_
      obtain ⟨r12, hg13, hf⟩ := o1_at hf
      refine k_viW ⟨hx, hb, hml, hown, htu⟩ hK hP hD hS hA hG (c_X8_inputs l g bM vM_3 r12 hg13) (cwV 0 htu (gU_V mw_6_36 hcX8_inputs) rfl rfl rfl hdX8_inputs ⟨Nat.le_of_ble_eq_true rfl, Nat.le_of_ble_eq_true rfl⟩) (q0 := 0) (ci := 8) (fs := fcM bM vM_3) (q := (RX8, TX8, 23)) rfl rfl rfl (As := []) (rest := [.int x1, .ref (bM 0)]) rfl rfl hl.1 (Nat.le_of_ble_eq_true rfl) dX8_setKind_16 (k1 := 0) (n1 := 0) rfl rfl ⟨Nat.zero_le _, Nat.zero_le _⟩ (fun H locs hP hD hS => ?_)
      obtain ⟨k15, hk41, hf⟩ := jn_at hf
      have hJ16 : ∀ (t14 : Int32), k15 t14 = some (r, vM1) → ∀ (H : Heap) (locs : List Loc), va_P g.1 vwCl (cM g bM vM_3) H → va_D A (cM g bM vM_3) → va_S A s.heap H locs → ∀ ls : Array Slot, lv_has ls 4 [(0, .ref (bM 0)), (1, .int x1), (2, .int x2)] → W p l e (headSpec wsX8_setKind rmX8_setKind).room s m ([.ref (bM 0), .int x1, .int x2] : List Value).toArray below meth c H locs 0 0 (MQ below (qI g A (cM g bM vM1) r) ([.ref (bM 0), .int x1, .int x2] : List Value).toArray s 0 0 A) (F0 m 37 ls [.int t14, .ref (bM 0)]) := by
        intro t14 hf H locs hP hD hS ls hl
        rw [hk41] at hf
        dsimp only at hf
        clear hk41
        refine lv_iconst (v := (2 : Int32)) hx hb dX8_setKind_37 (by decide) ?_
        obtain ⟨r17, vM_18, hg19, hf⟩ := o2_at hf
        refine k_viW ⟨hx, hb, hml, hown, htu⟩ hK hP hD hS hA hG (c_X8_right l g bM vM_3 t14 (2 : Int32) r17 vM_18 hg19) (cwV 2 htu (gU_V mw_5_166 hcX8_right) rfl rfl rfl hdX8_right ⟨Nat.le_of_ble_eq_true rfl, Nat.le_of_ble_eq_true rfl⟩) (q0 := 0) (ci := 8) (fs := fcM bM vM_3) (q := (RX8, TX8, 23)) rfl rfl rfl (As := [.int t14, .int (2 : Int32)]) (rest := []) rfl rfl hl.1 (Nat.le_of_ble_eq_true rfl) dX8_setKind_38 (k1 := 0) (n1 := 0) rfl rfl ⟨Nat.zero_le _, Nat.zero_le _⟩ (fun H locs hP hD hS => ?_)
        refine lv_if_eq (tgt := 68) hx hb dX8_setKind_41 (by decide) (fun c20 => ?_) (fun c20 => ?_)
        · have hf := it_t hf c20
          exact hJ7 vM_18 hf H locs hP hD hS _ (lv_sub hl [] rfl)
        · have hf := it_f hf c20
          refine lv_aload_n hx hb dX8_setKind_44 rfl (lv_at hl 0 rfl) ?_
          refine lv_aload_n hx hb dX8_setKind_45 rfl (lv_at hl 0 rfl) ?_
          refine lv_iload_n hx hb dX8_setKind_46 rfl (lv_at hl 1 rfl) ?_
          obtain ⟨r21, hg22, hf⟩ := o1_at hf
          refine k_viW ⟨hx, hb, hml, hown, htu⟩ hK hP hD hS hA hG (c_X8_have l g bM vM_18 x1 r21 hg22) (cwV 1 htu (gU_V mw_6_91 hcX8_have) rfl rfl rfl hdX8_have ⟨Nat.le_of_ble_eq_true rfl, Nat.le_of_ble_eq_true rfl⟩) (q0 := 0) (ci := 8) (fs := fcM bM vM_18) (q := (RX8, TX8, 23)) rfl rfl rfl (As := [.int x1]) (rest := [.ref (bM 0)]) rfl rfl hl.1 (Nat.le_of_ble_eq_true rfl) dX8_setKind_47 (k1 := 0) (n1 := 0) rfl rfl ⟨Nat.zero_le _, Nat.zero_le _⟩ (fun H locs hP hD hS => ?_)
          refine lv_iload_n hx hb dX8_setKind_50 rfl (lv_at hl 2 rfl) ?_
          obtain ⟨r23, hg24, hf⟩ := o1_at hf
          refine k_si0 ⟨hx, hb, hml, hown, htu⟩ hK hP hD hS hA hG (c_X8_fewest l g x2 r23 hg24) (va_cwS 1 htu (gU_S mw_5_226 hcX8_fewest) rfl rfl rfl hdX8_fewest ⟨Nat.le_of_ble_eq_true rfl, Nat.le_of_ble_eq_true rfl⟩) (As := [.int x2]) (rest := [.int r21, .ref (bM 0)]) rfl rfl hl.1 (Nat.le_of_ble_eq_true rfl) dX8_setKind_51 (k1 := 0) (n1 := 0) rfl rfl ⟨Nat.zero_le _, Nat.zero_le _⟩ (fun H locs hP hD hS => ?_)
          refine lv_iload_n hx hb dX8_setKind_54 rfl (lv_at hl 2 rfl) ?_
          obtain ⟨r25, hg26, hf⟩ := o1_at hf
          refine k_si0 ⟨hx, hb, hml, hown, htu⟩ hK hP hD hS hA hG (c_X8_mostOf l g x2 r25 hg26) (va_cwS 1 htu (gU_S mw_5_229 hcX8_mostOf) rfl rfl rfl hdX8_mostOf ⟨Nat.le_of_ble_eq_true rfl, Nat.le_of_ble_eq_true rfl⟩) (As := [.int x2]) (rest := [.int r23, .int r21, .ref (bM 0)]) rfl rfl hl.1 (Nat.le_of_ble_eq_true rfl) dX8_setKind_55 (k1 := 0) (n1 := 0) rfl rfl ⟨Nat.zero_le _, Nat.zero_le _⟩ (fun H locs hP hD hS => ?_)
          obtain ⟨r27, hg28, hf⟩ := o1_at hf
          refine k_si0 ⟨hx, hb, hml, hown, htu⟩ hK hP hD hS hA hG (c_X8_isIn l g r21 r23 r25 r27 hg28) (va_cwS 3 htu (gU_S mw_5_163 hcX8_isIn) rfl rfl rfl hdX8_isIn ⟨Nat.le_of_ble_eq_true rfl, Nat.le_of_ble_eq_true rfl⟩) (As := [.int r21, .int r23, .int r25]) (rest := [.ref (bM 0)]) rfl rfl hl.1 (Nat.le_of_ble_eq_true rfl) dX8_setKind_58 (k1 := 0) (n1 := 0) rfl rfl ⟨Nat.zero_le _, Nat.zero_le _⟩ (fun H locs hP hD hS => ?_)
          refine lv_iconst (v := (2 : Int32)) hx hb dX8_setKind_61 (by decide) ?_
          obtain ⟨r29, vM_30, hg31, hf⟩ := o2_at hf
          refine k_viW ⟨hx, hb, hml, hown, htu⟩ hK hP hD hS hA hG (c_X8_right l g bM vM_18 r27 (2 : Int32) r29 vM_30 hg31) (cwV 2 htu (gU_V mw_5_166 hcX8_right) rfl rfl rfl hdX8_right ⟨Nat.le_of_ble_eq_true rfl, Nat.le_of_ble_eq_true rfl⟩) (q0 := 0) (ci := 8) (fs := fcM bM vM_18) (q := (RX8, TX8, 23)) rfl rfl rfl (As := [.int r27, .int (2 : Int32)]) (rest := []) rfl rfl hl.1 (Nat.le_of_ble_eq_true rfl) dX8_setKind_62 (k1 := 0) (n1 := 0) rfl rfl ⟨Nat.zero_le _, Nat.zero_le _⟩ (fun H locs hP hD hS => ?_)
          refine lv_if_ne (tgt := 70) hx hb dX8_setKind_65 (by decide) (fun c32 => ?_) (fun c32 => ?_)
          · have hf := it_f hf c32
            refine lv_aload_n hx hb dX8_setKind_70 rfl (lv_at hl 0 rfl) ?_
            obtain ⟨vM_33, hg34, hf⟩ := o1_at hf
            refine k_vvW ⟨hx, hb, hml, hown, htu⟩ hK hP hD hS hA hG (c_X8_change l g bM vM_30 vM_33 hg34) (cwV 0 htu (gU_V mw_6_16 hcX8_change) rfl rfl rfl hdX8_change ⟨Nat.le_of_ble_eq_true rfl, Nat.le_of_ble_eq_true rfl⟩) (q0 := 0) (ci := 8) (fs := fcM bM vM_30) (q := (RX8, TX8, 23)) rfl rfl rfl (As := []) (rest := []) rfl rfl hl.1 (Nat.le_of_ble_eq_true rfl) dX8_setKind_71 (k1 := 0) (n1 := 0) rfl rfl ⟨Nat.zero_le _, Nat.zero_le _⟩ (fun H locs hP hD hS => ?_)
            refine lv_aload_n hx hb dX8_setKind_74 rfl (lv_at hl 0 rfl) ?_
            refine lv_iload_n hx hb dX8_setKind_75 rfl (lv_at hl 1 rfl) ?_
            obtain ⟨r35, hg36, hf⟩ := o1_at hf
            refine k_viW ⟨hx, hb, hml, hown, htu⟩ hK hP hD hS hA hG (c_X8_kindOf l g bM vM_33 x1 r35 hg36) (cwV 1 htu (gU_V mw_6_80 hcX8_kindOf) rfl rfl rfl hdX8_kindOf ⟨Nat.le_of_ble_eq_true rfl, Nat.le_of_ble_eq_true rfl⟩) (q0 := 0) (ci := 8) (fs := fcM bM vM_33) (q := (RX8, TX8, 23)) rfl rfl rfl (As := [.int x1]) (rest := []) rfl rfl hl.1 (Nat.le_of_ble_eq_true rfl) dX8_setKind_76 (k1 := 0) (n1 := 0) rfl rfl ⟨Nat.zero_le _, Nat.zero_le _⟩ (fun H locs hP hD hS => ?_)
            refine lv_istore_n (lv' := [(3, .int r35), (0, .ref (bM 0)), (1, .int x1), (2, .int x2)]) hx hb dX8_setKind_79 rfl hl (by decide) rfl (fun ls hl => ?_)
            refine lv_aload_n hx hb dX8_setKind_80 rfl (lv_at hl 1 rfl) ?_
            refine lv_bipush (v := (8 : Int32)) hx hb dX8_setKind_81 (by decide) ?_
            refine lv_iload_n hx hb dX8_setKind_83 rfl (lv_at hl 2 rfl) ?_
            refine lv_iadd hx hb dX8_setKind_84 ?_
            refine lv_iload_n hx hb dX8_setKind_85 rfl (lv_at hl 3 rfl) ?_
            obtain ⟨vM_37, hg38, hf⟩ := o1_at hf
            refine k_vvW ⟨hx, hb, hml, hown, htu⟩ hK hP hD hS hA hG (c_X8_put l g bM vM_33 ((8 : Int32) + x1) x2 vM_37 hg38) (cwV 2 htu (gU_V mw_5_68 hcX8_put) rfl rfl rfl hdX8_put ⟨Nat.le_of_ble_eq_true rfl, Nat.le_of_ble_eq_true rfl⟩) (q0 := 0) (ci := 8) (fs := fcM bM vM_33) (q := (RX8, TX8, 23)) rfl rfl rfl (As := [.int ((8 : Int32) + x1), .int x2]) (rest := []) rfl rfl hl.1 (Nat.le_of_ble_eq_true rfl) dX8_setKind_86 (k1 := 0) (n1 := 0) rfl rfl ⟨Nat.zero_le _, Nat.zero_le _⟩ (fun H locs hP hD hS => ?_)
            refine lv_iload_n hx hb dX8_setKind_89 rfl (lv_at hl 0 rfl) ?_
            obtain ⟨e39, e40⟩ := kp_2 hf
            rw [e40] at hP hD
            exact k_iret hx hb hr hlocks hK hP hD hS e39 dX8_setKind_90
          · have hf := it_t hf c32
            exact hJ7 vM_30 hf H locs hP hD hS _ (lv_sub hl [] rfl)
      obtain ⟨k42, hk44, hf⟩ := jn_at hf
      have hJ43 : k42 = some (r, vM1) → ∀ (H : Heap) (locs : List Loc), va_P g.1 vwCl (cM g bM vM_3) H → va_D A (cM g bM vM_3) → va_S A s.heap H locs → ∀ ls : Array Slot, lv_has ls 4 [(0, .ref (bM 0)), (1, .int x1), (2, .int x2)] → W p l e (headSpec wsX8_setKind rmX8_setKind).room s m ([.ref (bM 0), .int x1, .int x2] : List Value).toArray below meth c H locs 0 0 (MQ below (qI g A (cM g bM vM1) r) ([.ref (bM 0), .int x1, .int x2] : List Value).toArray s 0 0 A) (F0 m 36 ls [.ref (bM 0)]) := by
        intro hf H locs hP hD hS ls hl
        rw [hk44] at hf
        clear hk44
        refine lv_iconst (v := (0 : Int32)) hx hb dX8_setKind_36 (by decide) ?_
        exact hJ16 (0 : Int32) hf H locs hP hD hS _ (lv_sub hl [0, 1, 2] rfl)
      refine lv_icmp_lt (tgt := 36) hx hb dX8_setKind_19 (by decide) (fun c45 => ?_) (fun c45 => ?_)
      · have hf := it_t hf c45
        exact hJ43 hf H locs hP hD hS _ (lv_sub hl [0, 1, 2] rfl)
      · have hf := it_f hf c45
        refine lv_iload_n hx hb dX8_setKind_22 rfl (lv_at hl 2 rfl) ?_
        refine lv_iconst (v := (0 : Int32)) hx hb dX8_setKind_23 (by decide) ?_
        refine lv_bipush (v := (8 : Int32)) hx hb dX8_setKind_24 (by decide) ?_
        obtain ⟨r46, hg47, hf⟩ := o1_at hf
        refine k_si0 ⟨hx, hb, hml, hown, htu⟩ hK hP hD hS hA hG (c_X8_isIn l g x2 (0 : Int32) (8 : Int32) r46 hg47) (va_cwS 3 htu (gU_S mw_5_163 hcX8_isIn) rfl rfl rfl hdX8_isIn ⟨Nat.le_of_ble_eq_true rfl, Nat.le_of_ble_eq_true rfl⟩) (As := [.int x2, .int (0 : Int32), .int (8 : Int32)]) (rest := [.ref (bM 0)]) rfl rfl hl.1 (Nat.le_of_ble_eq_true rfl) dX8_setKind_26 (k1 := 0) (n1 := 0) rfl rfl ⟨Nat.zero_le _, Nat.zero_le _⟩ (fun H locs hP hD hS => ?_)
        refine lv_if_eq (tgt := 36) hx hb dX8_setKind_29 (by decide) (fun c48 => ?_) (fun c48 => ?_)
        · have hf := it_t hf c48
          exact hJ43 hf H locs hP hD hS _ (lv_sub hl [0, 1, 2] rfl)
        · have hf := it_f hf c48
          refine lv_iconst (v := (1 : Int32)) hx hb dX8_setKind_32 (by decide) ?_
          refine lv_goto (tgt := 37) hx hb dX8_setKind_33 (by decide) ?_
          exact hJ16 (1 : Int32) hf H locs hP hD hS _ (lv_sub hl [0, 1, 2] rfl)
  rw [hH, hlo] at hW
  exact hW
