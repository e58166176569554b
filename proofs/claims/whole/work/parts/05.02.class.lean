def f_X7_listFoundByFull (vF : Vs) (vC : Vs) (nRF : Nat) (vRF : Vs) (vGF : Vs) (vBF : Vs) : Option (Vs × Vs × Vs × Vs) :=
  o4 (f_X7_refreshFullRows vF vC nRF vRF vGF vBF) (fun (vF_1 : Vs) (vRF_2 : Vs) (vGF_3 : Vs) (vBF_4 : Vs) => o2 (f_X7_listFound_f vF_1 vC nRF vRF_2 ((1 : Int32) <<< ((vC.1 0) &&& 31))) (fun (r6 : Int64) (vF_7 : Vs) => some (vF_7, vRF_2, vGF_3, vBF_4)))
abbrev wsX7_listFoundByFull : List Cond := .code yX7_listFoundByFull cX7_listFoundByFull 1 none :: UW
abbrev rmX7_listFoundByFull : Room := { frames := 4, cells := 0, slots := 0, locals := 106 }
set_option maxHeartbeats 4000000 in
set_option maxRecDepth 100000 in
theorem c_X7_listFoundByFull (l : Launch) (g : Gx) (bF : Nat → Nat) (qF0 : Nat) (qF2 : Nat) (qF4 : Nat) (vF : Vs) (bS : Nat → Nat) (qS1 : Nat) (bC : Nat → Nat) (vC : Vs) (bRF : Nat → Nat) (nRF : Nat) (vRF : Vs) (bGF : Nat → Nat) (vGF : Vs) (bBF : Nat → Nat) (vBF : Vs) (vF1 : Vs) (vRF1 : Vs) (vGF1 : Vs) (vBF1 : Vs) (hf : f_X7_listFoundByFull vF vC nRF vRF vGF vBF = some (vF1, vRF1, vGF1, vBF1)) : CtV l yX7_listFoundByFull wsX7_listFoundByFull rmX7_listFoundByFull g [.ref (bF 0)] (cF g bF qF0 (bS 0) qF2 (bRF 0) qF4 vF ++ (cS g bS (bC 0) qS1 ++ (cC g bC vC ++ (cR g bRF nRF (bGF 0) (bBF 0) vRF ++ (cL g bGF vGF ++ (cL g bBF vBF)))))) (cF g bF qF0 (bS 0) qF2 (bRF 0) qF4 vF1 ++ (cS g bS (bC 0) qS1 ++ (cC g bC vC ++ (cR g bRF nRF (bGF 0) (bBF 0) vRF1 ++ (cL g bGF vGF1 ++ (cL g bBF vBF1)))))) 0 0 := by
  unfold CtV
  intro sz
  refine Met.ofW (cc := cX7_listFoundByFull) (maxL := 1) (ret := none) (by decide) rfl ?_
  intro p e s m args below meth c s₁ B hml hv
  obtain ⟨rfl, hsz, hP, hK, hD0, hG⟩ := hv
  have hx := B.exec
  have hb := B.bytes
  have hr := B.returns
  have hts := atoms_spec (ws := wsX7_listFoundByFull) B.pre
  have hown : s.vm.findClass RX7 = some m.cls := findClass_of_methodNamed B.named
  have hlocks := B.notSynchronized
  subst hsz
  have hD := hD0.self (sz := s.heap.size)
  generalize hAe : va_A (cF g bF qF0 (bS 0) qF2 (bRF 0) qF4 vF ++ (cS g bS (bC 0) qS1 ++ (cC g bC vC ++ (cR g bRF nRF (bGF 0) (bBF 0) vRF ++ (cL g bGF vGF ++ (cL g bBF vBF)))))) s.heap.size = A at hD hG ⊢
  have hA : ∀ q : Nat, s.heap.size ≤ q → A q := fun q h => by rw [← hAe]; exact Or.inr h
  clear hAe hD0
  have hS : va_S A s.heap s.heap [] := va_S.rf
  have hl := lv_entry ([.ref (bF 0)]) (n := 1) (Nat.le_of_ble_eq_true rfl)
  rw [lg_entry_eq]
  generalize (lg_sl ([.ref (bF 0)]) ++ List.replicate (1 - (lg_sl ([.ref (bF 0)])).length) Slot.unset).toArray = ls at hl ⊢
  have hl : lv_has ls 1 [(0, .ref (bF 0))] := hl
  have htu : ∀ w ∈ UW, w.before _ s = true := fun w h => hts w (List.mem_cons_of_mem _ h)
  have k_2_21 := htu _ mw_2_21
  have k_2_19 := htu _ mw_2_19
  have k_1_150 := htu _ mw_1_150
  have k_1_57 := htu _ mw_1_57
  have k_2_29 := htu _ mw_2_29
  unfold f_X7_listFoundByFull at hf
  obtain ⟨H, hH⟩ : ∃ z, z = s.heap := ⟨_, rfl⟩
  obtain ⟨locs, hlo⟩ : ∃ z : List Loc, z = [] := ⟨_, rfl⟩
  have hS : va_S A s.heap H locs := by rw [hH, hlo]; exact hS
  rw [← hH] at hP
  have hW : W p l e (headSpec wsX7_listFoundByFull rmX7_listFoundByFull).room s m ([.ref (bF 0)] : List Value).toArray below meth c H locs 0 0 (MQ below (qV g A (cF g bF qF0 (bS 0) qF2 (bRF 0) qF4 vF1 ++ (cS g bS (bC 0) qS1 ++ (cC g bC vC ++ (cR g bRF nRF (bGF 0) (bBF 0) vRF1 ++ (cL g bGF vGF1 ++ (cL g bBF vBF1))))))) ([.ref (bF 0)] : List Value).toArray s 0 0 A) (F0 m 0 ls []) := by
    refine lv_aload_n hx hb dX7_listFoundByFull_0 rfl (lv_at hl 0 rfl) ?_
    obtain ⟨vF_1, vRF_2, vGF_3, vBF_4, hg5, hf⟩ := o4_at hf
    refine k_vvW ⟨hx, hb, hml, hown, htu⟩ hK hP hD hS hA hG (c_X7_refreshFullRows l g bF qF0 qF2 qF4 vF bS qS1 bC vC bRF nRF vRF bGF vGF bBF vBF vF_1 vRF_2 vGF_3 vBF_4 hg5) (cwV 0 htu (gU_V mw_2_71 hcX7_refreshFullRows) rfl rfl rfl hdX7_refreshFullRows ⟨Nat.le_of_ble_eq_true rfl, Nat.le_of_ble_eq_true rfl⟩) (q0 := 0) (ci := 7) (fs := fcF bF qF0 (bS 0) qF2 (bRF 0) qF4 vF) (q := (RX7, TX7, 12)) rfl rfl rfl (As := []) (rest := []) rfl rfl hl.1 (Nat.le_of_ble_eq_true rfl) dX7_listFoundByFull_1 (k1 := 0) (n1 := 0) rfl rfl ⟨Nat.zero_le _, Nat.zero_le _⟩ (fun H locs hP hD hS => ?_)
    refine lv_aload_n hx hb dX7_listFoundByFull_4 rfl (lv_at hl 0 rfl) ?_
    refine lv_aload_n hx hb dX7_listFoundByFull_5 rfl (lv_at hl 0 rfl) ?_
    refine va_get (D := g.1) (ci := 7) (fs := fcF bF qF0 (bS 0) qF2 (bRF 0) qF4 vF_1) (v := .ref (bRF 0)) (C := RX7) (T := TX7) (N := 12) hx hb htu hinX7 hown hK hP 0 rfl rfl 3 (by decide) k_2_21 (fun _ h9 => h9) rfl dX7_listFoundByFull_6 ?_
    refine lv_iconst (v := (1 : Int32)) hx hb dX7_listFoundByFull_9 (by decide) ?_
    refine lv_aload_n hx hb dX7_listFoundByFull_10 rfl (lv_at hl 0 rfl) ?_
    refine va_get (D := g.1) (ci := 7) (fs := fcF bF qF0 (bS 0) qF2 (bRF 0) qF4 vF_1) (v := .ref (bS 0)) (C := RX7) (T := TX7) (N := 12) hx hb htu hinX7 hown hK hP 0 rfl rfl 1 (by decide) k_2_19 (fun _ h9 => h9) rfl dX7_listFoundByFull_11 ?_
    refine va_get (D := g.1) (ci := 4) (fs := fcS bS (bC 0) qS1) (v := .ref (bC 0)) (C := RX4) (T := TX4) (N := 2) hx hb htu hinX4 hown hK hP 6 rfl rfl 0 (by decide) k_1_150 (fun _ h9 => h9) rfl dX7_listFoundByFull_14 ?_
    refine va_get (D := g.1) (ci := 0) (fs := fcC bC vC) (v := .int (vC.1 0)) (C := RX0) (T := TX0) (N := 14) hx hb htu hinX0 hown hK hP 7 rfl rfl 0 (by decide) k_1_57 (fun _ h9 => h9) rfl dX7_listFoundByFull_17 ?_
    refine lv_ishl hx hb dX7_listFoundByFull_20 ?_
    refine lv_aload_n hx hb dX7_listFoundByFull_21 rfl (lv_at hl 0 rfl) ?_
    refine va_get (D := g.1) (ci := 7) (fs := fcF bF qF0 (bS 0) qF2 (bRF 0) qF4 vF_1) (v := .ref (bF 12)) (C := RX7) (T := TX7) (N := 12) hx hb htu hinX7 hown hK hP 0 rfl rfl 11 (by decide) k_2_29 (fun _ h9 => h9) rfl dX7_listFoundByFull_22 ?_
    obtain ⟨r6, vF_7, hg8, hf⟩ := o2_at hf
    refine k_vlP ⟨hx, hb, hml, hown, htu⟩ hK hP hD hS hA hG (c_X7_listFound_f l g bF qF0 qF2 qF4 vF_1 bS qS1 bC vC bRF nRF (bGF 0) (bBF 0) vRF_2 ((1 : Int32) <<< ((vC.1 0) &&& 31)) r6 vF_7 hg8) (cwV 3 htu (gU_V mw_2_165 hcX7_listFound) rfl rfl rfl hdX7_listFound ⟨Nat.le_of_ble_eq_true rfl, Nat.le_of_ble_eq_true rfl⟩) (q0 := 0) (ci := 7) (fs := fcF bF qF0 (bS 0) qF2 (bRF 0) qF4 vF_1) (q := (RX7, TX7, 12)) rfl rfl rfl (wr := (cL g bGF vGF_3 ++ (cL g bBF vBF_4))) (w2 := cF g bF qF0 (bS 0) qF2 (bRF 0) qF4 vF_7 ++ (cS g bS (bC 0) qS1 ++ (cC g bC vC ++ (cR g bRF nRF (bGF 0) (bBF 0) vRF_2 ++ (cL g bGF vGF_3 ++ (cL g bBF vBF_4)))))) [0, 1, 2, 3, 4, 5, 6, 7, 8, 9, 10, 11, 12, 13, 14, 15, 16, 17, 18, 19, 20] [21, 22, 23, 24, 25, 26] [6, 7, 8, 9, 10, 11, 12, 13, 14, 15, 16, 17, 18, 19, 20, 21, 22, 23, 24, 25, 26, 0, 1, 2, 3, 4, 5] rfl rfl (by decide) (by decide) (by decide) rfl rfl (by decide) (As := [.ref (bRF 0), .int ((1 : Int32) <<< ((vC.1 0) &&& 31)), .ref (bF 12)]) (rest := []) rfl rfl hl.1 (Nat.le_of_ble_eq_true rfl) dX7_listFoundByFull_25 (k1 := 0) (n1 := 0) rfl rfl ⟨Nat.zero_le _, Nat.zero_le _⟩ (fun H locs hP hD hS => ?_)
    refine lv_pop2_2 hx hb dX7_listFoundByFull_28 rfl ?_
    obtain ⟨e9, e10, e11, e12⟩ := kp_4 hf
    rw [e9] at hP hD
    rw [e10] at hP hD
    rw [e11] at hP hD
    rw [e12] at hP hD
    exact k_vret hx hb hr hlocks hK hP hD hS dX7_listFoundByFull_29
  rw [hH, hlo] at hW
  exact hW
def f_X7_firstAlike_L2 (vC : Vs) (nRF : Nat) (vRF : Vs) (x1 : Int32) (self2 : Int32 → Option (Int32)) (x2_1 : Int32) : Option (Int32) :=
  if x1 ≤ x2_1 then some (x1) else o1 (f_X3_firstApart nRF vRF vC x1 x2_1) (fun (r7 : Int32) => if 0 ≤ r7 then self2 (x2_1 + (1 : Int32)) else some (x2_1))
def f_X7_firstAlike (vF : Vs) (vC : Vs) (nRF : Nat) (vRF : Vs) (x1 : Int32) : Option (Int32) :=
  lp (f_X7_firstAlike_L2 vC nRF vRF x1) (fun _ => none) FU (0 : Int32)
abbrev wsX7_firstAlike : List Cond := .code yX7_firstAlike cX7_firstAlike 3 (some .int) :: UW
abbrev rmX7_firstAlike : Room := { frames := 3, cells := 0, slots := 0, locals := 79 }
set_option maxHeartbeats 4000000 in
set_option maxRecDepth 100000 in
theorem c_X7_firstAlike (l : Launch) (g : Gx) (bF : Nat → Nat) (qF0 : Nat) (qF2 : Nat) (qF4 : Nat) (vF : Vs) (bS : Nat → Nat) (qS1 : Nat) (bC : Nat → Nat) (vC : Vs) (bRF : Nat → Nat) (nRF : Nat) (qRF0 : Nat) (qRF1 : Nat) (vRF : Vs) (x1 : Int32) (r : Int32) (hf : f_X7_firstAlike vF vC nRF vRF x1 = some r) : CtI l yX7_firstAlike wsX7_firstAlike rmX7_firstAlike g [.ref (bF 0), .int x1] (cF g bF qF0 (bS 0) qF2 (bRF 0) qF4 vF ++ (cS g bS (bC 0) qS1 ++ (cC g bC vC ++ (cR g bRF nRF qRF0 qRF1 vRF)))) (cF g bF qF0 (bS 0) qF2 (bRF 0) qF4 vF ++ (cS g bS (bC 0) qS1 ++ (cC g bC vC ++ (cR g bRF nRF qRF0 qRF1 vRF)))) r 0 0 := by
  unfold CtI
  intro sz
  refine Met.ofW (cc := cX7_firstAlike) (maxL := 3) (ret := (some .int)) (by decide) rfl ?_
  intro p e s m args below meth c s₁ B hml hv
  obtain ⟨rfl, hsz, hP, hK, hD0, hG⟩ := hv
  have hx := B.exec
  have hb := B.bytes
  have hr := B.returns
  have hts := atoms_spec (ws := wsX7_firstAlike) B.pre
  have hown : s.vm.findClass RX7 = some m.cls := findClass_of_methodNamed B.named
  have hlocks := B.notSynchronized
  subst hsz
  have hD := hD0.self (sz := s.heap.size)
  generalize hAe : va_A (cF g bF qF0 (bS 0) qF2 (bRF 0) qF4 vF ++ (cS g bS (bC 0) qS1 ++ (cC g bC vC ++ (cR g bRF nRF qRF0 qRF1 vRF)))) s.heap.size = A at hD hG ⊢
  have hA : ∀ q : Nat, s.heap.size ≤ q → A q := fun q h => by rw [← hAe]; exact Or.inr h
  clear hAe hD0
  have hS : va_S A s.heap s.heap [] := va_S.rf
  have hl := lv_entry ([.ref (bF 0), .int x1]) (n := 3) (Nat.le_of_ble_eq_true rfl)
  rw [lg_entry_eq]
  generalize (lg_sl ([.ref (bF 0), .int x1]) ++ List.replicate (3 - (lg_sl ([.ref (bF 0), .int x1])).length) Slot.unset).toArray = ls at hl ⊢
  have hl : lv_has ls 3 [(0, .ref (bF 0)), (1, .int x1)] := hl
  have htu : ∀ w ∈ UW, w.before _ s = true := fun w h => hts w (List.mem_cons_of_mem _ h)
  have k_2_21 := htu _ mw_2_21
  have k_2_19 := htu _ mw_2_19
  have k_1_150 := htu _ mw_1_150
  unfold f_X7_firstAlike at hf
  obtain ⟨H, hH⟩ : ∃ z, z = s.heap := ⟨_, rfl⟩
  obtain ⟨locs, hlo⟩ : ∃ z : List Loc, z = [] := ⟨_, rfl⟩
  have hS : va_S A s.heap H locs := by rw [hH, hlo]; exact hS
  rw [← hH] at hP
  have hW : W p l e (headSpec wsX7_firstAlike rmX7_firstAlike).room s m ([.ref (bF 0), .int x1] : List Value).toArray below meth c H locs 0 0 (MQ below (qI g A (cF g bF qF0 (bS 0) qF2 (bRF 0) qF4 vF ++ (cS g bS (bC 0) qS1 ++ (cC g bC vC ++ (cR g bRF nRF qRF0 qRF1 vRF)))) r) ([.ref (bF 0), .int x1] : List Value).toArray s 0 0 A) (F0 m 0 ls []) := by
    refine lv_iconst (v := (0 : Int32)) hx hb dX7_firstAlike_0 (by decide) ?_
    refine lv_istore_n (lv' := [(2, .int (0 : Int32)), (0, .ref (bF 0)), (1, .int x1)]) hx hb dX7_firstAlike_1 rfl hl (by decide) rfl (fun ls hl => ?_)
    have hL3 : ∀ (x2_1 : Int32), lp (f_X7_firstAlike_L2 vC nRF vRF x1) (fun _ => none) FU x2_1 = some r → ∀ (H : Heap) (locs : List Loc), va_P g.1 vwCl (cF g bF qF0 (bS 0) qF2 (bRF 0) qF4 vF ++ (cS g bS (bC 0) qS1 ++ (cC g bC vC ++ (cR g bRF nRF qRF0 qRF1 vRF)))) H → va_D A (cF g bF qF0 (bS 0) qF2 (bRF 0) qF4 vF ++ (cS g bS (bC 0) qS1 ++ (cC g bC vC ++ (cR g bRF nRF qRF0 qRF1 vRF)))) → va_S A s.heap H locs → ∀ ls : Array Slot, lv_has ls 3 [(0, .ref (bF 0)), (1, .int x1), (2, .int x2_1)] → W p l e (headSpec wsX7_firstAlike rmX7_firstAlike).room s m ([.ref (bF 0), .int x1] : List Value).toArray below meth c H locs 0 0 (MQ below (qI g A (cF g bF qF0 (bS 0) qF2 (bRF 0) qF4 vF ++ (cS g bS (bC 0) qS1 ++ (cC g bC vC ++ (cR g bRF nRF qRF0 qRF1 vRF)))) r) ([.ref (bF 0), .int x1] : List Value).toArray s 0 0 A) (F0 m 2 ls []) := by
      refine lp_ind (T := Int32 → Option (Int32)) (fun self2 => ∀ (x2_1 : Int32), self2 x2_1 = some r → ∀ (H : Heap) (locs : List Loc), va_P g.1 vwCl (cF g bF qF0 (bS 0) qF2 (bRF 0) qF4 vF ++ (cS g bS (bC 0) qS1 ++ (cC g bC vC ++ (cR g bRF nRF qRF0 qRF1 vRF)))) H → va_D A (cF g bF qF0 (bS 0) qF2 (bRF 0) qF4 vF ++ (cS g bS (bC 0) qS1 ++ (cC g bC vC ++ (cR g bRF nRF qRF0 qRF1 vRF)))) → va_S A s.heap H locs → ∀ ls : Array Slot, lv_has ls 3 [(0, .ref (bF 0)), (1, .int x1), (2, .int x2_1)] → W p l e (headSpec wsX7_firstAlike rmX7_firstAlike).room s m ([.ref (bF 0), .int x1] : List Value).toArray below meth c H locs 0 0 (MQ below (qI g A (cF g bF qF0 (bS 0) qF2 (bRF 0) qF4 vF ++ (cS g bS (bC 0) qS1 ++ (cC g bC vC ++ (cR g bRF nRF qRF0 qRF1 vRF)))) r) ([.ref (bF 0), .int x1] : List Value).toArray s 0 0 A) (F0 m 2 ls [])) ?_ ?_ FU
      · intro x2_1 hf; cases hf
      · intro self2 ih4 x2_1 hf H locs hP hD hS ls hl
        unfold f_X7_firstAlike_L2 at hf
        refine lv_iload_n hx hb dX7_firstAlike_2 rfl (lv_at hl 2 rfl) ?_
        refine lv_iload_n hx hb dX7_firstAlike_3 rfl (lv_at hl 1 rfl) ?_
        refine lv_icmp_ge (tgt := 34) hx hb dX7_firstAlike_4 (by decide) (fun c5 => ?_) (fun c5 => ?_)
        · have hf := it_t hf c5
          refine lv_iload_n hx hb dX7_firstAlike_34 rfl (lv_at hl 1 rfl) ?_
          have e6 := Option.some.inj hf
          exact k_iret hx hb hr hlocks hK hP hD hS e6 dX7_firstAlike_35
        · have hf := it_f hf c5
          refine lv_aload_n hx hb dX7_firstAlike_7 rfl (lv_at hl 0 rfl) ?_
          refine va_get (D := g.1) (ci := 7) (fs := fcF bF qF0 (bS 0) qF2 (bRF 0) qF4 vF) (v := .ref (bRF 0)) (C := RX7) (T := TX7) (N := 12) hx hb htu hinX7 hown hK hP 0 rfl rfl 3 (by decide) k_2_21 (fun _ h9 => h9) rfl dX7_firstAlike_8 ?_
          refine lv_aload_n hx hb dX7_firstAlike_11 rfl (lv_at hl 0 rfl) ?_
          refine va_get (D := g.1) (ci := 7) (fs := fcF bF qF0 (bS 0) qF2 (bRF 0) qF4 vF) (v := .ref (bS 0)) (C := RX7) (T := TX7) (N := 12) hx hb htu hinX7 hown hK hP 0 rfl rfl 1 (by decide) k_2_19 (fun _ h9 => h9) rfl dX7_firstAlike_12 ?_
          refine va_get (D := g.1) (ci := 4) (fs := fcS bS (bC 0) qS1) (v := .ref (bC 0)) (C := RX4) (T := TX4) (N := 2) hx hb htu hinX4 hown hK hP 6 rfl rfl 0 (by decide) k_1_150 (fun _ h9 => h9) rfl dX7_firstAlike_15 ?_
          refine lv_iload_n hx hb dX7_firstAlike_18 rfl (lv_at hl 1 rfl) ?_
          refine lv_iload_n hx hb dX7_firstAlike_19 rfl (lv_at hl 2 rfl) ?_
          obtain ⟨r7, hg8, hf⟩ := o1_at hf
          refine k_viP ⟨hx, hb, hml, hown, htu⟩ hK hP hD hS hA hG (c_X3_firstApart l g bRF nRF qRF0 qRF1 vRF bC vC x1 x2_1 r7 hg8) (cwV 3 htu (gU_V mw_2_122 hcX3_firstApart) rfl rfl rfl hdX3_firstApart ⟨Nat.le_of_ble_eq_true rfl, Nat.le_of_ble_eq_true rfl⟩) (q0 := 18) (ci := 3) (fs := fcR bRF qRF0 qRF1 vRF) (q := (RX3, TX3, 5)) rfl rfl rfl (wr := (cF g bF qF0 (bS 0) qF2 (bRF 0) qF4 vF ++ (cS g bS (bC 0) qS1))) (w2 := cF g bF qF0 (bS 0) qF2 (bRF 0) qF4 vF ++ (cS g bS (bC 0) qS1 ++ (cC g bC vC ++ (cR g bRF nRF qRF0 qRF1 vRF)))) [18, 19, 20, 7, 8, 9, 10, 11, 12, 13, 14, 15, 16, 17] [0, 1, 2, 3, 4, 5, 6] [0, 1, 2, 3, 4, 5, 6, 10, 11, 12, 13, 14, 15, 16, 17, 18, 19, 20, 7, 8, 9] rfl rfl (by decide) (by decide) (by decide) rfl rfl (by decide) (As := [.ref (bC 0), .int x1, .int x2_1]) (rest := []) rfl rfl hl.1 (Nat.le_of_ble_eq_true rfl) dX7_firstAlike_20 (k1 := 0) (n1 := 0) rfl rfl ⟨Nat.zero_le _, Nat.zero_le _⟩ (fun H locs hP hD hS => ?_)
          refine lv_if_ge (tgt := 28) hx hb dX7_firstAlike_23 (by decide) (fun c9 => ?_) (fun c9 => ?_)
          · have hf := it_t hf c9
            refine lv_iinc (v := (x2_1 + (1 : Int32))) (lv' := [(2, .int (x2_1 + (1 : Int32))), (0, .ref (bF 0)), (1, .int x1)]) hx hb dX7_firstAlike_28 hl (k := 2) rfl rfl (by decide) rfl (fun ls hl => ?_)
            refine lv_goto (tgt := 2) hx hb dX7_firstAlike_31 (by decide) ?_
            exact ih4 (x2_1 + (1 : Int32)) hf H locs hP hD hS _ (lv_sub hl [1, 2, 0] rfl)
          · have hf := it_f hf c9
            refine lv_iload_n hx hb dX7_firstAlike_26 rfl (lv_at hl 2 rfl) ?_
            have e10 := Option.some.inj hf
            exact k_iret hx hb hr hlocks hK hP hD hS e10 dX7_firstAlike_27
    exact hL3 (0 : Int32) hf H locs hP hD hS _ (lv_sub hl [1, 2, 0] rfl)
  rw [hH, hlo] at hW
  exact hW
def f_X7_fits_L2 (vC : Vs) (vT : Vs) (nRT : Nat) (vRT : Vs) (x1 : Int32) (self2 : Int32 → Option (Int32)) (x2_1 : Int32) : Option (Int32) :=
  if (vC.1 2) ≤ x2_1 then gd (isB (1 : Int32)) (some ((1 : Int32))) else o1 (f_X3_rowOf nRT vRT x1 x2_1 (0 : Int32)) (fun (r8 : Int32) => gd (inb x2_1 6) (gd (inb r8 nRT) (gd (inb x2_1 6) (gd (inb r8 nRT) (bn ((((((vT.2.1 3 (x2_1).toNatClampNeg)).toInt64) &&& (vRT.2.2 3 (r8).toNatClampNeg)) ||| ((((vT.2.1 4 (x2_1).toNatClampNeg)).toInt64) &&& (vRT.2.2 2 (r8).toNatClampNeg)))) (fun (y14 : Int64) => if (lg_cmp y14 (0 : Int64)) = 0 then self2 (x2_1 + (1 : Int32)) else gd (isB (0 : Int32)) (some ((0 : Int32)))))))))
def f_X7_fits (vF : Vs) (vC : Vs) (vT : Vs) (nRT : Nat) (vRT : Vs) (x1 : Int32) : Option (Int32) :=
  lp (f_X7_fits_L2 vC vT nRT vRT x1) (fun _ => none) FU (0 : Int32)
abbrev wsX7_fits : List Cond := .code yX7_fits cX7_fits 6 (some .boolean) :: UW
abbrev rmX7_fits : Room := { frames := 1, cells := 0, slots := 0, locals := 23 }
set_option maxHeartbeats 4000000 in
set_option maxRecDepth 100000 in
theorem c_X7_fits (l : Launch) (g : Gx) (bF : Nat → Nat) (qF0 : Nat) (qF2 : Nat) (qF3 : Nat) (vF : Vs) (bS : Nat → Nat) (bC : Nat → Nat) (vC : Vs) (bT : Nat → Nat) (vT : Vs) (bRT : Nat → Nat) (nRT : Nat) (qRT0 : Nat) (qRT1 : Nat) (vRT : Vs) (x1 : Int32) (r : Int32) (hf : f_X7_fits vF vC vT nRT vRT x1 = some r) : CtI l yX7_fits wsX7_fits rmX7_fits g [.ref (bF 0), .int x1] (cF g bF qF0 (bS 0) qF2 qF3 (bRT 0) vF ++ (cS g bS (bC 0) (bT 0) ++ (cC g bC vC ++ (cT g bT vT ++ (cR g bRT nRT qRT0 qRT1 vRT))))) (cF g bF qF0 (bS 0) qF2 qF3 (bRT 0) vF ++ (cS g bS (bC 0) (bT 0) ++ (cC g bC vC ++ (cT g bT vT ++ (cR g bRT nRT qRT0 qRT1 vRT))))) r 0 0 := by
  unfold CtI
  intro sz
  refine Met.ofW (cc := cX7_fits) (maxL := 6) (ret := (some .boolean)) (by decide) rfl ?_
  intro p e s m args below meth c s₁ B hml hv
  obtain ⟨rfl, hsz, hP, hK, hD0, hG⟩ := hv
  have hx := B.exec
  have hb := B.bytes
  have hr := B.returns
  have hts := atoms_spec (ws := wsX7_fits) B.pre
  have hown : s.vm.findClass RX7 = some m.cls := findClass_of_methodNamed B.named
  have hlocks := B.notSynchronized
  subst hsz
  have hD := hD0.self (sz := s.heap.size)
  generalize hAe : va_A (cF g bF qF0 (bS 0) qF2 qF3 (bRT 0) vF ++ (cS g bS (bC 0) (bT 0) ++ (cC g bC vC ++ (cT g bT vT ++ (cR g bRT nRT qRT0 qRT1 vRT))))) s.heap.size = A at hD hG ⊢
  have hA : ∀ q : Nat, s.heap.size ≤ q → A q := fun q h => by rw [← hAe]; exact Or.inr h
  clear hAe hD0
  have hS : va_S A s.heap s.heap [] := va_S.rf
  have hl := lv_entry ([.ref (bF 0), .int x1]) (n := 6) (Nat.le_of_ble_eq_true rfl)
  rw [lg_entry_eq]
  generalize (lg_sl ([.ref (bF 0), .int x1]) ++ List.replicate (6 - (lg_sl ([.ref (bF 0), .int x1])).length) Slot.unset).toArray = ls at hl ⊢
  have hl : lv_has ls 6 [(0, .ref (bF 0)), (1, .int x1)] := hl
  have htu : ∀ w ∈ UW, w.before _ s = true := fun w h => hts w (List.mem_cons_of_mem _ h)
  have k_2_19 := htu _ mw_2_19
  have k_1_150 := htu _ mw_1_150
  have k_1_65 := htu _ mw_1_65
  have k_2_22 := htu _ mw_2_22
  have k_1_153 := htu _ mw_1_153
  have k_1_135 := htu _ mw_1_135
  have k_2_5 := htu _ mw_2_5
  have k_1_137 := htu _ mw_1_137
  have k_2_3 := htu _ mw_2_3
  unfold f_X7_fits at hf
  obtain ⟨H, hH⟩ : ∃ z, z = s.heap := ⟨_, rfl⟩
  obtain ⟨locs, hlo⟩ : ∃ z : List Loc, z = [] := ⟨_, rfl⟩
  have hS : va_S A s.heap H locs := by rw [hH, hlo]; exact hS
  rw [← hH] at hP
  have hW : W p l e (headSpec wsX7_fits rmX7_fits).room s m ([.ref (bF 0), .int x1] : List Value).toArray below meth c H locs 0 0 (MQ below (qI g A (cF g bF qF0 (bS 0) qF2 qF3 (bRT 0) vF ++ (cS g bS (bC 0) (bT 0) ++ (cC g bC vC ++ (cT g bT vT ++ (cR g bRT nRT qRT0 qRT1 vRT))))) r) ([.ref (bF 0), .int x1] : List Value).toArray s 0 0 A) (F0 m 0 ls []) := by
    refine lv_iconst (v := (0 : Int32)) hx hb dX7_fits_0 (by decide) ?_
    refine lv_istore_n (lv' := [(2, .int (0 : Int32)), (0, .ref (bF 0)), (1, .int x1)]) hx hb dX7_fits_1 rfl hl (by decide) rfl (fun ls hl => ?_)
    have hL3 : ∀ (x2_1 : Int32), lp (f_X7_fits_L2 vC vT nRT vRT x1) (fun _ => none) FU x2_1 = some r → ∀ (H : Heap) (locs : List Loc), va_P g.1 vwCl (cF g bF qF0 (bS 0) qF2 qF3 (bRT 0) vF ++ (cS g bS (bC 0) (bT 0) ++ (cC g bC vC ++ (cT g bT vT ++ (cR g bRT nRT qRT0 qRT1 vRT))))) H → va_D A (cF g bF qF0 (bS 0) qF2 qF3 (bRT 0) vF ++ (cS g bS (bC 0) (bT 0) ++ (cC g bC vC ++ (cT g bT vT ++ (cR g bRT nRT qRT0 qRT1 vRT))))) → va_S A s.heap H locs → ∀ ls : Array Slot, lv_has ls 6 [(0, .ref (bF 0)), (1, .int x1), (2, .int x2_1)] → W p l e (headSpec wsX7_fits rmX7_fits).room s m ([.ref (bF 0), .int x1] : List Value).toArray below meth c H locs 0 0 (MQ below (qI g A (cF g bF qF0 (bS 0) qF2 qF3 (bRT 0) vF ++ (cS g bS (bC 0) (bT 0) ++ (cC g bC vC ++ (cT g bT vT ++ (cR g bRT nRT qRT0 qRT1 vRT))))) r) ([.ref (bF 0), .int x1] : List Value).toArray s 0 0 A) (F0 m 2 ls []) := by
      refine lp_ind (T := Int32 → Option (Int32)) (fun self2 => ∀ (x2_1 : Int32), self2 x2_1 = some r → ∀ (H : Heap) (locs : List Loc), va_P g.1 vwCl (cF g bF qF0 (bS 0) qF2 qF3 (bRT 0) vF ++ (cS g bS (bC 0) (bT 0) ++ (cC g bC vC ++ (cT g bT vT ++ (cR g bRT nRT qRT0 qRT1 vRT))))) H → va_D A (cF g bF qF0 (bS 0) qF2 qF3 (bRT 0) vF ++ (cS g bS (bC 0) (bT 0) ++ (cC g bC vC ++ (cT g bT vT ++ (cR g bRT nRT qRT0 qRT1 vRT))))) → va_S A s.heap H locs → ∀ ls : Array Slot, lv_has ls 6 [(0, .ref (bF 0)), (1, .int x1), (2, .int x2_1)] → W p l e (headSpec wsX7_fits rmX7_fits).room s m ([.ref (bF 0), .int x1] : List Value).toArray below meth c H locs 0 0 (MQ below (qI g A (cF g bF qF0 (bS 0) qF2 qF3 (bRT 0) vF ++ (cS g bS (bC 0) (bT 0) ++ (cC g bC vC ++ (cT g bT vT ++ (cR g bRT nRT qRT0 qRT1 vRT))))) r) ([.ref (bF 0), .int x1] : List Value).toArray s 0 0 A) (F0 m 2 ls [])) ?_ ?_ FU
      · intro x2_1 hf; cases hf
      · intro self2 ih4 x2_1 hf H locs hP hD hS ls hl
        unfold f_X7_fits_L2 at hf
        refine lv_iload_n hx hb dX7_fits_2 rfl (lv_at hl 2 rfl) ?_
        refine lv_aload_n hx hb dX7_fits_3 rfl (lv_at hl 0 rfl) ?_
        refine va_get (D := g.1) (ci := 7) (fs := fcF bF qF0 (bS 0) qF2 qF3 (bRT 0) vF) (v := .ref (bS 0)) (C := RX7) (T := TX7) (N := 12) hx hb htu hinX7 hown hK hP 0 rfl rfl 1 (by decide) k_2_19 (fun _ h9 => h9) rfl dX7_fits_4 ?_
        refine va_get (D := g.1) (ci := 4) (fs := fcS bS (bC 0) (bT 0)) (v := .ref (bC 0)) (C := RX4) (T := TX4) (N := 2) hx hb htu hinX4 hown hK hP 6 rfl rfl 0 (by decide) k_1_150 (fun _ h9 => h9) rfl dX7_fits_7 ?_
        refine va_get (D := g.1) (ci := 0) (fs := fcC bC vC) (v := .int (vC.1 2)) (C := RX0) (T := TX0) (N := 14) hx hb htu hinX0 hown hK hP 7 rfl rfl 2 (by decide) k_1_65 (fun _ h9 => h9) rfl dX7_fits_10 ?_
        refine lv_icmp_ge (tgt := 91) hx hb dX7_fits_13 (by decide) (fun c5 => ?_) (fun c5 => ?_)
        · have hf := it_t hf c5
          refine lv_iconst (v := (1 : Int32)) hx hb dX7_fits_91 (by decide) ?_
          obtain ⟨h6, hf⟩ := gd_isB hf
          have e7 := Option.some.inj hf
          exact k_zret hx hb hr hlocks hK hP hD hS e7 h6 dX7_fits_92
        · have hf := it_f hf c5
          refine lv_aload_n hx hb dX7_fits_16 rfl (lv_at hl 0 rfl) ?_
          refine va_get (D := g.1) (ci := 7) (fs := fcF bF qF0 (bS 0) qF2 qF3 (bRT 0) vF) (v := .ref (bRT 0)) (C := RX7) (T := TX7) (N := 12) hx hb htu hinX7 hown hK hP 0 rfl rfl 4 (by decide) k_2_22 (fun _ h9 => h9) rfl dX7_fits_17 ?_
          refine lv_iload_n hx hb dX7_fits_20 rfl (lv_at hl 1 rfl) ?_
          refine lv_iload_n hx hb dX7_fits_21 rfl (lv_at hl 2 rfl) ?_
          refine lv_iconst (v := (0 : Int32)) hx hb dX7_fits_22 (by decide) ?_
          obtain ⟨r8, hg9, hf⟩ := o1_at hf
          refine k_viP ⟨hx, hb, hml, hown, htu⟩ hK hP hD hS hA hG (c_X3_rowOf l g bRT nRT qRT0 qRT1 vRT x1 x2_1 (0 : Int32) r8 hg9) (cwV 3 htu (gU_V mw_2_192 hcX3_rowOf) rfl rfl rfl hdX3_rowOf ⟨Nat.le_of_ble_eq_true rfl, Nat.le_of_ble_eq_true rfl⟩) (q0 := 23) (ci := 3) (fs := fcR bRT qRT0 qRT1 vRT) (q := (RX3, TX3, 5)) rfl rfl rfl (wr := (cF g bF qF0 (bS 0) qF2 qF3 (bRT 0) vF ++ (cS g bS (bC 0) (bT 0) ++ (cC g bC vC ++ (cT g bT vT))))) (w2 := cF g bF qF0 (bS 0) qF2 qF3 (bRT 0) vF ++ (cS g bS (bC 0) (bT 0) ++ (cC g bC vC ++ (cT g bT vT ++ (cR g bRT nRT qRT0 qRT1 vRT))))) [23, 24, 25] [0, 1, 2, 3, 4, 5, 6, 7, 8, 9, 10, 11, 12, 13, 14, 15, 16, 17, 18, 19, 20, 21, 22] [0, 1, 2, 3, 4, 5, 6, 7, 8, 9, 10, 11, 12, 13, 14, 15, 16, 17, 18, 19, 20, 21, 22, 23, 24, 25] rfl rfl (by decide) (by decide) (by decide) rfl rfl (by decide) (As := [.int x1, .int x2_1, .int (0 : Int32)]) (rest := []) rfl rfl hl.1 (Nat.le_of_ble_eq_true rfl) dX7_fits_23 (k1 := 0) (n1 := 0) rfl rfl ⟨Nat.zero_le _, Nat.zero_le _⟩ (fun H locs hP hD hS => ?_)
          refine lv_istore_n (lv' := [(3, .int r8), (0, .ref (bF 0)), (1, .int x1), (2, .int x2_1)]) hx hb dX7_fits_26 rfl hl (by decide) rfl (fun ls hl => ?_)
          refine lv_aload_n hx hb dX7_fits_27 rfl (lv_at hl 1 rfl) ?_
          refine va_get (D := g.1) (ci := 7) (fs := fcF bF qF0 (bS 0) qF2 qF3 (bRT 0) vF) (v := .ref (bS 0)) (C := RX7) (T := TX7) (N := 12) hx hb htu hinX7 hown hK hP 0 rfl rfl 1 (by decide) k_2_19 (fun _ h9 => h9) rfl dX7_fits_28 ?_
          refine va_get (D := g.1) (ci := 4) (fs := fcS bS (bC 0) (bT 0)) (v := .ref (bT 0)) (C := RX4) (T := TX4) (N := 2) hx hb htu hinX4 hown hK hP 6 rfl rfl 1 (by decide) k_1_153 (fun _ h9 => h9) rfl dX7_fits_31 ?_
          refine va_get (D := g.1) (ci := 6) (fs := fcT bT vT) (v := .ref (bT 4)) (C := RX6) (T := TX6) (N := 5) hx hb htu hinX6 hown hK hP 18 rfl rfl 3 (by decide) k_1_135 (fun _ h9 => h9) rfl dX7_fits_34 ?_
          refine lv_iload_n hx hb dX7_fits_37 rfl (lv_at hl 3 rfl) ?_
          obtain ⟨h10, hf⟩ := gd_in hf
          refine va_iald (D := g.1) (f := (vT.2.1 3)) hx hb hK hP 21 0 rfl rfl h10 dX7_fits_38 ?_
          refine lv_i2l (v := ((vT.2.1 3 (x2_1).toNatClampNeg)).toInt64) hx hb dX7_fits_39 rfl ?_
          refine lv_aload_n hx hb dX7_fits_40 rfl (lv_at hl 1 rfl) ?_
          refine va_get (D := g.1) (ci := 7) (fs := fcF bF qF0 (bS 0) qF2 qF3 (bRT 0) vF) (v := .ref (bRT 0)) (C := RX7) (T := TX7) (N := 12) hx hb htu hinX7 hown hK hP 0 rfl rfl 4 (by decide) k_2_22 (fun _ h9 => h9) rfl dX7_fits_41 ?_
          refine va_get (D := g.1) (ci := 3) (fs := fcR bRT qRT0 qRT1 vRT) (v := .ref (bRT 4)) (C := RX3) (T := TX3) (N := 5) hx hb htu hinX3 hown hK hP 23 rfl rfl 3 (by decide) k_2_5 (fun _ h9 => h9) rfl dX7_fits_44 ?_
          refine lv_iload_n hx hb dX7_fits_47 rfl (lv_at hl 0 rfl) ?_
          obtain ⟨h11, hf⟩ := gd_in hf
          refine va_lald (D := g.1) (f := (vRT.2.2 3)) hx hb hK hP 25 1 rfl rfl h11 dX7_fits_48 ?_
          refine lv_land hx hb dX7_fits_49 ?_
          refine lv_aload_n hx hb dX7_fits_50 rfl (lv_at hl 1 rfl) ?_
          refine va_get (D := g.1) (ci := 7) (fs := fcF bF qF0 (bS 0) qF2 qF3 (bRT 0) vF) (v := .ref (bS 0)) (C := RX7) (T := TX7) (N := 12) hx hb htu hinX7 hown hK hP 0 rfl rfl 1 (by decide) k_2_19 (fun _ h9 => h9) rfl dX7_fits_51 ?_
          refine va_get (D := g.1) (ci := 4) (fs := fcS bS (bC 0) (bT 0)) (v := .ref (bT 0)) (C := RX4) (T := TX4) (N := 2) hx hb htu hinX4 hown hK hP 6 rfl rfl 1 (by decide) k_1_153 (fun _ h9 => h9) rfl dX7_fits_54 ?_
          refine va_get (D := g.1) (ci := 6) (fs := fcT bT vT) (v := .ref (bT 5)) (C := RX6) (T := TX6) (N := 5) hx hb htu hinX6 hown hK hP 18 rfl rfl 4 (by decide) k_1_137 (fun _ h9 => h9) rfl dX7_fits_57 ?_
          refine lv_iload_n hx hb dX7_fits_60 rfl (lv_at hl 3 rfl) ?_
          obtain ⟨h12, hf⟩ := gd_in hf
          refine va_iald (D := g.1) (f := (vT.2.1 4)) hx hb hK hP 22 0 rfl rfl h12 dX7_fits_61 ?_
          refine lv_i2l (v := ((vT.2.1 4 (x2_1).toNatClampNeg)).toInt64) hx hb dX7_fits_62 rfl ?_
          refine lv_aload_n hx hb dX7_fits_63 rfl (lv_at hl 1 rfl) ?_
          refine va_get (D := g.1) (ci := 7) (fs := fcF bF qF0 (bS 0) qF2 qF3 (bRT 0) vF) (v := .ref (bRT 0)) (C := RX7) (T := TX7) (N := 12) hx hb htu hinX7 hown hK hP 0 rfl rfl 4 (by decide) k_2_22 (fun _ h9 => h9) rfl dX7_fits_64 ?_
          refine va_get (D := g.1) (ci := 3) (fs := fcR bRT qRT0 qRT1 vRT) (v := .ref (bRT 3)) (C := RX3) (T := TX3) (N := 5) hx hb htu hinX3 hown hK hP 23 rfl rfl 2 (by decide) k_2_3 (fun _ h9 => h9) rfl dX7_fits_67 ?_
          refine lv_iload_n hx hb dX7_fits_70 rfl (lv_at hl 0 rfl) ?_
          obtain ⟨h13, hf⟩ := gd_in hf
          refine va_lald (D := g.1) (f := (vRT.2.2 2)) hx hb hK hP 24 1 rfl rfl h13 dX7_fits_71 ?_
          refine lv_land hx hb dX7_fits_72 ?_
          refine lv_lor hx hb dX7_fits_73 ?_
          refine lv_topl (fun y14 ey14 => ?_)
          have hf := bn_at hf ey14
          refine lv_lstore (lv' := [(4, .long y14), (3, .int r8), (0, .ref (bF 0)), (1, .int x1), (2, .int x2_1)]) hx hb dX7_fits_74 hl (by decide) rfl (fun ls hl => ?_)
          refine lv_lload hx hb dX7_fits_76 (lv_at hl 0 rfl) ?_
          refine lv_lconst (v := (0 : Int64)) hx hb dX7_fits_78 (by decide) ?_
          refine W.lcmp hx hb dX7_fits_79 ?_
          refine lv_if_eq (tgt := 85) hx hb dX7_fits_80 (by decide) (fun c15 => ?_) (fun c15 => ?_)
          · have hf := it_t hf c15
            refine lv_iinc (v := (x2_1 + (1 : Int32))) (lv' := [(2, .int (x2_1 + (1 : Int32))), (4, .long y14), (3, .int r8), (0, .ref (bF 0)), (1, .int x1)]) hx hb dX7_fits_85 hl (k := 4) rfl rfl (by decide) rfl (fun ls hl => ?_)
            refine lv_goto (tgt := 2) hx hb dX7_fits_88 (by decide) ?_
            exact ih4 (x2_1 + (1 : Int32)) hf H locs hP hD hS _ (lv_sub hl [3, 4, 0] rfl)
          · have hf := it_f hf c15
            refine lv_iconst (v := (0 : Int32)) hx hb dX7_fits_83 (by decide) ?_
            obtain ⟨h16, hf⟩ := gd_isB hf
            have e17 := Option.some.inj hf
            exact k_zret hx hb hr hlocks hK hP hD hS e17 h16 dX7_fits_84
    exact hL3 (0 : Int32) hf H locs hP hD hS _ (lv_sub hl [1, 2, 0] rfl)
  rw [hH, hlo] at hW
  exact hW
def f_X7_listFitting_L19 (vC : Vs) (vT : Vs) (nRT : Nat) (vRT_2 : Vs) (vG_3 : Vs) (vB_4 : Vs) (r6 : Int32) (self11 : Int32 → Int32 → Vs → Option (Int32 × Vs × Vs × Vs × Vs)) (x2_8 : Int32) (x3_9 : Int32) (vF_10 : Vs) : Option (Int32 × Vs × Vs × Vs × Vs) :=
  if r6 ≤ x3_9 then some (x2_8, vF_10, vRT_2, vG_3, vB_4) else o1 (f_X7_fits vF_10 vC vT nRT vRT_2 x3_9) (fun (r20 : Int32) => jn (fun (x2_22 : Int32) (vF_23 : Vs) => self11 x2_22 (x3_9 + (1 : Int32)) vF_23) (fun k24 => if r20 = 0 then k24 x2_8 vF_10 else gd (inb x2_8 57) (bn (sI vF_10 7 (x2_8).toNatClampNeg x3_9) (fun (vF_29 : Vs) => k24 (x2_8 + (1 : Int32)) vF_29))))
def f_X7_listFitting (vF : Vs) (vC : Vs) (vT : Vs) (nRT : Nat) (vRT : Vs) (vG : Vs) (vB : Vs) : Option (Int32 × Vs × Vs × Vs × Vs) :=
  o4 (f_X7_refreshTestRows vF vC vT nRT vRT vG vB) (fun (vF_1 : Vs) (vRT_2 : Vs) (vG_3 : Vs) (vB_4 : Vs) => o1 (f_X0_faultCount vC) (fun (r6 : Int32) => lp (f_X7_listFitting_L19 vC vT nRT vRT_2 vG_3 vB_4 r6) (fun _ _ _ => none) FU (0 : Int32) (-1 : Int32) vF_1))
abbrev wsX7_listFitting : List Cond := .code yX7_listFitting cX7_listFitting 4 (some .int) :: UW
abbrev rmX7_listFitting : Room := { frames := 4, cells := 0, slots := 0, locals := 104 }
set_option maxHeartbeats 4000000 in
set_option maxRecDepth 100000 in
theorem c_X7_listFitting (l : Launch) (g : Gx) (bF : Nat → Nat) (qF0 : Nat) (qF2 : Nat) (qF3 : Nat) (vF : Vs) (bS : Nat → Nat) (bC : Nat → Nat) (vC : Vs) (bT : Nat → Nat) (vT : Vs) (bRT : Nat → Nat) (nRT : Nat) (vRT : Vs) (bG : Nat → Nat) (vG : Vs) (bB : Nat → Nat) (vB : Vs) (r : Int32) (vF1 : Vs) (vRT1 : Vs) (vG1 : Vs) (vB1 : Vs) (hf : f_X7_listFitting vF vC vT nRT vRT vG vB = some (r, vF1, vRT1, vG1, vB1)) : CtI l yX7_listFitting wsX7_listFitting rmX7_listFitting g [.ref (bF 0)] (cF g bF qF0 (bS 0) qF2 qF3 (bRT 0) vF ++ (cS g bS (bC 0) (bT 0) ++ (cC g bC vC ++ (cT g bT vT ++ (cR g bRT nRT (bG 0) (bB 0) vRT ++ (cL g bG vG ++ (cL g bB vB))))))) (cF g bF qF0 (bS 0) qF2 qF3 (bRT 0) vF1 ++ (cS g bS (bC 0) (bT 0) ++ (cC g bC vC ++ (cT g bT vT ++ (cR g bRT nRT (bG 0) (bB 0) vRT1 ++ (cL g bG vG1 ++ (cL g bB vB1))))))) r 0 0 := by
  unfold CtI
  intro sz
  refine Met.ofW (cc := cX7_listFitting) (maxL := 4) (ret := (some .int)) (by decide) rfl ?_
  intro p e s m args below meth c s₁ B hml hv
  obtain ⟨rfl, hsz, hP, hK, hD0, hG⟩ := hv
  have hx := B.exec
  have hb := B.bytes
  have hr := B.returns
  have hts := atoms_spec (ws := wsX7_listFitting) B.pre
  have hown : s.vm.findClass RX7 = some m.cls := findClass_of_methodNamed B.named
  have hlocks := B.notSynchronized
  subst hsz
  have hD := hD0.self (sz := s.heap.size)
  generalize hAe : va_A (cF g bF qF0 (bS 0) qF2 qF3 (bRT 0) vF ++ (cS g bS (bC 0) (bT 0) ++ (cC g bC vC ++ (cT g bT vT ++ (cR g bRT nRT (bG 0) (bB 0) vRT ++ (cL g bG vG ++ (cL g bB vB))))))) s.heap.size = A at hD hG ⊢
  have hA : ∀ q : Nat, s.heap.size ≤ q → A q := fun q h => by rw [← hAe]; exact Or.inr h
  clear hAe hD0
  have hS : va_S A s.heap s.heap [] := va_S.rf
  have hl := lv_entry ([.ref (bF 0)]) (n := 4) (Nat.le_of_ble_eq_true rfl)
  rw [lg_entry_eq]
  generalize (lg_sl ([.ref (bF 0)]) ++ List.replicate (4 - (lg_sl ([.ref (bF 0)])).length) Slot.unset).toArray = ls at hl ⊢
  have hl : lv_has ls 4 [(0, .ref (bF 0))] := hl
  have htu : ∀ w ∈ UW, w.before _ s = true := fun w h => hts w (List.mem_cons_of_mem _ h)
  have k_2_19 := htu _ mw_2_19
  have k_1_150 := htu _ mw_1_150
  have k_2_25 := htu _ mw_2_25
  unfold f_X7_listFitting at hf
  obtain ⟨H, hH⟩ : ∃ z, z = s.heap := ⟨_, rfl⟩
  obtain ⟨locs, hlo⟩ : ∃ z : List Loc, z = [] := ⟨_, rfl⟩
  have hS : va_S A s.heap H locs := by rw [hH, hlo]; exact hS
  rw [← hH] at hP
  have hW : W p l e (headSpec wsX7_listFitting rmX7_listFitting).room s m ([.ref (bF 0)] : List Value).toArray below meth c H locs 0 0 (MQ below (qI g A (cF g bF qF0 (bS 0) qF2 qF3 (bRT 0) vF1 ++ (cS g bS (bC 0) (bT 0) ++ (cC g bC vC ++ (cT g bT vT ++ (cR g bRT nRT (bG 0) (bB 0) vRT1 ++ (cL g bG vG1 ++ (cL g bB vB1))))))) r) ([.ref (bF 0)] : List Value).toArray s 0 0 A) (F0 m 0 ls []) := by
    refine lv_aload_n hx hb dX7_listFitting_0 rfl (lv_at hl 0 rfl) ?_
    obtain ⟨vF_1, vRT_2, vG_3, vB_4, hg5, hf⟩ := o4_at hf
    refine k_vvW ⟨hx, hb, hml, hown, htu⟩ hK hP hD hS hA hG (c_X7_refreshTestRows l g bF qF0 qF2 qF3 vF bS bC vC bT vT bRT nRT vRT bG vG bB vB vF_1 vRT_2 vG_3 vB_4 hg5) (cwV 0 htu (gU_V mw_2_157 hcX7_refreshTestRows) rfl rfl rfl hdX7_refreshTestRows ⟨Nat.le_of_ble_eq_true rfl, Nat.le_of_ble_eq_true rfl⟩) (q0 := 0) (ci := 7) (fs := fcF bF qF0 (bS 0) qF2 qF3 (bRT 0) vF) (q := (RX7, TX7, 12)) rfl rfl rfl (As := []) (rest := []) rfl rfl hl.1 (Nat.le_of_ble_eq_true rfl) dX7_listFitting_1 (k1 := 0) (n1 := 0) rfl rfl ⟨Nat.zero_le _, Nat.zero_le _⟩ (fun H locs hP hD hS => ?_)
    refine lv_aload_n hx hb dX7_listFitting_4 rfl (lv_at hl 0 rfl) ?_
    refine va_get (D := g.1) (ci := 7) (fs := fcF bF qF0 (bS 0) qF2 qF3 (bRT 0) vF_1) (v := .ref (bS 0)) (C := RX7) (T := TX7) (N := 12) hx hb htu hinX7 hown hK hP 0 rfl rfl 1 (by decide) k_2_19 (fun _ h9 => h9) rfl dX7_listFitting_5 ?_
    refine va_get (D := g.1) (ci := 4) (fs := fcS bS (bC 0) (bT 0)) (v := .ref (bC 0)) (C := RX4) (T := TX4) (N := 2) hx hb htu hinX4 hown hK hP 6 rfl rfl 0 (by decide) k_1_150 (fun _ h9 => h9) rfl dX7_listFitting_8 ?_
    obtain ⟨r6, hg7, hf⟩ := o1_at hf
    refine k_viP ⟨hx, hb, hml, hown, htu⟩ hK hP hD hS hA hG (c_X0_faultCount l g bC vC r6 hg7) (cwV 0 htu (gU_V mw_2_121 hcX0_faultCount) rfl rfl rfl hdX0_faultCount ⟨Nat.le_of_ble_eq_true rfl, Nat.le_of_ble_eq_true rfl⟩) (q0 := 7) (ci := 0) (fs := fcC bC vC) (q := (RX0, TX0, 14)) rfl rfl rfl (wr := (cF g bF qF0 (bS 0) qF2 qF3 (bRT 0) vF_1 ++ (cS g bS (bC 0) (bT 0) ++ (cT g bT vT ++ (cR g bRT nRT (bG 0) (bB 0) vRT_2 ++ (cL g bG vG_3 ++ (cL g bB vB_4))))))) (w2 := cF g bF qF0 (bS 0) qF2 qF3 (bRT 0) vF_1 ++ (cS g bS (bC 0) (bT 0) ++ (cC g bC vC ++ (cT g bT vT ++ (cR g bRT nRT (bG 0) (bB 0) vRT_2 ++ (cL g bG vG_3 ++ (cL g bB vB_4))))))) [7, 8, 9, 10, 11, 12, 13, 14, 15, 16, 17] [0, 1, 2, 3, 4, 5, 6, 18, 19, 20, 21, 22, 23, 24, 25, 26, 27, 28, 29, 30, 31] [0, 1, 2, 3, 4, 5, 6, 21, 22, 23, 24, 25, 26, 27, 28, 29, 30, 31, 7, 8, 9, 10, 11, 12, 13, 14, 15, 16, 17, 18, 19, 20] rfl rfl (by decide) (by decide) (by decide) rfl rfl (by decide) (As := []) (rest := []) rfl rfl hl.1 (Nat.le_of_ble_eq_true rfl) dX7_listFitting_11 (k1 := 0) (n1 := 0) rfl rfl ⟨Nat.zero_le _, Nat.zero_le _⟩ (fun H locs hP hD hS => ?_)
    refine lv_istore_n (lv' := [(1, .int r6), (0, .ref (bF 0))]) hx hb dX7_listFitting_14 rfl hl (by decide) rfl (fun ls hl => ?_)
    refine lv_iconst (v := (0 : Int32)) hx hb dX7_listFitting_15 (by decide) ?_
    refine lv_istore_n (lv' := [(2, .int (0 : Int32)), (1, .int r6), (0, .ref (bF 0))]) hx hb dX7_listFitting_16 rfl hl (by decide) rfl (fun ls hl => ?_)
    refine lv_iconst (v := (-1 : Int32)) hx hb dX7_listFitting_17 (by decide) ?_
    refine lv_istore_n (lv' := [(3, .int (-1 : Int32)), (2, .int (0 : Int32)), (1, .int r6), (0, .ref (bF 0))]) hx hb dX7_listFitting_18 rfl hl (by decide) rfl (fun ls hl => ?_)
    have hL12 : ∀ (x2_8 : Int32) (x3_9 : Int32) (vF_10 : Vs), lp (f_X7_listFitting_L19 vC vT nRT vRT_2 vG_3 vB_4 r6) (fun _ _ _ => none) FU x2_8 x3_9 vF_10 = some (r, vF1, vRT1, vG1, vB1) → ∀ (H : Heap) (locs : List Loc), va_P g.1 vwCl (cF g bF qF0 (bS 0) qF2 qF3 (bRT 0) vF_10 ++ (cS g bS (bC 0) (bT 0) ++ (cC g bC vC ++ (cT g bT vT ++ (cR g bRT nRT (bG 0) (bB 0) vRT_2 ++ (cL g bG vG_3 ++ (cL g bB vB_4))))))) H → va_D A (cF g bF qF0 (bS 0) qF2 qF3 (bRT 0) vF_10 ++ (cS g bS (bC 0) (bT 0) ++ (cC g bC vC ++ (cT g bT vT ++ (cR g bRT nRT (bG 0) (bB 0) vRT_2 ++ (cL g bG vG_3 ++ (cL g bB vB_4))))))) → va_S A s.heap H locs → ∀ ls : Array Slot, lv_has ls 4 [(0, .ref (bF 0)), (1, .int r6), (2, .int x2_8), (3, .int x3_9)] → W p l e (headSpec wsX7_listFitting rmX7_listFitting).room s m ([.ref (bF 0)] : List Value).toArray below meth c H locs 0 0 (MQ below (qI g A (cF g bF qF0 (bS 0) qF2 qF3 (bRT 0) vF1 ++ (cS g bS (bC 0) (bT 0) ++ (cC g bC vC ++ (cT g bT vT ++ (cR g bRT nRT (bG 0) (bB 0) vRT1 ++ (cL g bG vG1 ++ (cL g bB vB1))))))) r) ([.ref (bF 0)] : List Value).toArray s 0 0 A) (F0 m 19 ls []) := by
      refine lp_ind (T := Int32 → Int32 → Vs → Option (Int32 × Vs × Vs × Vs × Vs)) (fun self11 => ∀ (x2_8 : Int32) (x3_9 : Int32) (vF_10 : Vs), self11 x2_8 x3_9 vF_10 = some (r, vF1, vRT1, vG1, vB1) → ∀ (H : Heap) (locs : List Loc), va_P g.1 vwCl (cF g bF qF0 (bS 0) qF2 qF3 (bRT 0) vF_10 ++ (cS g bS (bC 0) (bT 0) ++ (cC g bC vC ++ (cT g bT vT ++ (cR g bRT nRT (bG 0) (bB 0) vRT_2 ++ (cL g bG vG_3 ++ (cL g bB vB_4))))))) H → va_D A (cF g bF qF0 (bS 0) qF2 qF3 (bRT 0) vF_10 ++ (cS g bS (bC 0) (bT 0) ++ (cC g bC vC ++ (cT g bT vT ++ (cR g bRT nRT (bG 0) (bB 0) vRT_2 ++ (cL g bG vG_3 ++ (cL g bB vB_4))))))) → va_S A s.heap H locs → ∀ ls : Array Slot, lv_has ls 4 [(0, .ref (bF 0)), (1, .int r6), (2, .int x2_8), (3, .int x3_9)] → W p l e (headSpec wsX7_listFitting rmX7_listFitting).room s m ([.ref (bF 0)] : List Value).toArray below meth c H locs 0 0 (MQ below (qI g A (cF g bF qF0 (bS 0) qF2 qF3 (bRT 0) vF1 ++ (cS g bS (bC 0) (bT 0) ++ (cC g bC vC ++ (cT g bT vT ++ (cR g bRT nRT (bG 0) (bB 0) vRT1 ++ (cL g bG vG1 ++ (cL g bB vB1))))))) r) ([.ref (bF 0)] : List Value).toArray s 0 0 A) (F0 m 19 ls [])) ?_ ?_ FU
      · intro x2_8 x3_9 vF_10 hf; cases hf
      · intro self11 ih13 x2_8 x3_9 vF_10 hf H locs hP hD hS ls hl
        unfold f_X7_listFitting_L19 at hf
        refine lv_iload_n hx hb dX7_listFitting_19 rfl (lv_at hl 3 rfl) ?_
        refine lv_iload_n hx hb dX7_listFitting_20 rfl (lv_at hl 1 rfl) ?_
        refine lv_icmp_ge (tgt := 48) hx hb dX7_listFitting_21 (by decide) (fun c14 => ?_) (fun c14 => ?_)
        · have hf := it_t hf c14
          refine lv_iload_n hx hb dX7_listFitting_48 rfl (lv_at hl 2 rfl) ?_
          obtain ⟨e15, e16, e17, e18, e19⟩ := kp_5 hf
          rw [e16] at hP hD
          rw [e17] at hP hD
          rw [e18] at hP hD
          rw [e19] at hP hD
          exact k_iret hx hb hr hlocks hK hP hD hS e15 dX7_listFitting_49
        · have hf := it_f hf c14
          refine lv_aload_n hx hb dX7_listFitting_24 rfl (lv_at hl 0 rfl) ?_
          refine lv_iload_n hx hb dX7_listFitting_25 rfl (lv_at hl 3 rfl) ?_
          obtain ⟨r20, hg21, hf⟩ := o1_at hf
          refine k_viP ⟨hx, hb, hml, hown, htu⟩ hK hP hD hS hA hG (c_X7_fits l g bF qF0 qF2 qF3 vF_10 bS bC vC bT vT bRT nRT (bG 0) (bB 0) vRT_2 x3_9 r20 hg21) (cwV 1 htu (gU_V mw_2_188 hcX7_fits) rfl rfl rfl hdX7_fits ⟨Nat.le_of_ble_eq_true rfl, Nat.le_of_ble_eq_true rfl⟩) (q0 := 0) (ci := 7) (fs := fcF bF qF0 (bS 0) qF2 qF3 (bRT 0) vF_10) (q := (RX7, TX7, 12)) rfl rfl rfl (wr := (cL g bG vG_3 ++ (cL g bB vB_4))) (w2 := cF g bF qF0 (bS 0) qF2 qF3 (bRT 0) vF_10 ++ (cS g bS (bC 0) (bT 0) ++ (cC g bC vC ++ (cT g bT vT ++ (cR g bRT nRT (bG 0) (bB 0) vRT_2 ++ (cL g bG vG_3 ++ (cL g bB vB_4))))))) [0, 1, 2, 3, 4, 5, 6, 7, 8, 9, 10, 11, 12, 13, 14, 15, 16, 17, 18, 19, 20, 21, 22, 23, 24, 25] [26, 27, 28, 29, 30, 31] [6, 7, 8, 9, 10, 11, 12, 13, 14, 15, 16, 17, 18, 19, 20, 21, 22, 23, 24, 25, 26, 27, 28, 29, 30, 31, 0, 1, 2, 3, 4, 5] rfl rfl (by decide) (by decide) (by decide) rfl rfl (by decide) (As := [.int x3_9]) (rest := []) rfl rfl hl.1 (Nat.le_of_ble_eq_true rfl) dX7_listFitting_26 (k1 := 0) (n1 := 0) rfl rfl ⟨Nat.zero_le _, Nat.zero_le _⟩ (fun H locs hP hD hS => ?_)
          obtain ⟨k24, hk26, hf⟩ := jn_at hf
          have hJ25 : ∀ (x2_22 : Int32) (vF_23 : Vs), k24 x2_22 vF_23 = some (r, vF1, vRT1, vG1, vB1) → ∀ (H : Heap) (locs : List Loc), va_P g.1 vwCl (cF g bF qF0 (bS 0) qF2 qF3 (bRT 0) vF_23 ++ (cS g bS (bC 0) (bT 0) ++ (cC g bC vC ++ (cT g bT vT ++ (cR g bRT nRT (bG 0) (bB 0) vRT_2 ++ (cL g bG vG_3 ++ (cL g bB vB_4))))))) H → va_D A (cF g bF qF0 (bS 0) qF2 qF3 (bRT 0) vF_23 ++ (cS g bS (bC 0) (bT 0) ++ (cC g bC vC ++ (cT g bT vT ++ (cR g bRT nRT (bG 0) (bB 0) vRT_2 ++ (cL g bG vG_3 ++ (cL g bB vB_4))))))) → va_S A s.heap H locs → ∀ ls : Array Slot, lv_has ls 4 [(0, .ref (bF 0)), (1, .int r6), (2, .int x2_22), (3, .int x3_9)] → W p l e (headSpec wsX7_listFitting rmX7_listFitting).room s m ([.ref (bF 0)] : List Value).toArray below meth c H locs 0 0 (MQ below (qI g A (cF g bF qF0 (bS 0) qF2 qF3 (bRT 0) vF1 ++ (cS g bS (bC 0) (bT 0) ++ (cC g bC vC ++ (cT g bT vT ++ (cR g bRT nRT (bG 0) (bB 0) vRT1 ++ (cL g bG vG1 ++ (cL g bB vB1))))))) r) ([.ref (bF 0)] : List Value).toArray s 0 0 A) (F0 m 42 ls []) := by
            intro x2_22 vF_23 hf H locs hP hD hS ls hl
            rw [hk26] at hf
            dsimp only at hf
            clear hk26
            refine lv_iinc (v := (x3_9 + (1 : Int32))) (lv' := [(3, .int (x3_9 + (1 : Int32))), (0, .ref (bF 0)), (1, .int r6), (2, .int x2_22)]) hx hb dX7_listFitting_42 hl (k := 3) rfl rfl (by decide) rfl (fun ls hl => ?_)
            refine lv_goto (tgt := 19) hx hb dX7_listFitting_45 (by decide) ?_
            exact ih13 x2_22 (x3_9 + (1 : Int32)) vF_23 hf H locs hP hD hS _ (lv_sub hl [1, 2, 3, 0] rfl)
          refine lv_if_eq (tgt := 42) hx hb dX7_listFitting_29 (by decide) (fun c27 => ?_) (fun c27 => ?_)
          · have hf := it_t hf c27
            exact hJ25 x2_8 vF_10 hf H locs hP hD hS _ (lv_sub hl [0, 1, 2, 3] rfl)
          · have hf := it_f hf c27
            refine lv_aload_n hx hb dX7_listFitting_32 rfl (lv_at hl 0 rfl) ?_
            refine va_get (D := g.1) (ci := 7) (fs := fcF bF qF0 (bS 0) qF2 qF3 (bRT 0) vF_10) (v := .ref (bF 8)) (C := RX7) (T := TX7) (N := 12) hx hb htu hinX7 hown hK hP 0 rfl rfl 7 (by decide) k_2_25 (fun _ h9 => h9) rfl dX7_listFitting_33 ?_
            refine lv_iload_n hx hb dX7_listFitting_36 rfl (lv_at hl 2 rfl) ?_
            refine lv_iload_n hx hb dX7_listFitting_37 rfl (lv_at hl 3 rfl) ?_
            obtain ⟨h28, hf⟩ := gd_in hf
            refine va_iast (D := g.1) (f := (vF_10.2.1 7)) hx hb hK hP hD hS 1 0 rfl rfl h28 dX7_listFitting_38 (fun H locs hP hD hS => ?_)
            obtain ⟨vF_29, evF_29⟩ : ∃ z, z = sI vF_10 7 (x2_8).toNatClampNeg x3_9 := ⟨_, rfl⟩
            have hf := bn_at hf evF_29
            have hP : va_P g.1 vwCl (cF g bF qF0 (bS 0) qF2 qF3 (bRT 0) vF_29 ++ (cS g bS (bC 0) (bT 0) ++ (cC g bC vC ++ (cT g bT vT ++ (cR g bRT nRT (bG 0) (bB 0) vRT_2 ++ (cL g bG vG_3 ++ (cL g bB vB_4))))))) H := by rw [evF_29]; exact hP
            have hD : va_D A (cF g bF qF0 (bS 0) qF2 qF3 (bRT 0) vF_29 ++ (cS g bS (bC 0) (bT 0) ++ (cC g bC vC ++ (cT g bT vT ++ (cR g bRT nRT (bG 0) (bB 0) vRT_2 ++ (cL g bG vG_3 ++ (cL g bB vB_4))))))) := by rw [evF_29]; exact hD
            refine lv_iinc (v := (x2_8 + (1 : Int32))) (lv' := [(2, .int (x2_8 + (1 : Int32))), (0, .ref (bF 0)), (1, .int r6), (3, .int x3_9)]) hx hb dX7_listFitting_39 hl (k := 2) rfl rfl (by decide) rfl (fun ls hl => ?_)
            exact hJ25 (x2_8 + (1 : Int32)) vF_29 hf H locs hP hD hS _ (lv_sub hl [1, 2, 0, 3] rfl)
    exact hL12 (0 : Int32) (-1 : Int32) vF_1 hf H locs hP hD hS _ (lv_sub hl [3, 2, 1, 0] rfl)
  rw [hH, hlo] at hW
  exact hW
def f_X7_greatestPart_L67 (vC : Vs) (nRT : Nat) (vRT : Vs) (x1 : Int32) (x2 : Int32) (x3_1 : Int32) (self10 : Int32 → Vs → Option (Int32 × Vs)) (x4_8 : Int32) (vF_9 : Vs) : Option (Int32 × Vs) :=
  if x2 ≤ x4_8 then some (x3_1, vF_9) else gd (inb x4_8 57) (o1 (f_X3_partOf nRT vRT vC (vF_9.2.1 7 (x4_8).toNatClampNeg) x1) (fun (r17 : Int32) => gd (inb r17 729) (bn (sI vF_9 8 (r17).toNatClampNeg (0 : Int32)) (fun (vF_20 : Vs) => self10 (x4_8 + (1 : Int32)) vF_20))))
def f_X7_greatestPart_L5 (vC : Vs) (nRT : Nat) (vRT : Vs) (x1 : Int32) (x2 : Int32) (self4 : Int32 → Int32 → Vs → Option (Int32 × Vs)) (x3_1 : Int32) (x4_2 : Int32) (vF_3 : Vs) : Option (Int32 × Vs) :=
  if x2 ≤ x4_2 then lp (f_X7_greatestPart_L67 vC nRT vRT x1 x2 x3_1) (fun _ _ => none) FU (0 : Int32) vF_3 else gd (inb x4_2 57) (o1 (f_X3_partOf nRT vRT vC (vF_3.2.1 7 (x4_2).toNatClampNeg) x1) (fun (r22 : Int32) => gd (inb r22 729) (gd (inb r22 729) (bn (sI vF_3 8 (r22).toNatClampNeg ((vF_3.2.1 8 (r22).toNatClampNeg) + (1 : Int32))) (fun (vF_26 : Vs) => gd (inb r22 729) (bn ((if x3_1 < (vF_26.2.1 8 (r22).toNatClampNeg) then (vF_26.2.1 8 (r22).toNatClampNeg) else x3_1)) (fun (y28 : Int32) => self4 y28 (x4_2 + (1 : Int32)) vF_26)))))))
def f_X7_greatestPart (vF : Vs) (vC : Vs) (nRT : Nat) (vRT : Vs) (x1 : Int32) (x2 : Int32) : Option (Int32 × Vs) :=
  lp (f_X7_greatestPart_L5 vC nRT vRT x1 x2) (fun _ _ _ => none) FU (0 : Int32) (0 : Int32) vF
abbrev wsX7_greatestPart : List Cond := .code yX7_greatestPart cX7_greatestPart 6 (some .int) :: UW
abbrev rmX7_greatestPart : Room := { frames := 2, cells := 0, slots := 0, locals := 50 }
set_option maxHeartbeats 4000000 in
set_option maxRecDepth 100000 in
theorem c_X7_greatestPart (l : Launch) (g : Gx) (bF : Nat → Nat) (qF0 : Nat) (qF2 : Nat) (qF3 : Nat) (vF : Vs) (bS : Nat → Nat) (qS1 : Nat) (bC : Nat → Nat) (vC : Vs) (bRT : Nat → Nat) (nRT : Nat) (qRT0 : Nat) (qRT1 : Nat) (vRT : Vs) (x1 : Int32) (x2 : Int32) (r : Int32) (vF1 : Vs) (hf : f_X7_greatestPart vF vC nRT vRT x1 x2 = some (r, vF1)) : CtI l yX7_greatestPart wsX7_greatestPart rmX7_greatestPart g [.ref (bF 0), .int x1, .int x2] (cF g bF qF0 (bS 0) qF2 qF3 (bRT 0) vF ++ (cS g bS (bC 0) qS1 ++ (cC g bC vC ++ (cR g bRT nRT qRT0 qRT1 vRT)))) (cF g bF qF0 (bS 0) qF2 qF3 (bRT 0) vF1 ++ (cS g bS (bC 0) qS1 ++ (cC g bC vC ++ (cR g bRT nRT qRT0 qRT1 vRT)))) r 0 0 := by
  unfold CtI
  intro sz
  refine Met.ofW (cc := cX7_greatestPart) (maxL := 6) (ret := (some .int)) (by decide) rfl ?_
  intro p e s m args below meth c s₁ B hml hv
  obtain ⟨rfl, hsz, hP, hK, hD0, hG⟩ := hv
  have hx := B.exec
  have hb := B.bytes
  have hr := B.returns
  have hts := atoms_spec (ws := wsX7_greatestPart) B.pre
  have hown : s.vm.findClass RX7 = some m.cls := findClass_of_methodNamed B.named
  have hlocks := B.notSynchronized
  subst hsz
  have hD := hD0.self (sz := s.heap.size)
  generalize hAe : va_A (cF g bF qF0 (bS 0) qF2 qF3 (bRT 0) vF ++ (cS g bS (bC 0) qS1 ++ (cC g bC vC ++ (cR g bRT nRT qRT0 qRT1 vRT)))) s.heap.size = A at hD hG ⊢
  have hA : ∀ q : Nat, s.heap.size ≤ q → A q := fun q h => by rw [← hAe]; exact Or.inr h
  clear hAe hD0
  have hS : va_S A s.heap s.heap [] := va_S.rf
  have hl := lv_entry ([.ref (bF 0), .int x1, .int x2]) (n := 6) (Nat.le_of_ble_eq_true rfl)
  rw [lg_entry_eq]
  generalize (lg_sl ([.ref (bF 0), .int x1, .int x2]) ++ List.replicate (6 - (lg_sl ([.ref (bF 0), .int x1, .int x2])).length) Slot.unset).toArray = ls at hl ⊢
  have hl : lv_has ls 6 [(0, .ref (bF 0)), (1, .int x1), (2, .int x2)] := hl
  have htu : ∀ w ∈ UW, w.before _ s = true := fun w h => hts w (List.mem_cons_of_mem _ h)
  have k_2_26 := htu _ mw_2_26
  have k_2_22 := htu _ mw_2_22
  have k_2_19 := htu _ mw_2_19
  have k_1_150 := htu _ mw_1_150
  have k_2_25 := htu _ mw_2_25
  have k_2_208 := htu _ mw_2_208
  have k_2_209 := htu _ mw_2_209
  have k_1_14 := htu _ mw_1_14
  have k_2_210 := htu _ mw_2_210
  unfold f_X7_greatestPart at hf
  obtain ⟨H, hH⟩ : ∃ z, z = s.heap := ⟨_, rfl⟩
  obtain ⟨locs, hlo⟩ : ∃ z : List Loc, z = [] := ⟨_, rfl⟩
  have hS : va_S A s.heap H locs := by rw [hH, hlo]; exact hS
  rw [← hH] at hP
  have hW : W p l e (headSpec wsX7_greatestPart rmX7_greatestPart).room s m ([.ref (bF 0), .int x1, .int x2] : List Value).toArray below meth c H locs 0 0 (MQ below (qI g A (cF g bF qF0 (bS 0) qF2 qF3 (bRT 0) vF1 ++ (cS g bS (bC 0) qS1 ++ (cC g bC vC ++ (cR g bRT nRT qRT0 qRT1 vRT)))) r) ([.ref (bF 0), .int x1, .int x2] : List Value).toArray s 0 0 A) (F0 m 0 ls []) := by
    refine lv_iconst (v := (0 : Int32)) hx hb dX7_greatestPart_0 (by decide) ?_
    refine lv_istore_n (lv' := [(3, .int (0 : Int32)), (0, .ref (bF 0)), (1, .int x1), (2, .int x2)]) hx hb dX7_greatestPart_1 rfl hl (by decide) rfl (fun ls hl => ?_)
    refine lv_iconst (v := (0 : Int32)) hx hb dX7_greatestPart_2 (by decide) ?_
    refine lv_istore (lv' := [(4, .int (0 : Int32)), (3, .int (0 : Int32)), (0, .ref (bF 0)), (1, .int x1), (2, .int x2)]) hx hb dX7_greatestPart_3 hl (by decide) rfl (fun ls hl => ?_)
    have hL5 : ∀ (x3_1 : Int32) (x4_2 : Int32) (vF_3 : Vs), lp (f_X7_greatestPart_L5 vC nRT vRT x1 x2) (fun _ _ _ => none) FU x3_1 x4_2 vF_3 = some (r, vF1) → ∀ (H : Heap) (locs : List Loc), va_P g.1 vwCl (cF g bF qF0 (bS 0) qF2 qF3 (bRT 0) vF_3 ++ (cS g bS (bC 0) qS1 ++ (cC g bC vC ++ (cR g bRT nRT qRT0 qRT1 vRT)))) H → va_D A (cF g bF qF0 (bS 0) qF2 qF3 (bRT 0) vF_3 ++ (cS g bS (bC 0) qS1 ++ (cC g bC vC ++ (cR g bRT nRT qRT0 qRT1 vRT)))) → va_S A s.heap H locs → ∀ ls : Array Slot, lv_has ls 6 [(0, .ref (bF 0)), (1, .int x1), (2, .int x2), (3, .int x3_1), (4, .int x4_2)] → W p l e (headSpec wsX7_greatestPart rmX7_greatestPart).room s m ([.ref (bF 0), .int x1, .int x2] : List Value).toArray below meth c H locs 0 0 (MQ below (qI g A (cF g bF qF0 (bS 0) qF2 qF3 (bRT 0) vF1 ++ (cS g bS (bC 0) qS1 ++ (cC g bC vC ++ (cR g bRT nRT qRT0 qRT1 vRT)))) r) ([.ref (bF 0), .int x1, .int x2] : List Value).toArray s 0 0 A) (F0 m 5 ls []) := by
      refine lp_ind (T := Int32 → Int32 → Vs → Option (Int32 × Vs)) (fun self4 => ∀ (x3_1 : Int32) (x4_2 : Int32) (vF_3 : Vs), self4 x3_1 x4_2 vF_3 = some (r, vF1) → ∀ (H : Heap) (locs : List Loc), va_P g.1 vwCl (cF g bF qF0 (bS 0) qF2 qF3 (bRT 0) vF_3 ++ (cS g bS (bC 0) qS1 ++ (cC g bC vC ++ (cR g bRT nRT qRT0 qRT1 vRT)))) H → va_D A (cF g bF qF0 (bS 0) qF2 qF3 (bRT 0) vF_3 ++ (cS g bS (bC 0) qS1 ++ (cC g bC vC ++ (cR g bRT nRT qRT0 qRT1 vRT)))) → va_S A s.heap H locs → ∀ ls : Array Slot, lv_has ls 6 [(0, .ref (bF 0)), (1, .int x1), (2, .int x2), (3, .int x3_1), (4, .int x4_2)] → W p l e (headSpec wsX7_greatestPart rmX7_greatestPart).room s m ([.ref (bF 0), .int x1, .int x2] : List Value).toArray below meth c H locs 0 0 (MQ below (qI g A (cF g bF qF0 (bS 0) qF2 qF3 (bRT 0) vF1 ++ (cS g bS (bC 0) qS1 ++ (cC g bC vC ++ (cR g bRT nRT qRT0 qRT1 vRT)))) r) ([.ref (bF 0), .int x1, .int x2] : List Value).toArray s 0 0 A) (F0 m 5 ls [])) ?_ ?_ FU
      · intro x3_1 x4_2 vF_3 hf; cases hf
      · intro self4 ih6 x3_1 x4_2 vF_3 hf H locs hP hD hS ls hl
        unfold f_X7_greatestPart_L5 at hf
        refine lv_iload hx hb dX7_greatestPart_5 (lv_at hl 4 rfl) ?_
        refine lv_iload_n hx hb dX7_greatestPart_7 rfl (lv_at hl 2 rfl) ?_
        refine lv_icmp_ge (tgt := 64) hx hb dX7_greatestPart_8 (by decide) (fun c7 => ?_) (fun c7 => ?_)
        · have hf := it_t hf c7
          refine lv_iconst (v := (0 : Int32)) hx hb dX7_greatestPart_64 (by decide) ?_
          refine lv_istore (lv' := [(4, .int (0 : Int32)), (0, .ref (bF 0)), (1, .int x1), (2, .int x2), (3, .int x3_1)]) hx hb dX7_greatestPart_65 hl (by decide) rfl (fun ls hl => ?_)
          have hL11 : ∀ (x4_8 : Int32) (vF_9 : Vs), lp (f_X7_greatestPart_L67 vC nRT vRT x1 x2 x3_1) (fun _ _ => none) FU x4_8 vF_9 = some (r, vF1) → ∀ (H : Heap) (locs : List Loc), va_P g.1 vwCl (cF g bF qF0 (bS 0) qF2 qF3 (bRT 0) vF_9 ++ (cS g bS (bC 0) qS1 ++ (cC g bC vC ++ (cR g bRT nRT qRT0 qRT1 vRT)))) H → va_D A (cF g bF qF0 (bS 0) qF2 qF3 (bRT 0) vF_9 ++ (cS g bS (bC 0) qS1 ++ (cC g bC vC ++ (cR g bRT nRT qRT0 qRT1 vRT)))) → va_S A s.heap H locs → ∀ ls : Array Slot, lv_has ls 6 [(0, .ref (bF 0)), (1, .int x1), (2, .int x2), (3, .int x3_1), (4, .int x4_8)] → W p l e (headSpec wsX7_greatestPart rmX7_greatestPart).room s m ([.ref (bF 0), .int x1, .int x2] : List Value).toArray below meth c H locs 0 0 (MQ below (qI g A (cF g bF qF0 (bS 0) qF2 qF3 (bRT 0) vF1 ++ (cS g bS (bC 0) qS1 ++ (cC g bC vC ++ (cR g bRT nRT qRT0 qRT1 vRT)))) r) ([.ref (bF 0), .int x1, .int x2] : List Value).toArray s 0 0 A) (F0 m 67 ls []) := by
            refine lp_ind (T := Int32 → Vs → Option (Int32 × Vs)) (fun self10 => ∀ (x4_8 : Int32) (vF_9 : Vs), self10 x4_8 vF_9 = some (r, vF1) → ∀ (H : Heap) (locs : List Loc), va_P g.1 vwCl (cF g bF qF0 (bS 0) qF2 qF3 (bRT 0) vF_9 ++ (cS g bS (bC 0) qS1 ++ (cC g bC vC ++ (cR g bRT nRT qRT0 qRT1 vRT)))) H → va_D A (cF g bF qF0 (bS 0) qF2 qF3 (bRT 0) vF_9 ++ (cS g bS (bC 0) qS1 ++ (cC g bC vC ++ (cR g bRT nRT qRT0 qRT1 vRT)))) → va_S A s.heap H locs → ∀ ls : Array Slot, lv_has ls 6 [(0, .ref (bF 0)), (1, .int x1), (2, .int x2), (3, .int x3_1), (4, .int x4_8)] → W p l e (headSpec wsX7_greatestPart rmX7_greatestPart).room s m ([.ref (bF 0), .int x1, .int x2] : List Value).toArray below meth c H locs 0 0 (MQ below (qI g A (cF g bF qF0 (bS 0) qF2 qF3 (bRT 0) vF1 ++ (cS g bS (bC 0) qS1 ++ (cC g bC vC ++ (cR g bRT nRT qRT0 qRT1 vRT)))) r) ([.ref (bF 0), .int x1, .int x2] : List Value).toArray s 0 0 A) (F0 m 67 ls [])) ?_ ?_ FU
            · intro x4_8 vF_9 hf; cases hf
            · intro self10 ih12 x4_8 vF_9 hf H locs hP hD hS ls hl
              unfold f_X7_greatestPart_L67 at hf
              refine lv_iload hx hb dX7_greatestPart_67 (lv_at hl 4 rfl) ?_
              refine lv_iload_n hx hb dX7_greatestPart_69 rfl (lv_at hl 2 rfl) ?_
              refine lv_icmp_ge (tgt := 107) hx hb dX7_greatestPart_70 (by decide) (fun c13 => ?_) (fun c13 => ?_)
              · have hf := it_t hf c13
                refine lv_iload_n hx hb dX7_greatestPart_107 rfl (lv_at hl 3 rfl) ?_
                obtain ⟨e14, e15⟩ := kp_2 hf
                rw [e15] at hP hD
                exact k_iret hx hb hr hlocks hK hP hD hS e14 dX7_greatestPart_108
              · have hf := it_f hf c13
                refine lv_aload_n hx hb dX7_greatestPart_73 rfl (lv_at hl 0 rfl) ?_
                refine va_get (D := g.1) (ci := 7) (fs := fcF bF qF0 (bS 0) qF2 qF3 (bRT 0) vF_9) (v := .ref (bF 9)) (C := RX7) (T := TX7) (N := 12) hx hb htu hinX7 hown hK hP 0 rfl rfl 8 (by decide) k_2_26 (fun _ h9 => h9) rfl dX7_greatestPart_74 ?_
                refine lv_aload_n hx hb dX7_greatestPart_77 rfl (lv_at hl 0 rfl) ?_
                refine va_get (D := g.1) (ci := 7) (fs := fcF bF qF0 (bS 0) qF2 qF3 (bRT 0) vF_9) (v := .ref (bRT 0)) (C := RX7) (T := TX7) (N := 12) hx hb htu hinX7 hown hK hP 0 rfl rfl 4 (by decide) k_2_22 (fun _ h9 => h9) rfl dX7_greatestPart_78 ?_
                refine lv_aload_n hx hb dX7_greatestPart_81 rfl (lv_at hl 0 rfl) ?_
                refine va_get (D := g.1) (ci := 7) (fs := fcF bF qF0 (bS 0) qF2 qF3 (bRT 0) vF_9) (v := .ref (bS 0)) (C := RX7) (T := TX7) (N := 12) hx hb htu hinX7 hown hK hP 0 rfl rfl 1 (by decide) k_2_19 (fun _ h9 => h9) rfl dX7_greatestPart_82 ?_
                refine va_get (D := g.1) (ci := 4) (fs := fcS bS (bC 0) qS1) (v := .ref (bC 0)) (C := RX4) (T := TX4) (N := 2) hx hb htu hinX4 hown hK hP 6 rfl rfl 0 (by decide) k_1_150 (fun _ h9 => h9) rfl dX7_greatestPart_85 ?_
                refine lv_aload_n hx hb dX7_greatestPart_88 rfl (lv_at hl 0 rfl) ?_
                refine va_get (D := g.1) (ci := 7) (fs := fcF bF qF0 (bS 0) qF2 qF3 (bRT 0) vF_9) (v := .ref (bF 8)) (C := RX7) (T := TX7) (N := 12) hx hb htu hinX7 hown hK hP 0 rfl rfl 7 (by decide) k_2_25 (fun _ h9 => h9) rfl dX7_greatestPart_89 ?_
                refine lv_iload hx hb dX7_greatestPart_92 (lv_at hl 4 rfl) ?_
                obtain ⟨h16, hf⟩ := gd_in hf
                refine va_iald (D := g.1) (f := (vF_9.2.1 7)) hx hb hK hP 1 0 rfl rfl h16 dX7_greatestPart_94 ?_
                refine lv_iload_n hx hb dX7_greatestPart_95 rfl (lv_at hl 1 rfl) ?_
                obtain ⟨r17, hg18, hf⟩ := o1_at hf
                refine k_viP ⟨hx, hb, hml, hown, htu⟩ hK hP hD hS hA hG (c_X3_partOf l g bRT nRT qRT0 qRT1 vRT bC vC (vF_9.2.1 7 (x4_8).toNatClampNeg) x1 r17 hg18) (cwV 3 htu (gU_V mw_2_201 hcX3_partOf) rfl rfl rfl hdX3_partOf ⟨Nat.le_of_ble_eq_true rfl, Nat.le_of_ble_eq_true rfl⟩) (q0 := 18) (ci := 3) (fs := fcR bRT qRT0 qRT1 vRT) (q := (RX3, TX3, 5)) rfl rfl rfl (wr := (cF g bF qF0 (bS 0) qF2 qF3 (bRT 0) vF_9 ++ (cS g bS (bC 0) qS1))) (w2 := cF g bF qF0 (bS 0) qF2 qF3 (bRT 0) vF_9 ++ (cS g bS (bC 0) qS1 ++ (cC g bC vC ++ (cR g bRT nRT qRT0 qRT1 vRT)))) [18, 19, 20, 7, 8, 9, 10, 11, 12, 13, 14, 15, 16, 17] [0, 1, 2, 3, 4, 5, 6] [0, 1, 2, 3, 4, 5, 6, 10, 11, 12, 13, 14, 15, 16, 17, 18, 19, 20, 7, 8, 9] rfl rfl (by decide) (by decide) (by decide) rfl rfl (by decide) (As := [.ref (bC 0), .int (vF_9.2.1 7 (x4_8).toNatClampNeg), .int x1]) (rest := [.ref (bF 9)]) rfl rfl hl.1 (Nat.le_of_ble_eq_true rfl) dX7_greatestPart_96 (k1 := 0) (n1 := 0) rfl rfl ⟨Nat.zero_le _, Nat.zero_le _⟩ (fun H locs hP hD hS => ?_)
                refine lv_iconst (v := (0 : Int32)) hx hb dX7_greatestPart_99 (by decide) ?_
                obtain ⟨h19, hf⟩ := gd_in hf
                refine va_iast (D := g.1) (f := (vF_9.2.1 8)) hx hb hK hP hD hS 2 0 rfl rfl h19 dX7_greatestPart_100 (fun H locs hP hD hS => ?_)
                obtain ⟨vF_20, evF_20⟩ : ∃ z, z = sI vF_9 8 (r17).toNatClampNeg (0 : Int32) := ⟨_, rfl⟩
                have hf := bn_at hf evF_20
                have hP : va_P g.1 vwCl (cF g bF qF0 (bS 0) qF2 qF3 (bRT 0) vF_20 ++ (cS g bS (bC 0) qS1 ++ (cC g bC vC ++ (cR g bRT nRT qRT0 qRT1 vRT)))) H := by rw [evF_20]; exact hP
                have hD : va_D A (cF g bF qF0 (bS 0) qF2 qF3 (bRT 0) vF_20 ++ (cS g bS (bC 0) qS1 ++ (cC g bC vC ++ (cR g bRT nRT qRT0 qRT1 vRT)))) := by rw [evF_20]; exact hD
                refine lv_iinc (v := (x4_8 + (1 : Int32))) (lv' := [(4, .int (x4_8 + (1 : Int32))), (0, .ref (bF 0)), (1, .int x1), (2, .int x2), (3, .int x3_1)]) hx hb dX7_greatestPart_101 hl (k := 4) rfl rfl (by decide) rfl (fun ls hl => ?_)
                refine lv_goto (tgt := 67) hx hb dX7_greatestPart_104 (by decide) ?_
                exact ih12 (x4_8 + (1 : Int32)) vF_20 hf H locs hP hD hS _ (lv_sub hl [1, 2, 3, 4, 0] rfl)
          exact hL11 (0 : Int32) vF_3 hf H locs hP hD hS _ (lv_sub hl [1, 2, 3, 4, 0] rfl)
        · have hf := it_f hf c7
          refine lv_aload_n hx hb dX7_greatestPart_11 rfl (lv_at hl 0 rfl) ?_
          refine va_get (D := g.1) (ci := 7) (fs := fcF bF qF0 (bS 0) qF2 qF3 (bRT 0) vF_3) (v := .ref (bRT 0)) (C := RX7) (T := TX7) (N := 12) hx hb htu hinX7 hown hK hP 0 rfl rfl 4 (by decide) k_2_22 (fun _ h9 => h9) rfl dX7_greatestPart_12 ?_
          refine lv_aload_n hx hb dX7_greatestPart_15 rfl (lv_at hl 0 rfl) ?_
          refine va_get (D := g.1) (ci := 7) (fs := fcF bF qF0 (bS 0) qF2 qF3 (bRT 0) vF_3) (v := .ref (bS 0)) (C := RX7) (T := TX7) (N := 12) hx hb htu hinX7 hown hK hP 0 rfl rfl 1 (by decide) k_2_19 (fun _ h9 => h9) rfl dX7_greatestPart_16 ?_
          refine va_get (D := g.1) (ci := 4) (fs := fcS bS (bC 0) qS1) (v := .ref (bC 0)) (C := RX4) (T := TX4) (N := 2) hx hb htu hinX4 hown hK hP 6 rfl rfl 0 (by decide) k_1_150 (fun _ h9 => h9) rfl dX7_greatestPart_19 ?_
          refine lv_aload_n hx hb dX7_greatestPart_22 rfl (lv_at hl 0 rfl) ?_
          refine va_get (D := g.1) (ci := 7) (fs := fcF bF qF0 (bS 0) qF2 qF3 (bRT 0) vF_3) (v := .ref (bF 8)) (C := RX7) (T := TX7) (N := 12) hx hb htu hinX7 hown hK hP 0 rfl rfl 7 (by decide) k_2_25 (fun _ h9 => h9) rfl dX7_greatestPart_23 ?_
          refine lv_iload hx hb dX7_greatestPart_26 (lv_at hl 4 rfl) ?_
          obtain ⟨h21, hf⟩ := gd_in hf
          refine va_iald (D := g.1) (f := (vF_3.2.1 7)) hx hb hK hP 1 0 rfl rfl h21 dX7_greatestPart_28 ?_
          refine lv_iload_n hx hb dX7_greatestPart_29 rfl (lv_at hl 1 rfl) ?_
          obtain ⟨r22, hg23, hf⟩ := o1_at hf
          refine k_viP ⟨hx, hb, hml, hown, htu⟩ hK hP hD hS hA hG (c_X3_partOf l g bRT nRT qRT0 qRT1 vRT bC vC (vF_3.2.1 7 (x4_2).toNatClampNeg) x1 r22 hg23) (cwV 3 htu (gU_V mw_2_201 hcX3_partOf) rfl rfl rfl hdX3_partOf ⟨Nat.le_of_ble_eq_true rfl, Nat.le_of_ble_eq_true rfl⟩) (q0 := 18) (ci := 3) (fs := fcR bRT qRT0 qRT1 vRT) (q := (RX3, TX3, 5)) rfl rfl rfl (wr := (cF g bF qF0 (bS 0) qF2 qF3 (bRT 0) vF_3 ++ (cS g bS (bC 0) qS1))) (w2 := cF g bF qF0 (bS 0) qF2 qF3 (bRT 0) vF_3 ++ (cS g bS (bC 0) qS1 ++ (cC g bC vC ++ (cR g bRT nRT qRT0 qRT1 vRT)))) [18, 19, 20, 7, 8, 9, 10, 11, 12, 13, 14, 15, 16, 17] [0, 1, 2, 3, 4, 5, 6] [0, 1, 2, 3, 4, 5, 6, 10, 11, 12, 13, 14, 15, 16, 17, 18, 19, 20, 7, 8, 9] rfl rfl (by decide) (by decide) (by decide) rfl rfl (by decide) (As := [.ref (bC 0), .int (vF_3.2.1 7 (x4_2).toNatClampNeg), .int x1]) (rest := []) rfl rfl hl.1 (Nat.le_of_ble_eq_true rfl) dX7_greatestPart_30 (k1 := 0) (n1 := 0) rfl rfl ⟨Nat.zero_le _, Nat.zero_le _⟩ (fun H locs hP hD hS => ?_)
          refine lv_istore (lv' := [(5, .int r22), (0, .ref (bF 0)), (1, .int x1), (2, .int x2), (3, .int x3_1), (4, .int x4_2)]) hx hb dX7_greatestPart_33 hl (by decide) rfl (fun ls hl => ?_)
          refine lv_aload_n hx hb dX7_greatestPart_35 rfl (lv_at hl 1 rfl) ?_
          refine va_get (D := g.1) (ci := 7) (fs := fcF bF qF0 (bS 0) qF2 qF3 (bRT 0) vF_3) (v := .ref (bF 9)) (C := RX7) (T := TX7) (N := 12) hx hb htu hinX7 hown hK hP 0 rfl rfl 8 (by decide) k_2_26 (fun _ h9 => h9) rfl dX7_greatestPart_36 ?_
          refine lv_iload hx hb dX7_greatestPart_39 (lv_at hl 0 rfl) ?_
          refine lv_dup2_11 hx hb dX7_greatestPart_41 rfl rfl ?_
          obtain ⟨h24, hf⟩ := gd_in hf
          refine va_iald (D := g.1) (f := (vF_3.2.1 8)) hx hb hK hP 2 0 rfl rfl h24 dX7_greatestPart_42 ?_
          refine lv_iconst (v := (1 : Int32)) hx hb dX7_greatestPart_43 (by decide) ?_
          refine lv_iadd hx hb dX7_greatestPart_44 ?_
          obtain ⟨h25, hf⟩ := gd_in hf
          refine va_iast (D := g.1) (f := (vF_3.2.1 8)) hx hb hK hP hD hS 2 0 rfl rfl h25 dX7_greatestPart_45 (fun H locs hP hD hS => ?_)
          obtain ⟨vF_26, evF_26⟩ : ∃ z, z = sI vF_3 8 (r22).toNatClampNeg ((vF_3.2.1 8 (r22).toNatClampNeg) + (1 : Int32)) := ⟨_, rfl⟩
          have hf := bn_at hf evF_26
          have hP : va_P g.1 vwCl (cF g bF qF0 (bS 0) qF2 qF3 (bRT 0) vF_26 ++ (cS g bS (bC 0) qS1 ++ (cC g bC vC ++ (cR g bRT nRT qRT0 qRT1 vRT)))) H := by rw [evF_26]; exact hP
          have hD : va_D A (cF g bF qF0 (bS 0) qF2 qF3 (bRT 0) vF_26 ++ (cS g bS (bC 0) qS1 ++ (cC g bC vC ++ (cR g bRT nRT qRT0 qRT1 vRT)))) := by rw [evF_26]; exact hD
          refine lv_iload_n hx hb dX7_greatestPart_46 rfl (lv_at hl 4 rfl) ?_
          refine lv_aload_n hx hb dX7_greatestPart_47 rfl (lv_at hl 1 rfl) ?_
          refine va_get (D := g.1) (ci := 7) (fs := fcF bF qF0 (bS 0) qF2 qF3 (bRT 0) vF_26) (v := .ref (bF 9)) (C := RX7) (T := TX7) (N := 12) hx hb htu hinX7 hown hK hP 0 rfl rfl 8 (by decide) k_2_26 (fun _ h9 => h9) rfl dX7_greatestPart_48 ?_
          refine lv_iload hx hb dX7_greatestPart_51 (lv_at hl 0 rfl) ?_
          obtain ⟨h27, hf⟩ := gd_in hf
          refine va_iald (D := g.1) (f := (vF_26.2.1 8)) hx hb hK hP 2 0 rfl rfl h27 dX7_greatestPart_53 ?_
          refine va_mmax hx hb (hml.trans hl.1.symm) hown k_2_208 k_2_209 k_1_14 k_2_210 (Nat.le_of_ble_eq_true rfl) (Nat.le_of_ble_eq_true rfl) (Nat.zero_le _) (Nat.zero_le _) dX7_greatestPart_54 ?_
          refine lv_topi (fun y28 ey28 => ?_)
          have hf := bn_at hf ey28
          refine lv_istore_n (lv' := [(3, .int y28), (5, .int r22), (0, .ref (bF 0)), (1, .int x1), (2, .int x2), (4, .int x4_2)]) hx hb dX7_greatestPart_57 rfl hl (by decide) rfl (fun ls hl => ?_)
          refine lv_iinc (v := (x4_2 + (1 : Int32))) (lv' := [(4, .int (x4_2 + (1 : Int32))), (3, .int y28), (5, .int r22), (0, .ref (bF 0)), (1, .int x1), (2, .int x2)]) hx hb dX7_greatestPart_58 hl (k := 5) rfl rfl (by decide) rfl (fun ls hl => ?_)
          refine lv_goto (tgt := 5) hx hb dX7_greatestPart_61 (by decide) ?_
          exact ih6 y28 (x4_2 + (1 : Int32)) vF_26 hf H locs hP hD hS _ (lv_sub hl [3, 4, 5, 1, 0] rfl)
    exact hL5 (0 : Int32) (0 : Int32) vF hf H locs hP hD hS _ (lv_sub hl [2, 3, 4, 1, 0] rfl)
  rw [hH, hlo] at hW
  exact hW
def f_X7_bestFullTest_L22 (vF : Vs) (vC : Vs) (x1 : Int64) (self4 : Int32 → Int32 → Int32 → Option (Int32)) (x4_1 : Int32) (x5_2 : Int32) (x6_3 : Int32) : Option (Int32) :=
  if ((1 : Int32) <<< ((vC.1 0) &&& 31)) ≤ x6_3 then some (x4_1) else gd (inb x6_3 256) (o1 (f_J13_bitCount_95d88 ((vF.2.2 11 (x6_3).toNatClampNeg) &&& x1)) (fun (r10 : Int32) => jn (fun (x4_12 : Int32) (x5_13 : Int32) => self4 x4_12 x5_13 (x6_3 + (1 : Int32))) (fun k14 => if r10 ≤ x5_2 then k14 x4_1 x5_2 else k14 x6_3 r10)))
def f_X7_bestFullTest (vF : Vs) (vC : Vs) (x1 : Int64) : Option (Int32) :=
  lp (f_X7_bestFullTest_L22 vF vC x1) (fun _ _ _ => none) FU (-1 : Int32) (0 : Int32) (0 : Int32)
abbrev wsX7_bestFullTest : List Cond := .code yX7_bestFullTest cX7_bestFullTest 8 (some .int) :: UW
abbrev rmX7_bestFullTest : Room := { frames := 1, cells := 0, slots := 0, locals := 21 }
set_option maxHeartbeats 4000000 in
set_option maxRecDepth 100000 in
theorem c_X7_bestFullTest (l : Launch) (g : Gx) (bF : Nat → Nat) (qF0 : Nat) (qF2 : Nat) (qF3 : Nat) (qF4 : Nat) (vF : Vs) (bS : Nat → Nat) (qS1 : Nat) (bC : Nat → Nat) (vC : Vs) (x1 : Int64) (r : Int32) (hf : f_X7_bestFullTest vF vC x1 = some r) : CtI l yX7_bestFullTest wsX7_bestFullTest rmX7_bestFullTest g [.ref (bF 0), .long x1] (cF g bF qF0 (bS 0) qF2 qF3 qF4 vF ++ (cS g bS (bC 0) qS1 ++ (cC g bC vC))) (cF g bF qF0 (bS 0) qF2 qF3 qF4 vF ++ (cS g bS (bC 0) qS1 ++ (cC g bC vC))) r 0 0 := by
  unfold CtI
  intro sz
  refine Met.ofW (cc := cX7_bestFullTest) (maxL := 8) (ret := (some .int)) (by decide) rfl ?_
  intro p e s m args below meth c s₁ B hml hv
  obtain ⟨rfl, hsz, hP, hK, hD0, hG⟩ := hv
  have hx := B.exec
  have hb := B.bytes
  have hr := B.returns
  have hts := atoms_spec (ws := wsX7_bestFullTest) B.pre
  have hown : s.vm.findClass RX7 = some m.cls := findClass_of_methodNamed B.named
  have hlocks := B.notSynchronized
  subst hsz
  have hD := hD0.self (sz := s.heap.size)
  generalize hAe : va_A (cF g bF qF0 (bS 0) qF2 qF3 qF4 vF ++ (cS g bS (bC 0) qS1 ++ (cC g bC vC))) s.heap.size = A at hD hG ⊢
  have hA : ∀ q : Nat, s.heap.size ≤ q → A q := fun q h => by rw [← hAe]; exact Or.inr h
  clear hAe hD0
  have hS : va_S A s.heap s.heap [] := va_S.rf
  have hl := lv_entry ([.ref (bF 0), .long x1]) (n := 8) (Nat.le_of_ble_eq_true rfl)
  rw [lg_entry_eq]
  generalize (lg_sl ([.ref (bF 0), .long x1]) ++ List.replicate (8 - (lg_sl ([.ref (bF 0), .long x1])).length) Slot.unset).toArray = ls at hl ⊢
  have hl : lv_has ls 8 [(0, .ref (bF 0)), (1, .long x1)] := hl
  have htu : ∀ w ∈ UW, w.before _ s = true := fun w h => hts w (List.mem_cons_of_mem _ h)
  have k_2_19 := htu _ mw_2_19
  have k_1_150 := htu _ mw_1_150
  have k_1_57 := htu _ mw_1_57
  have k_2_29 := htu _ mw_2_29
  unfold f_X7_bestFullTest at hf
  obtain ⟨H, hH⟩ : ∃ z, z = s.heap := ⟨_, rfl⟩
  obtain ⟨locs, hlo⟩ : ∃ z : List Loc, z = [] := ⟨_, rfl⟩
  have hS : va_S A s.heap H locs := by rw [hH, hlo]; exact hS
  rw [← hH] at hP
  have hW : W p l e (headSpec wsX7_bestFullTest rmX7_bestFullTest).room s m ([.ref (bF 0), .long x1] : List Value).toArray below meth c H locs 0 0 (MQ below (qI g A (cF g bF qF0 (bS 0) qF2 qF3 qF4 vF ++ (cS g bS (bC 0) qS1 ++ (cC g bC vC))) r) ([.ref (bF 0), .long x1] : List Value).toArray s 0 0 A) (F0 m 0 ls []) := by
    refine lv_iconst (v := (1 : Int32)) hx hb dX7_bestFullTest_0 (by decide) ?_
    refine lv_aload_n hx hb dX7_bestFullTest_1 rfl (lv_at hl 0 rfl) ?_
    refine va_get (D := g.1) (ci := 7) (fs := fcF bF qF0 (bS 0) qF2 qF3 qF4 vF) (v := .ref (bS 0)) (C := RX7) (T := TX7) (N := 12) hx hb htu hinX7 hown hK hP 0 rfl rfl 1 (by decide) k_2_19 (fun _ h9 => h9) rfl dX7_bestFullTest_2 ?_
    refine va_get (D := g.1) (ci := 4) (fs := fcS bS (bC 0) qS1) (v := .ref (bC 0)) (C := RX4) (T := TX4) (N := 2) hx hb htu hinX4 hown hK hP 6 rfl rfl 0 (by decide) k_1_150 (fun _ h9 => h9) rfl dX7_bestFullTest_5 ?_
    refine va_get (D := g.1) (ci := 0) (fs := fcC bC vC) (v := .int (vC.1 0)) (C := RX0) (T := TX0) (N := 14) hx hb htu hinX0 hown hK hP 7 rfl rfl 0 (by decide) k_1_57 (fun _ h9 => h9) rfl dX7_bestFullTest_8 ?_
    refine lv_ishl hx hb dX7_bestFullTest_11 ?_
    refine lv_istore_n (lv' := [(3, .int ((1 : Int32) <<< ((vC.1 0) &&& 31))), (0, .ref (bF 0)), (1, .long x1)]) hx hb dX7_bestFullTest_12 rfl hl (by decide) rfl (fun ls hl => ?_)
    refine lv_iconst (v := (-1 : Int32)) hx hb dX7_bestFullTest_13 (by decide) ?_
    refine lv_istore (lv' := [(4, .int (-1 : Int32)), (3, .int ((1 : Int32) <<< ((vC.1 0) &&& 31))), (0, .ref (bF 0)), (1, .long x1)]) hx hb dX7_bestFullTest_14 hl (by decide) rfl (fun ls hl => ?_)
    refine lv_iconst (v := (0 : Int32)) hx hb dX7_bestFullTest_16 (by decide) ?_
    refine lv_istore (lv' := [(5, .int (0 : Int32)), (4, .int (-1 : Int32)), (3, .int ((1 : Int32) <<< ((vC.1 0) &&& 31))), (0, .ref (bF 0)), (1, .long x1)]) hx hb dX7_bestFullTest_17 hl (by decide) rfl (fun ls hl => ?_)
    refine lv_iconst (v := (0 : Int32)) hx hb dX7_bestFullTest_19 (by decide) ?_
    refine lv_istore (lv' := [(6, .int (0 : Int32)), (5, .int (0 : Int32)), (4, .int (-1 : Int32)), (3, .int ((1 : Int32) <<< ((vC.1 0) &&& 31))), (0, .ref (bF 0)), (1, .long x1)]) hx hb dX7_bestFullTest_20 hl (by decide) rfl (fun ls hl => ?_)
    have hL5 : ∀ (x4_1 : Int32) (x5_2 : Int32) (x6_3 : Int32), lp (f_X7_bestFullTest_L22 vF vC x1) (fun _ _ _ => none) FU x4_1 x5_2 x6_3 = some r → ∀ (H : Heap) (locs : List Loc), va_P g.1 vwCl (cF g bF qF0 (bS 0) qF2 qF3 qF4 vF ++ (cS g bS (bC 0) qS1 ++ (cC g bC vC))) H → va_D A (cF g bF qF0 (bS 0) qF2 qF3 qF4 vF ++ (cS g bS (bC 0) qS1 ++ (cC g bC vC))) → va_S A s.heap H locs → ∀ ls : Array Slot, lv_has ls 8 [(0, .ref (bF 0)), (1, .long x1), (3, .int ((1 : Int32) <<< ((vC.1 0) &&& 31))), (4, .int x4_1), (5, .int x5_2), (6, .int x6_3)] → W p l e (headSpec wsX7_bestFullTest rmX7_bestFullTest).room s m ([.ref (bF 0), .long x1] : List Value).toArray below meth c H locs 0 0 (MQ below (qI g A (cF g bF qF0 (bS 0) qF2 qF3 qF4 vF ++ (cS g bS (bC 0) qS1 ++ (cC g bC vC))) r) ([.ref (bF 0), .long x1] : List Value).toArray s 0 0 A) (F0 m 22 ls []) := by
      refine lp_ind (T := Int32 → Int32 → Int32 → Option (Int32)) (fun self4 => ∀ (x4_1 : Int32) (x5_2 : Int32) (x6_3 : Int32), self4 x4_1 x5_2 x6_3 = some r → ∀ (H : Heap) (locs : List Loc), va_P g.1 vwCl (cF g bF qF0 (bS 0) qF2 qF3 qF4 vF ++ (cS g bS (bC 0) qS1 ++ (cC g bC vC))) H → va_D A (cF g bF qF0 (bS 0) qF2 qF3 qF4 vF ++ (cS g bS (bC 0) qS1 ++ (cC g bC vC))) → va_S A s.heap H locs → ∀ ls : Array Slot, lv_has ls 8 [(0, .ref (bF 0)), (1, .long x1), (3, .int ((1 : Int32) <<< ((vC.1 0) &&& 31))), (4, .int x4_1), (5, .int x5_2), (6, .int x6_3)] → W p l e (headSpec wsX7_bestFullTest rmX7_bestFullTest).room s m ([.ref (bF 0), .long x1] : List Value).toArray below meth c H locs 0 0 (MQ below (qI g A (cF g bF qF0 (bS 0) qF2 qF3 qF4 vF ++ (cS g bS (bC 0) qS1 ++ (cC g bC vC))) r) ([.ref (bF 0), .long x1] : List Value).toArray s 0 0 A) (F0 m 22 ls [])) ?_ ?_ FU
      · intro x4_1 x5_2 x6_3 hf; cases hf
      · intro self4 ih6 x4_1 x5_2 x6_3 hf H locs hP hD hS ls hl
        unfold f_X7_bestFullTest_L22 at hf
        refine lv_iload hx hb dX7_bestFullTest_22 (lv_at hl 5 rfl) ?_
        refine lv_iload_n hx hb dX7_bestFullTest_24 rfl (lv_at hl 2 rfl) ?_
        refine lv_icmp_ge (tgt := 63) hx hb dX7_bestFullTest_25 (by decide) (fun c7 => ?_) (fun c7 => ?_)
        · have hf := it_t hf c7
          refine lv_iload hx hb dX7_bestFullTest_63 (lv_at hl 3 rfl) ?_
          have e8 := Option.some.inj hf
          exact k_iret hx hb hr hlocks hK hP hD hS e8 dX7_bestFullTest_65
        · have hf := it_f hf c7
          refine lv_aload_n hx hb dX7_bestFullTest_28 rfl (lv_at hl 0 rfl) ?_
          refine va_get (D := g.1) (ci := 7) (fs := fcF bF qF0 (bS 0) qF2 qF3 qF4 vF) (v := .ref (bF 12)) (C := RX7) (T := TX7) (N := 12) hx hb htu hinX7 hown hK hP 0 rfl rfl 11 (by decide) k_2_29 (fun _ h9 => h9) rfl dX7_bestFullTest_29 ?_
          refine lv_iload hx hb dX7_bestFullTest_32 (lv_at hl 5 rfl) ?_
          obtain ⟨h9, hf⟩ := gd_in hf
          refine va_lald (D := g.1) (f := (vF.2.2 11)) hx hb hK hP 5 1 rfl rfl h9 dX7_bestFullTest_34 ?_
          refine lv_lload_n hx hb dX7_bestFullTest_35 rfl (lv_at hl 1 rfl) ?_
          refine lv_land hx hb dX7_bestFullTest_36 ?_
          obtain ⟨r10, hg11, hf⟩ := o1_at hf
          refine k_si0 ⟨hx, hb, hml, hown, htu⟩ hK hP hD hS hA hG (c_J13_bitCount_95d88 l g ((vF.2.2 11 (x6_3).toNatClampNeg) &&& x1) r10 hg11) (va_cwS 1 htu (gU_S mw_2_171 hcJ13_bitCount_95d88) rfl rfl rfl hdJ13_bitCount_95d88 ⟨Nat.le_of_ble_eq_true rfl, Nat.le_of_ble_eq_true rfl⟩) (As := [.long ((vF.2.2 11 (x6_3).toNatClampNeg) &&& x1)]) (rest := []) rfl rfl hl.1 (Nat.le_of_ble_eq_true rfl) dX7_bestFullTest_37 (k1 := 0) (n1 := 0) rfl rfl ⟨Nat.zero_le _, Nat.zero_le _⟩ (fun H locs hP hD hS => ?_)
          refine lv_istore (lv' := [(7, .int r10), (0, .ref (bF 0)), (1, .long x1), (3, .int ((1 : Int32) <<< ((vC.1 0) &&& 31))), (4, .int x4_1), (5, .int x5_2), (6, .int x6_3)]) hx hb dX7_bestFullTest_40 hl (by decide) rfl (fun ls hl => ?_)
          refine lv_iload hx hb dX7_bestFullTest_42 (lv_at hl 0 rfl) ?_
          refine lv_iload hx hb dX7_bestFullTest_44 (lv_at hl 5 rfl) ?_
          obtain ⟨k14, hk16, hf⟩ := jn_at hf
          have hJ15 : ∀ (x4_12 : Int32) (x5_13 : Int32), k14 x4_12 x5_13 = some r → ∀ (H : Heap) (locs : List Loc), va_P g.1 vwCl (cF g bF qF0 (bS 0) qF2 qF3 qF4 vF ++ (cS g bS (bC 0) qS1 ++ (cC g bC vC))) H → va_D A (cF g bF qF0 (bS 0) qF2 qF3 qF4 vF ++ (cS g bS (bC 0) qS1 ++ (cC g bC vC))) → va_S A s.heap H locs → ∀ ls : Array Slot, lv_has ls 8 [(0, .ref (bF 0)), (1, .long x1), (3, .int ((1 : Int32) <<< ((vC.1 0) &&& 31))), (4, .int x4_12), (5, .int x5_13), (6, .int x6_3)] → W p l e (headSpec wsX7_bestFullTest rmX7_bestFullTest).room s m ([.ref (bF 0), .long x1] : List Value).toArray below meth c H locs 0 0 (MQ below (qI g A (cF g bF qF0 (bS 0) qF2 qF3 qF4 vF ++ (cS g bS (bC 0) qS1 ++ (cC g bC vC))) r) ([.ref (bF 0), .long x1] : List Value).toArray s 0 0 A) (F0 m 57 ls []) := by
            intro x4_12 x5_13 hf H locs hP hD hS ls hl
            rw [hk16] at hf
            dsimp only at hf
            clear hk16
            refine lv_iinc (v := (x6_3 + (1 : Int32))) (lv' := [(6, .int (x6_3 + (1 : Int32))), (0, .ref (bF 0)), (1, .long x1), (3, .int ((1 : Int32) <<< ((vC.1 0) &&& 31))), (4, .int x4_12), (5, .int x5_13)]) hx hb dX7_bestFullTest_57 hl (k := 5) rfl rfl (by decide) rfl (fun ls hl => ?_)
            refine lv_goto (tgt := 22) hx hb dX7_bestFullTest_60 (by decide) ?_
            exact ih6 x4_12 x5_13 (x6_3 + (1 : Int32)) hf H locs hP hD hS _ (lv_sub hl [1, 2, 3, 4, 5, 0] rfl)
          refine lv_icmp_le (tgt := 57) hx hb dX7_bestFullTest_46 (by decide) (fun c17 => ?_) (fun c17 => ?_)
          · have hf := it_t hf c17
            exact hJ15 x4_1 x5_2 hf H locs hP hD hS _ (lv_sub hl [1, 2, 3, 4, 5, 6] rfl)
          · have hf := it_f hf c17
            refine lv_iload hx hb dX7_bestFullTest_49 (lv_at hl 6 rfl) ?_
            refine lv_istore (lv' := [(4, .int x6_3), (7, .int r10), (0, .ref (bF 0)), (1, .long x1), (3, .int ((1 : Int32) <<< ((vC.1 0) &&& 31))), (5, .int x5_2), (6, .int x6_3)]) hx hb dX7_bestFullTest_51 hl (by decide) rfl (fun ls hl => ?_)
            refine lv_iload hx hb dX7_bestFullTest_53 (lv_at hl 1 rfl) ?_
            refine lv_istore (lv' := [(5, .int r10), (4, .int x6_3), (7, .int r10), (0, .ref (bF 0)), (1, .long x1), (3, .int ((1 : Int32) <<< ((vC.1 0) &&& 31))), (6, .int x6_3)]) hx hb dX7_bestFullTest_55 hl (by decide) rfl (fun ls hl => ?_)
            exact hJ15 x6_3 r10 hf H locs hP hD hS _ (lv_sub hl [3, 4, 5, 1, 0, 6] rfl)
    exact hL5 (-1 : Int32) (0 : Int32) (0 : Int32) hf H locs hP hD hS _ (lv_sub hl [4, 5, 3, 2, 1, 0] rfl)
  rw [hH, hlo] at hW
  exact hW
def f_X7_state (vF : Vs) (vC : Vs) (vT : Vs) (nRT : Nat) (vRT : Vs) (vG : Vs) (vB : Vs) (x1 : Int32) : Option (Nat × Int32 × Vs × Vs × Vs × Vs) :=
  if x1 = (0 : Int32) then some (0, (vC.1 0), vF, vRT, vG, vB) else if x1 = (1 : Int32) then some (0, (vC.1 1), vF, vRT, vG, vB) else if x1 = (2 : Int32) then some (0, (vC.1 2), vF, vRT, vG, vB) else if x1 = (3 : Int32) then o1 (f_X0_faultCount vC) (fun (r23 : Int32) => some (0, r23, vF, vRT, vG, vB)) else if x1 = (4 : Int32) then some (0, (vC.1 3), vF, vRT, vG, vB) else if x1 = (5 : Int32) then some (0, (vT.1 0), vF, vRT, vG, vB) else if x1 = (6 : Int32) then o1 (f_X6_countSeen vT) (fun (r46 : Int32) => some (0, r46, vF, vRT, vG, vB)) else if x1 = (7 : Int32) then o5 (f_X7_listFoundByTests vF vC vT nRT vRT vG vB) (fun (r55 : Int64) (vF_56 : Vs) (vRT_57 : Vs) (vG_58 : Vs) (vB_59 : Vs) => o1 (f_J13_bitCount_95d88 r55) (fun (r61 : Int32) => some (0, r61, vF_56, vRT_57, vG_58, vB_59))) else if x1 = (8 : Int32) then o1 (f_X0_greatestLevel vC) (fun (r70 : Int32) => some (0, r70, vF, vRT, vG, vB)) else some (1, (0 : Int32), vF, vRT, vG, vB)
abbrev wsX7_state : List Cond := .code yX7_state cX7_state 2 (some .int) :: UW
abbrev rmX7_state : Room := { frames := 5, cells := 0, slots := 0, locals := 124 }
set_option maxHeartbeats 4000000 in
set_option maxRecDepth 100000 in
theorem c_X7_state (l : Launch) (g : Gx) (bF : Nat → Nat) (qF0 : Nat) (qF2 : Nat) (qF3 : Nat) (vF : Vs) (bS : Nat → Nat) (bC : Nat → Nat) (vC : Vs) (bT : Nat → Nat) (vT : Vs) (bRT : Nat → Nat) (nRT : Nat) (vRT : Vs) (bG : Nat → Nat) (vG : Vs) (bB : Nat → Nat) (vB : Vs) (x1 : Int32) (r : Int32) (vF1 : Vs) (vRT1 : Vs) (vG1 : Vs) (vB1 : Vs) (hf : f_X7_state vF vC vT nRT vRT vG vB x1 = some (0, r, vF1, vRT1, vG1, vB1)) : CtI l yX7_state wsX7_state rmX7_state g [.ref (bF 0), .int x1] (cF g bF qF0 (bS 0) qF2 qF3 (bRT 0) vF ++ (cS g bS (bC 0) (bT 0) ++ (cC g bC vC ++ (cT g bT vT ++ (cR g bRT nRT (bG 0) (bB 0) vRT ++ (cL g bG vG ++ (cL g bB vB))))))) (cF g bF qF0 (bS 0) qF2 qF3 (bRT 0) vF1 ++ (cS g bS (bC 0) (bT 0) ++ (cC g bC vC ++ (cT g bT vT ++ (cR g bRT nRT (bG 0) (bB 0) vRT1 ++ (cL g bG vG1 ++ (cL g bB vB1))))))) r 0 0 := by
  unfold CtI
  intro sz
  refine Met.ofW (cc := cX7_state) (maxL := 2) (ret := (some .int)) (by decide) rfl ?_
  intro p e s m args below meth c s₁ B hml hv
  obtain ⟨rfl, hsz, hP, hK, hD0, hG⟩ := hv
  have hx := B.exec
  have hb := B.bytes
  have hr := B.returns
  have hts := atoms_spec (ws := wsX7_state) B.pre
  have hown : s.vm.findClass RX7 = some m.cls := findClass_of_methodNamed B.named
  have hlocks := B.notSynchronized
  subst hsz
  have hD := hD0.self (sz := s.heap.size)
  generalize hAe : va_A (cF g bF qF0 (bS 0) qF2 qF3 (bRT 0) vF ++ (cS g bS (bC 0) (bT 0) ++ (cC g bC vC ++ (cT g bT vT ++ (cR g bRT nRT (bG 0) (bB 0) vRT ++ (cL g bG vG ++ (cL g bB vB))))))) s.heap.size = A at hD hG ⊢
  have hA : ∀ q : Nat, s.heap.size ≤ q → A q := fun q h => by rw [← hAe]; exact Or.inr h
  clear hAe hD0
  have hS : va_S A s.heap s.heap [] := va_S.rf
  have hl := lv_entry ([.ref (bF 0), .int x1]) (n := 2) (Nat.le_of_ble_eq_true rfl)
  rw [lg_entry_eq]
  generalize (lg_sl ([.ref (bF 0), .int x1]) ++ List.replicate (2 - (lg_sl ([.ref (bF 0), .int x1])).length) Slot.unset).toArray = ls at hl ⊢
  have hl : lv_has ls 2 [(0, .ref (bF 0)), (1, .int x1)] := hl
  have htu : ∀ w ∈ UW, w.before _ s = true := fun w h => hts w (List.mem_cons_of_mem _ h)
  have k_2_19 := htu _ mw_2_19
  have k_1_150 := htu _ mw_1_150
  have k_1_57 := htu _ mw_1_57
  have k_1_60 := htu _ mw_1_60
  have k_1_65 := htu _ mw_1_65
  have k_1_67 := htu _ mw_1_67
  have k_1_153 := htu _ mw_1_153
  have k_1_129 := htu _ mw_1_129
  unfold f_X7_state at hf
  obtain ⟨H, hH⟩ : ∃ z, z = s.heap := ⟨_, rfl⟩
  obtain ⟨locs, hlo⟩ : ∃ z : List Loc, z = [] := ⟨_, rfl⟩
  have hS : va_S A s.heap H locs := by rw [hH, hlo]; exact hS
  rw [← hH] at hP
  have hW : W p l e (headSpec wsX7_state rmX7_state).room s m ([.ref (bF 0), .int x1] : List Value).toArray below meth c H locs 0 0 (MQ below (qI g A (cF g bF qF0 (bS 0) qF2 qF3 (bRT 0) vF1 ++ (cS g bS (bC 0) (bT 0) ++ (cC g bC vC ++ (cT g bT vT ++ (cR g bRT nRT (bG 0) (bB 0) vRT1 ++ (cL g bG vG1 ++ (cL g bB vB1))))))) r) ([.ref (bF 0), .int x1] : List Value).toArray s 0 0 A) (F0 m 0 ls []) := by
    refine lv_iload_n hx hb dX7_state_0 rfl (lv_at hl 1 rfl) ?_
    by_cases c1 : x1 = (0 : Int32)
    · have hf := it_t hf c1
      refine lv_tableIn (off := 51) (tgt := 52) hx hb dX7_state_1 (by rw [c1]; decide) (by rw [c1]; decide) (by rw [c1]; rfl) (by decide) ?_
      refine lv_aload_n hx hb dX7_state_52 rfl (lv_at hl 0 rfl) ?_
      refine va_get (D := g.1) (ci := 7) (fs := fcF bF qF0 (bS 0) qF2 qF3 (bRT 0) vF) (v := .ref (bS 0)) (C := RX7) (T := TX7) (N := 12) hx hb htu hinX7 hown hK hP 0 rfl rfl 1 (by decide) k_2_19 (fun _ h9 => h9) rfl dX7_state_53 ?_
      refine va_get (D := g.1) (ci := 4) (fs := fcS bS (bC 0) (bT 0)) (v := .ref (bC 0)) (C := RX4) (T := TX4) (N := 2) hx hb htu hinX4 hown hK hP 6 rfl rfl 0 (by decide) k_1_150 (fun _ h9 => h9) rfl dX7_state_56 ?_
      refine va_get (D := g.1) (ci := 0) (fs := fcC bC vC) (v := .int (vC.1 0)) (C := RX0) (T := TX0) (N := 14) hx hb htu hinX0 hown hK hP 7 rfl rfl 0 (by decide) k_1_57 (fun _ h9 => h9) rfl dX7_state_59 ?_
      obtain ⟨e2, e3, e4, e5, e6, e7⟩ := kp_6 hf
      rw [e4] at hP hD
      rw [e5] at hP hD
      rw [e6] at hP hD
      rw [e7] at hP hD
      exact k_iret hx hb hr hlocks hK hP hD hS e3 dX7_state_62
    · have hf := it_f hf c1
      by_cases c8 : x1 = (1 : Int32)
      · have hf := it_t hf c8
        refine lv_tableIn (off := 62) (tgt := 63) hx hb dX7_state_1 (by rw [c8]; decide) (by rw [c8]; decide) (by rw [c8]; rfl) (by decide) ?_
        refine lv_aload_n hx hb dX7_state_63 rfl (lv_at hl 0 rfl) ?_
        refine va_get (D := g.1) (ci := 7) (fs := fcF bF qF0 (bS 0) qF2 qF3 (bRT 0) vF) (v := .ref (bS 0)) (C := RX7) (T := TX7) (N := 12) hx hb htu hinX7 hown hK hP 0 rfl rfl 1 (by decide) k_2_19 (fun _ h9 => h9) rfl dX7_state_64 ?_
        refine va_get (D := g.1) (ci := 4) (fs := fcS bS (bC 0) (bT 0)) (v := .ref (bC 0)) (C := RX4) (T := TX4) (N := 2) hx hb htu hinX4 hown hK hP 6 rfl rfl 0 (by decide) k_1_150 (fun _ h9 => h9) rfl dX7_state_67 ?_
        refine va_get (D := g.1) (ci := 0) (fs := fcC bC vC) (v := .int (vC.1 1)) (C := RX0) (T := TX0) (N := 14) hx hb htu hinX0 hown hK hP 7 rfl rfl 1 (by decide) k_1_60 (fun _ h9 => h9) rfl dX7_state_70 ?_
        obtain ⟨e9, e10, e11, e12, e13, e14⟩ := kp_6 hf
        rw [e11] at hP hD
        rw [e12] at hP hD
        rw [e13] at hP hD
        rw [e14] at hP hD
        exact k_iret hx hb hr hlocks hK hP hD hS e10 dX7_state_73
      · have hf := it_f hf c8
        by_cases c15 : x1 = (2 : Int32)
        · have hf := it_t hf c15
          refine lv_tableIn (off := 73) (tgt := 74) hx hb dX7_state_1 (by rw [c15]; decide) (by rw [c15]; decide) (by rw [c15]; rfl) (by decide) ?_
          refine lv_aload_n hx hb dX7_state_74 rfl (lv_at hl 0 rfl) ?_
          refine va_get (D := g.1) (ci := 7) (fs := fcF bF qF0 (bS 0) qF2 qF3 (bRT 0) vF) (v := .ref (bS 0)) (C := RX7) (T := TX7) (N := 12) hx hb htu hinX7 hown hK hP 0 rfl rfl 1 (by decide) k_2_19 (fun _ h9 => h9) rfl dX7_state_75 ?_
          refine va_get (D := g.1) (ci := 4) (fs := fcS bS (bC 0) (bT 0)) (v := .ref (bC 0)) (C := RX4) (T := TX4) (N := 2) hx hb htu hinX4 hown hK hP 6 rfl rfl 0 (by decide) k_1_150 (fun _ h9 => h9) rfl dX7_state_78 ?_
          refine va_get (D := g.1) (ci := 0) (fs := fcC bC vC) (v := .int (vC.1 2)) (C := RX0) (T := TX0) (N := 14) hx hb htu hinX0 hown hK hP 7 rfl rfl 2 (by decide) k_1_65 (fun _ h9 => h9) rfl dX7_state_81 ?_
          obtain ⟨e16, e17, e18, e19, e20, e21⟩ := kp_6 hf
          rw [e18] at hP hD
          rw [e19] at hP hD
          rw [e20] at hP hD
          rw [e21] at hP hD
          exact k_iret hx hb hr hlocks hK hP hD hS e17 dX7_state_84
        · have hf := it_f hf c15
          by_cases c22 : x1 = (3 : Int32)
          · have hf := it_t hf c22
            refine lv_tableIn (off := 84) (tgt := 85) hx hb dX7_state_1 (by rw [c22]; decide) (by rw [c22]; decide) (by rw [c22]; rfl) (by decide) ?_
            refine lv_aload_n hx hb dX7_state_85 rfl (lv_at hl 0 rfl) ?_
            refine va_get (D := g.1) (ci := 7) (fs := fcF bF qF0 (bS 0) qF2 qF3 (bRT 0) vF) (v := .ref (bS 0)) (C := RX7) (T := TX7) (N := 12) hx hb htu hinX7 hown hK hP 0 rfl rfl 1 (by decide) k_2_19 (fun _ h9 => h9) rfl dX7_state_86 ?_
            refine va_get (D := g.1) (ci := 4) (fs := fcS bS (bC 0) (bT 0)) (v := .ref (bC 0)) (C := RX4) (T := TX4) (N := 2) hx hb htu hinX4 hown hK hP 6 rfl rfl 0 (by decide) k_1_150 (fun _ h9 => h9) rfl dX7_state_89 ?_
            obtain ⟨r23, hg24, hf⟩ := o1_at hf
            refine k_viP ⟨hx, hb, hml, hown, htu⟩ hK hP hD hS hA hG (c_X0_faultCount l g bC vC r23 hg24) (cwV 0 htu (gU_V mw_2_121 hcX0_faultCount) rfl rfl rfl hdX0_faultCount ⟨Nat.le_of_ble_eq_true rfl, Nat.le_of_ble_eq_true rfl⟩) (q0 := 7) (ci := 0) (fs := fcC bC vC) (q := (RX0, TX0, 14)) rfl rfl rfl (wr := (cF g bF qF0 (bS 0) qF2 qF3 (bRT 0) vF ++ (cS g bS (bC 0) (bT 0) ++ (cT g bT vT ++ (cR g bRT nRT (bG 0) (bB 0) vRT ++ (cL g bG vG ++ (cL g bB vB))))))) (w2 := cF g bF qF0 (bS 0) qF2 qF3 (bRT 0) vF ++ (cS g bS (bC 0) (bT 0) ++ (cC g bC vC ++ (cT g bT vT ++ (cR g bRT nRT (bG 0) (bB 0) vRT ++ (cL g bG vG ++ (cL g bB vB))))))) [7, 8, 9, 10, 11, 12, 13, 14, 15, 16, 17] [0, 1, 2, 3, 4, 5, 6, 18, 19, 20, 21, 22, 23, 24, 25, 26, 27, 28, 29, 30, 31] [0, 1, 2, 3, 4, 5, 6, 21, 22, 23, 24, 25, 26, 27, 28, 29, 30, 31, 7, 8, 9, 10, 11, 12, 13, 14, 15, 16, 17, 18, 19, 20] rfl rfl (by decide) (by decide) (by decide) rfl rfl (by decide) (As := []) (rest := []) rfl rfl hl.1 (Nat.le_of_ble_eq_true rfl) dX7_state_92 (k1 := 0) (n1 := 0) rfl rfl ⟨Nat.zero_le _, Nat.zero_le _⟩ (fun H locs hP hD hS => ?_)
            obtain ⟨e25, e26, e27, e28, e29, e30⟩ := kp_6 hf
            rw [e27] at hP hD
            rw [e28] at hP hD
            rw [e29] at hP hD
            rw [e30] at hP hD
            exact k_iret hx hb hr hlocks hK hP hD hS e26 dX7_state_95
          · have hf := it_f hf c22
            by_cases c31 : x1 = (4 : Int32)
            · have hf := it_t hf c31
              refine lv_tableIn (off := 95) (tgt := 96) hx hb dX7_state_1 (by rw [c31]; decide) (by rw [c31]; decide) (by rw [c31]; rfl) (by decide) ?_
              refine lv_aload_n hx hb dX7_state_96 rfl (lv_at hl 0 rfl) ?_
              refine va_get (D := g.1) (ci := 7) (fs := fcF bF qF0 (bS 0) qF2 qF3 (bRT 0) vF) (v := .ref (bS 0)) (C := RX7) (T := TX7) (N := 12) hx hb htu hinX7 hown hK hP 0 rfl rfl 1 (by decide) k_2_19 (fun _ h9 => h9) rfl dX7_state_97 ?_
              refine va_get (D := g.1) (ci := 4) (fs := fcS bS (bC 0) (bT 0)) (v := .ref (bC 0)) (C := RX4) (T := TX4) (N := 2) hx hb htu hinX4 hown hK hP 6 rfl rfl 0 (by decide) k_1_150 (fun _ h9 => h9) rfl dX7_state_100 ?_
              refine va_get (D := g.1) (ci := 0) (fs := fcC bC vC) (v := .int (vC.1 3)) (C := RX0) (T := TX0) (N := 14) hx hb htu hinX0 hown hK hP 7 rfl rfl 3 (by decide) k_1_67 (fun _ h9 => h9) rfl dX7_state_103 ?_
              obtain ⟨e32, e33, e34, e35, e36, e37⟩ := kp_6 hf
              rw [e34] at hP hD
              rw [e35] at hP hD
              rw [e36] at hP hD
              rw [e37] at hP hD
              exact k_iret hx hb hr hlocks hK hP hD hS e33 dX7_state_106
            · have hf := it_f hf c31
              by_cases c38 : x1 = (5 : Int32)
              · have hf := it_t hf c38
                refine lv_tableIn (off := 106) (tgt := 107) hx hb dX7_state_1 (by rw [c38]; decide) (by rw [c38]; decide) (by rw [c38]; rfl) (by decide) ?_
                refine lv_aload_n hx hb dX7_state_107 rfl (lv_at hl 0 rfl) ?_
                refine va_get (D := g.1) (ci := 7) (fs := fcF bF qF0 (bS 0) qF2 qF3 (bRT 0) vF) (v := .ref (bS 0)) (C := RX7) (T := TX7) (N := 12) hx hb htu hinX7 hown hK hP 0 rfl rfl 1 (by decide) k_2_19 (fun _ h9 => h9) rfl dX7_state_108 ?_
                refine va_get (D := g.1) (ci := 4) (fs := fcS bS (bC 0) (bT 0)) (v := .ref (bT 0)) (C := RX4) (T := TX4) (N := 2) hx hb htu hinX4 hown hK hP 6 rfl rfl 1 (by decide) k_1_153 (fun _ h9 => h9) rfl dX7_state_111 ?_
                refine va_get (D := g.1) (ci := 6) (fs := fcT bT vT) (v := .int (vT.1 0)) (C := RX6) (T := TX6) (N := 5) hx hb htu hinX6 hown hK hP 18 rfl rfl 0 (by decide) k_1_129 (fun _ h9 => h9) rfl dX7_state_114 ?_
                obtain ⟨e39, e40, e41, e42, e43, e44⟩ := kp_6 hf
                rw [e41] at hP hD
                rw [e42] at hP hD
                rw [e43] at hP hD
                rw [e44] at hP hD
                exact k_iret hx hb hr hlocks hK hP hD hS e40 dX7_state_117
              · have hf := it_f hf c38
                by_cases c45 : x1 = (6 : Int32)
                · have hf := it_t hf c45
                  refine lv_tableIn (off := 117) (tgt := 118) hx hb dX7_state_1 (by rw [c45]; decide) (by rw [c45]; decide) (by rw [c45]; rfl) (by decide) ?_
                  refine lv_aload_n hx hb dX7_state_118 rfl (lv_at hl 0 rfl) ?_
                  refine va_get (D := g.1) (ci := 7) (fs := fcF bF qF0 (bS 0) qF2 qF3 (bRT 0) vF) (v := .ref (bS 0)) (C := RX7) (T := TX7) (N := 12) hx hb htu hinX7 hown hK hP 0 rfl rfl 1 (by decide) k_2_19 (fun _ h9 => h9) rfl dX7_state_119 ?_
                  refine va_get (D := g.1) (ci := 4) (fs := fcS bS (bC 0) (bT 0)) (v := .ref (bT 0)) (C := RX4) (T := TX4) (N := 2) hx hb htu hinX4 hown hK hP 6 rfl rfl 1 (by decide) k_1_153 (fun _ h9 => h9) rfl dX7_state_122 ?_
                  obtain ⟨r46, hg47, hf⟩ := o1_at hf
                  refine k_viP ⟨hx, hb, hml, hown, htu⟩ hK hP hD hS hA hG (c_X6_countSeen l g bT vT r46 hg47) (cwV 0 htu (gU_V mw_2_236 hcX6_countSeen) rfl rfl rfl hdX6_countSeen ⟨Nat.le_of_ble_eq_true rfl, Nat.le_of_ble_eq_true rfl⟩) (q0 := 18) (ci := 6) (fs := fcT bT vT) (q := (RX6, TX6, 5)) rfl rfl rfl (wr := (cF g bF qF0 (bS 0) qF2 qF3 (bRT 0) vF ++ (cS g bS (bC 0) (bT 0) ++ (cC g bC vC ++ (cR g bRT nRT (bG 0) (bB 0) vRT ++ (cL g bG vG ++ (cL g bB vB))))))) (w2 := cF g bF qF0 (bS 0) qF2 qF3 (bRT 0) vF ++ (cS g bS (bC 0) (bT 0) ++ (cC g bC vC ++ (cT g bT vT ++ (cR g bRT nRT (bG 0) (bB 0) vRT ++ (cL g bG vG ++ (cL g bB vB))))))) [18, 19, 20, 21, 22] [0, 1, 2, 3, 4, 5, 6, 7, 8, 9, 10, 11, 12, 13, 14, 15, 16, 17, 23, 24, 25, 26, 27, 28, 29, 30, 31] [0, 1, 2, 3, 4, 5, 6, 7, 8, 9, 10, 11, 12, 13, 14, 15, 16, 17, 27, 28, 29, 30, 31, 18, 19, 20, 21, 22, 23, 24, 25, 26] rfl rfl (by decide) (by decide) (by decide) rfl rfl (by decide) (As := []) (rest := []) rfl rfl hl.1 (Nat.le_of_ble_eq_true rfl) dX7_state_125 (k1 := 0) (n1 := 0) rfl rfl ⟨Nat.zero_le _, Nat.zero_le _⟩ (fun H locs hP hD hS => ?_)
                  obtain ⟨e48, e49, e50, e51, e52, e53⟩ := kp_6 hf
                  rw [e50] at hP hD
                  rw [e51] at hP hD
                  rw [e52] at hP hD
                  rw [e53] at hP hD
                  exact k_iret hx hb hr hlocks hK hP hD hS e49 dX7_state_128
                · have hf := it_f hf c45
                  by_cases c54 : x1 = (7 : Int32)
                  · have hf := it_t hf c54
                    refine lv_tableIn (off := 128) (tgt := 129) hx hb dX7_state_1 (by rw [c54]; decide) (by rw [c54]; decide) (by rw [c54]; rfl) (by decide) ?_
                    refine lv_aload_n hx hb dX7_state_129 rfl (lv_at hl 0 rfl) ?_
                    obtain ⟨r55, vF_56, vRT_57, vG_58, vB_59, hg60, hf⟩ := o5_at hf
                    refine k_vlW ⟨hx, hb, hml, hown, htu⟩ hK hP hD hS hA hG (c_X7_listFoundByTests l g bF qF0 qF2 qF3 vF bS bC vC bT vT bRT nRT vRT bG vG bB vB r55 vF_56 vRT_57 vG_58 vB_59 hg60) (cwV 0 htu (gU_V mw_2_153 hcX7_listFoundByTests) rfl rfl rfl hdX7_listFoundByTests ⟨Nat.le_of_ble_eq_true rfl, Nat.le_of_ble_eq_true rfl⟩) (q0 := 0) (ci := 7) (fs := fcF bF qF0 (bS 0) qF2 qF3 (bRT 0) vF) (q := (RX7, TX7, 12)) rfl rfl rfl (As := []) (rest := []) rfl rfl hl.1 (Nat.le_of_ble_eq_true rfl) dX7_state_130 (k1 := 0) (n1 := 0) rfl rfl ⟨Nat.zero_le _, Nat.zero_le _⟩ (fun H locs hP hD hS => ?_)
                    obtain ⟨r61, hg62, hf⟩ := o1_at hf
                    refine k_si0 ⟨hx, hb, hml, hown, htu⟩ hK hP hD hS hA hG (c_J13_bitCount_95d88 l g r55 r61 hg62) (va_cwS 1 htu (gU_S mw_2_171 hcJ13_bitCount_95d88) rfl rfl rfl hdJ13_bitCount_95d88 ⟨Nat.le_of_ble_eq_true rfl, Nat.le_of_ble_eq_true rfl⟩) (As := [.long r55]) (rest := []) rfl rfl hl.1 (Nat.le_of_ble_eq_true rfl) dX7_state_133 (k1 := 0) (n1 := 0) rfl rfl ⟨Nat.zero_le _, Nat.zero_le _⟩ (fun H locs hP hD hS => ?_)
                    obtain ⟨e63, e64, e65, e66, e67, e68⟩ := kp_6 hf
                    rw [e65] at hP hD
                    rw [e66] at hP hD
                    rw [e67] at hP hD
                    rw [e68] at hP hD
                    exact k_iret hx hb hr hlocks hK hP hD hS e64 dX7_state_136
                  · have hf := it_f hf c54
                    by_cases c69 : x1 = (8 : Int32)
                    · have hf := it_t hf c69
                      refine lv_tableIn (off := 136) (tgt := 137) hx hb dX7_state_1 (by rw [c69]; decide) (by rw [c69]; decide) (by rw [c69]; rfl) (by decide) ?_
                      refine lv_aload_n hx hb dX7_state_137 rfl (lv_at hl 0 rfl) ?_
                      refine va_get (D := g.1) (ci := 7) (fs := fcF bF qF0 (bS 0) qF2 qF3 (bRT 0) vF) (v := .ref (bS 0)) (C := RX7) (T := TX7) (N := 12) hx hb htu hinX7 hown hK hP 0 rfl rfl 1 (by decide) k_2_19 (fun _ h9 => h9) rfl dX7_state_138 ?_
                      refine va_get (D := g.1) (ci := 4) (fs := fcS bS (bC 0) (bT 0)) (v := .ref (bC 0)) (C := RX4) (T := TX4) (N := 2) hx hb htu hinX4 hown hK hP 6 rfl rfl 0 (by decide) k_1_150 (fun _ h9 => h9) rfl dX7_state_141 ?_
                      obtain ⟨r70, hg71, hf⟩ := o1_at hf
                      refine k_viP ⟨hx, hb, hml, hown, htu⟩ hK hP hD hS hA hG (c_X0_greatestLevel l g bC vC r70 hg71) (cwV 0 htu (gU_V mw_3_47 hcX0_greatestLevel) rfl rfl rfl hdX0_greatestLevel ⟨Nat.le_of_ble_eq_true rfl, Nat.le_of_ble_eq_true rfl⟩) (q0 := 7) (ci := 0) (fs := fcC bC vC) (q := (RX0, TX0, 14)) rfl rfl rfl (wr := (cF g bF qF0 (bS 0) qF2 qF3 (bRT 0) vF ++ (cS g bS (bC 0) (bT 0) ++ (cT g bT vT ++ (cR g bRT nRT (bG 0) (bB 0) vRT ++ (cL g bG vG ++ (cL g bB vB))))))) (w2 := cF g bF qF0 (bS 0) qF2 qF3 (bRT 0) vF ++ (cS g bS (bC 0) (bT 0) ++ (cC g bC vC ++ (cT g bT vT ++ (cR g bRT nRT (bG 0) (bB 0) vRT ++ (cL g bG vG ++ (cL g bB vB))))))) [7, 8, 9, 10, 11, 12, 13, 14, 15, 16, 17] [0, 1, 2, 3, 4, 5, 6, 18, 19, 20, 21, 22, 23, 24, 25, 26, 27, 28, 29, 30, 31] [0, 1, 2, 3, 4, 5, 6, 21, 22, 23, 24, 25, 26, 27, 28, 29, 30, 31, 7, 8, 9, 10, 11, 12, 13, 14, 15, 16, 17, 18, 19, 20] rfl rfl (by decide) (by decide) (by decide) rfl rfl (by decide) (As := []) (rest := []) rfl rfl hl.1 (Nat.le_of_ble_eq_true rfl) dX7_state_144 (k1 := 0) (n1 := 0) rfl rfl ⟨Nat.zero_le _, Nat.zero_le _⟩ (fun H locs hP hD hS => ?_)
                      obtain ⟨e72, e73, e74, e75, e76, e77⟩ := kp_6 hf
                      rw [e74] at hP hD
                      rw [e75] at hP hD
                      rw [e76] at hP hD
                      rw [e77] at hP hD
                      exact k_iret hx hb hr hlocks hK hP hD hS e73 dX7_state_147
                    · have hf := it_f hf c69
                      refine lv_tableOut (tgt := 148) hx hb dX7_state_1 (by
                        have zc1 : ¬ (x1).toInt = 0 := fun h9 => c1 (Int32.toInt_inj.mp (h9.trans (by decide)))
                        have zc8 : ¬ (x1).toInt = 1 := fun h9 => c8 (Int32.toInt_inj.mp (h9.trans (by decide)))
                        have zc15 : ¬ (x1).toInt = 2 := fun h9 => c15 (Int32.toInt_inj.mp (h9.trans (by decide)))
                        have zc22 : ¬ (x1).toInt = 3 := fun h9 => c22 (Int32.toInt_inj.mp (h9.trans (by decide)))
                        have zc31 : ¬ (x1).toInt = 4 := fun h9 => c31 (Int32.toInt_inj.mp (h9.trans (by decide)))
                        have zc38 : ¬ (x1).toInt = 5 := fun h9 => c38 (Int32.toInt_inj.mp (h9.trans (by decide)))
                        have zc45 : ¬ (x1).toInt = 6 := fun h9 => c45 (Int32.toInt_inj.mp (h9.trans (by decide)))
                        have zc54 : ¬ (x1).toInt = 7 := fun h9 => c54 (Int32.toInt_inj.mp (h9.trans (by decide)))
                        have zc69 : ¬ (x1).toInt = 8 := fun h9 => c69 (Int32.toInt_inj.mp (h9.trans (by decide)))
                        omega) (by decide) ?_
                      exact absurd (kp_6 hf).1 (by decide)
  rw [hH, hlo] at hW
  exact hW
abbrev rtX7_state : Room := { frames := 8, cells := 1, slots := 6, locals := 124 }
set_option maxHeartbeats 4000000 in
set_option maxRecDepth 100000 in
theorem t_X7_state (l : Launch) (hst : l.stackTraces = false) (g : Gx) (bF : Nat → Nat) (qF0 : Nat) (qF2 : Nat) (qF3 : Nat) (vF : Vs) (bS : Nat → Nat) (bC : Nat → Nat) (vC : Vs) (bT : Nat → Nat) (vT : Vs) (bRT : Nat → Nat) (nRT : Nat) (vRT : Vs) (bG : Nat → Nat) (vG : Vs) (bB : Nat → Nat) (vB : Vs) (x1 : Int32) (r : Int32) (vF1 : Vs) (vRT1 : Vs) (vG1 : Vs) (vB1 : Vs) (ek : Nat) (hf : f_X7_state vF vC vT nRT vRT vG vB x1 = some (ek, r, vF1, vRT1, vG1, vB1)) (hek : ¬ ek = 0) : CtXI l yX7_state wsX7_state rtX7_state g [.ref (bF 0), .int x1] (cF g bF qF0 (bS 0) qF2 qF3 (bRT 0) vF ++ (cS g bS (bC 0) (bT 0) ++ (cC g bC vC ++ (cT g bT vT ++ (cR g bRT nRT (bG 0) (bB 0) vRT ++ (cL g bG vG ++ (cL g bB vB))))))) (cF g bF qF0 (bS 0) qF2 qF3 (bRT 0) vF1 ++ (cS g bS (bC 0) (bT 0) ++ (cC g bC vC ++ (cT g bT vT ++ (cR g bRT nRT (bG 0) (bB 0) vRT1 ++ (cL g bG vG1 ++ (cL g bB vB1))))))) (exN ek) 1 6 := by
  unfold CtXI
  intro sz
  refine vx_ofW (cc := cX7_state) (maxL := 2) (ret := (some .int)) (by decide) rfl ?_
  intro p e s m args below meth c s₁ B hml hT hv
  obtain ⟨rfl, hsz, hP, hK, hD0, hG⟩ := hv
  have hx := B.exec
  have hb := B.bytes
  have hr := B.returns
  have hts := atoms_spec (ws := wsX7_state) B.pre
  have hown : s.vm.findClass RX7 = some m.cls := findClass_of_methodNamed B.named
  have hlocks := B.notSynchronized
  subst hsz
  have hD := hD0.self (sz := s.heap.size)
  generalize hAe : va_A (cF g bF qF0 (bS 0) qF2 qF3 (bRT 0) vF ++ (cS g bS (bC 0) (bT 0) ++ (cC g bC vC ++ (cT g bT vT ++ (cR g bRT nRT (bG 0) (bB 0) vRT ++ (cL g bG vG ++ (cL g bB vB))))))) s.heap.size = A at hD hG ⊢
  have hA : ∀ q : Nat, s.heap.size ≤ q → A q := fun q h => by rw [← hAe]; exact Or.inr h
  clear hAe hD0
  have hS : va_S A s.heap s.heap [] := va_S.rf
  have hl := lv_entry ([.ref (bF 0), .int x1]) (n := 2) (Nat.le_of_ble_eq_true rfl)
  rw [lg_entry_eq]
  generalize (lg_sl ([.ref (bF 0), .int x1]) ++ List.replicate (2 - (lg_sl ([.ref (bF 0), .int x1])).length) Slot.unset).toArray = ls at hl ⊢
  have hl : lv_has ls 2 [(0, .ref (bF 0)), (1, .int x1)] := hl
  have htu : ∀ w ∈ UW, w.before _ s = true := fun w h => hts w (List.mem_cons_of_mem _ h)
  have k_2_19 := htu _ mw_2_19
  have k_1_150 := htu _ mw_1_150
  have k_1_57 := htu _ mw_1_57
  have k_1_60 := htu _ mw_1_60
  have k_1_65 := htu _ mw_1_65
  have k_1_67 := htu _ mw_1_67
  have k_1_153 := htu _ mw_1_153
  have k_1_129 := htu _ mw_1_129
  have k_3_52 := htu _ mw_3_52
  have k_1_13 := htu _ mw_1_13
  unfold f_X7_state at hf
  obtain ⟨H, hH⟩ : ∃ z, z = s.heap := ⟨_, rfl⟩
  obtain ⟨locs, hlo⟩ : ∃ z : List Loc, z = [] := ⟨_, rfl⟩
  have hS : va_S A s.heap H locs := by rw [hH, hlo]; exact hS
  rw [← hH] at hP
  have hW : W p l e (headSpec wsX7_state rtX7_state).room s m ([.ref (bF 0), .int x1] : List Value).toArray below meth c H locs 0 0 (vx_MQ below (nI0 A) (xE g A (cF g bF qF0 (bS 0) qF2 qF3 (bRT 0) vF1 ++ (cS g bS (bC 0) (bT 0) ++ (cC g bC vC ++ (cT g bT vT ++ (cR g bRT nRT (bG 0) (bB 0) vRT1 ++ (cL g bG vG1 ++ (cL g bB vB1))))))) (exN ek)) ([.ref (bF 0), .int x1] : List Value).toArray s 1 6 A) (F0 m 0 ls []) := by
    refine lv_iload_n hx hb dX7_state_0 rfl (lv_at hl 1 rfl) ?_
    by_cases c1 : x1 = (0 : Int32)
    · have hf := it_t hf c1
      refine lv_tableIn (off := 51) (tgt := 52) hx hb dX7_state_1 (by rw [c1]; decide) (by rw [c1]; decide) (by rw [c1]; rfl) (by decide) ?_
      refine lv_aload_n hx hb dX7_state_52 rfl (lv_at hl 0 rfl) ?_
      refine va_get (D := g.1) (ci := 7) (fs := fcF bF qF0 (bS 0) qF2 qF3 (bRT 0) vF) (v := .ref (bS 0)) (C := RX7) (T := TX7) (N := 12) hx hb htu hinX7 hown hK hP 0 rfl rfl 1 (by decide) k_2_19 (fun _ h9 => h9) rfl dX7_state_53 ?_
      refine va_get (D := g.1) (ci := 4) (fs := fcS bS (bC 0) (bT 0)) (v := .ref (bC 0)) (C := RX4) (T := TX4) (N := 2) hx hb htu hinX4 hown hK hP 6 rfl rfl 0 (by decide) k_1_150 (fun _ h9 => h9) rfl dX7_state_56 ?_
      refine va_get (D := g.1) (ci := 0) (fs := fcC bC vC) (v := .int (vC.1 0)) (C := RX0) (T := TX0) (N := 14) hx hb htu hinX0 hown hK hP 7 rfl rfl 0 (by decide) k_1_57 (fun _ h9 => h9) rfl dX7_state_59 ?_
      exact absurd (kp_6 hf).1.symm hek
    · have hf := it_f hf c1
      by_cases c8 : x1 = (1 : Int32)
      · have hf := it_t hf c8
        refine lv_tableIn (off := 62) (tgt := 63) hx hb dX7_state_1 (by rw [c8]; decide) (by rw [c8]; decide) (by rw [c8]; rfl) (by decide) ?_
        refine lv_aload_n hx hb dX7_state_63 rfl (lv_at hl 0 rfl) ?_
        refine va_get (D := g.1) (ci := 7) (fs := fcF bF qF0 (bS 0) qF2 qF3 (bRT 0) vF) (v := .ref (bS 0)) (C := RX7) (T := TX7) (N := 12) hx hb htu hinX7 hown hK hP 0 rfl rfl 1 (by decide) k_2_19 (fun _ h9 => h9) rfl dX7_state_64 ?_
        refine va_get (D := g.1) (ci := 4) (fs := fcS bS (bC 0) (bT 0)) (v := .ref (bC 0)) (C := RX4) (T := TX4) (N := 2) hx hb htu hinX4 hown hK hP 6 rfl rfl 0 (by decide) k_1_150 (fun _ h9 => h9) rfl dX7_state_67 ?_
        refine va_get (D := g.1) (ci := 0) (fs := fcC bC vC) (v := .int (vC.1 1)) (C := RX0) (T := TX0) (N := 14) hx hb htu hinX0 hown hK hP 7 rfl rfl 1 (by decide) k_1_60 (fun _ h9 => h9) rfl dX7_state_70 ?_
        exact absurd (kp_6 hf).1.symm hek
      · have hf := it_f hf c8
        by_cases c15 : x1 = (2 : Int32)
        · have hf := it_t hf c15
          refine lv_tableIn (off := 73) (tgt := 74) hx hb dX7_state_1 (by rw [c15]; decide) (by rw [c15]; decide) (by rw [c15]; rfl) (by decide) ?_
          refine lv_aload_n hx hb dX7_state_74 rfl (lv_at hl 0 rfl) ?_
          refine va_get (D := g.1) (ci := 7) (fs := fcF bF qF0 (bS 0) qF2 qF3 (bRT 0) vF) (v := .ref (bS 0)) (C := RX7) (T := TX7) (N := 12) hx hb htu hinX7 hown hK hP 0 rfl rfl 1 (by decide) k_2_19 (fun _ h9 => h9) rfl dX7_state_75 ?_
          refine va_get (D := g.1) (ci := 4) (fs := fcS bS (bC 0) (bT 0)) (v := .ref (bC 0)) (C := RX4) (T := TX4) (N := 2) hx hb htu hinX4 hown hK hP 6 rfl rfl 0 (by decide) k_1_150 (fun _ h9 => h9) rfl dX7_state_78 ?_
          refine va_get (D := g.1) (ci := 0) (fs := fcC bC vC) (v := .int (vC.1 2)) (C := RX0) (T := TX0) (N := 14) hx hb htu hinX0 hown hK hP 7 rfl rfl 2 (by decide) k_1_65 (fun _ h9 => h9) rfl dX7_state_81 ?_
          exact absurd (kp_6 hf).1.symm hek
        · have hf := it_f hf c15
          by_cases c22 : x1 = (3 : Int32)
          · have hf := it_t hf c22
            refine lv_tableIn (off := 84) (tgt := 85) hx hb dX7_state_1 (by rw [c22]; decide) (by rw [c22]; decide) (by rw [c22]; rfl) (by decide) ?_
            refine lv_aload_n hx hb dX7_state_85 rfl (lv_at hl 0 rfl) ?_
            refine va_get (D := g.1) (ci := 7) (fs := fcF bF qF0 (bS 0) qF2 qF3 (bRT 0) vF) (v := .ref (bS 0)) (C := RX7) (T := TX7) (N := 12) hx hb htu hinX7 hown hK hP 0 rfl rfl 1 (by decide) k_2_19 (fun _ h9 => h9) rfl dX7_state_86 ?_
            refine va_get (D := g.1) (ci := 4) (fs := fcS bS (bC 0) (bT 0)) (v := .ref (bC 0)) (C := RX4) (T := TX4) (N := 2) hx hb htu hinX4 hown hK hP 6 rfl rfl 0 (by decide) k_1_150 (fun _ h9 => h9) rfl dX7_state_89 ?_
            obtain ⟨r23, hg24, hf⟩ := o1_at hf
            refine k_viP ⟨hx, hb, hml, hown, htu⟩ hK hP hD hS hA hG (c_X0_faultCount l g bC vC r23 hg24) (cwV 0 htu (gU_V mw_2_121 hcX0_faultCount) rfl rfl rfl hdX0_faultCount ⟨Nat.le_of_ble_eq_true rfl, Nat.le_of_ble_eq_true rfl⟩) (q0 := 7) (ci := 0) (fs := fcC bC vC) (q := (RX0, TX0, 14)) rfl rfl rfl (wr := (cF g bF qF0 (bS 0) qF2 qF3 (bRT 0) vF ++ (cS g bS (bC 0) (bT 0) ++ (cT g bT vT ++ (cR g bRT nRT (bG 0) (bB 0) vRT ++ (cL g bG vG ++ (cL g bB vB))))))) (w2 := cF g bF qF0 (bS 0) qF2 qF3 (bRT 0) vF ++ (cS g bS (bC 0) (bT 0) ++ (cC g bC vC ++ (cT g bT vT ++ (cR g bRT nRT (bG 0) (bB 0) vRT ++ (cL g bG vG ++ (cL g bB vB))))))) [7, 8, 9, 10, 11, 12, 13, 14, 15, 16, 17] [0, 1, 2, 3, 4, 5, 6, 18, 19, 20, 21, 22, 23, 24, 25, 26, 27, 28, 29, 30, 31] [0, 1, 2, 3, 4, 5, 6, 21, 22, 23, 24, 25, 26, 27, 28, 29, 30, 31, 7, 8, 9, 10, 11, 12, 13, 14, 15, 16, 17, 18, 19, 20] rfl rfl (by decide) (by decide) (by decide) rfl rfl (by decide) (As := []) (rest := []) rfl rfl hl.1 (Nat.le_of_ble_eq_true rfl) dX7_state_92 (k1 := 0) (n1 := 0) rfl rfl ⟨Nat.zero_le _, Nat.zero_le _⟩ (fun H locs hP hD hS => ?_)
            exact absurd (kp_6 hf).1.symm hek
          · have hf := it_f hf c22
            by_cases c31 : x1 = (4 : Int32)
            · have hf := it_t hf c31
              refine lv_tableIn (off := 95) (tgt := 96) hx hb dX7_state_1 (by rw [c31]; decide) (by rw [c31]; decide) (by rw [c31]; rfl) (by decide) ?_
              refine lv_aload_n hx hb dX7_state_96 rfl (lv_at hl 0 rfl) ?_
              refine va_get (D := g.1) (ci := 7) (fs := fcF bF qF0 (bS 0) qF2 qF3 (bRT 0) vF) (v := .ref (bS 0)) (C := RX7) (T := TX7) (N := 12) hx hb htu hinX7 hown hK hP 0 rfl rfl 1 (by decide) k_2_19 (fun _ h9 => h9) rfl dX7_state_97 ?_
              refine va_get (D := g.1) (ci := 4) (fs := fcS bS (bC 0) (bT 0)) (v := .ref (bC 0)) (C := RX4) (T := TX4) (N := 2) hx hb htu hinX4 hown hK hP 6 rfl rfl 0 (by decide) k_1_150 (fun _ h9 => h9) rfl dX7_state_100 ?_
              refine va_get (D := g.1) (ci := 0) (fs := fcC bC vC) (v := .int (vC.1 3)) (C := RX0) (T := TX0) (N := 14) hx hb htu hinX0 hown hK hP 7 rfl rfl 3 (by decide) k_1_67 (fun _ h9 => h9) rfl dX7_state_103 ?_
              exact absurd (kp_6 hf).1.symm hek
            · have hf := it_f hf c31
              by_cases c38 : x1 = (5 : Int32)
              · have hf := it_t hf c38
                refine lv_tableIn (off := 106) (tgt := 107) hx hb dX7_state_1 (by rw [c38]; decide) (by rw [c38]; decide) (by rw [c38]; rfl) (by decide) ?_
                refine lv_aload_n hx hb dX7_state_107 rfl (lv_at hl 0 rfl) ?_
                refine va_get (D := g.1) (ci := 7) (fs := fcF bF qF0 (bS 0) qF2 qF3 (bRT 0) vF) (v := .ref (bS 0)) (C := RX7) (T := TX7) (N := 12) hx hb htu hinX7 hown hK hP 0 rfl rfl 1 (by decide) k_2_19 (fun _ h9 => h9) rfl dX7_state_108 ?_
                refine va_get (D := g.1) (ci := 4) (fs := fcS bS (bC 0) (bT 0)) (v := .ref (bT 0)) (C := RX4) (T := TX4) (N := 2) hx hb htu hinX4 hown hK hP 6 rfl rfl 1 (by decide) k_1_153 (fun _ h9 => h9) rfl dX7_state_111 ?_
                refine va_get (D := g.1) (ci := 6) (fs := fcT bT vT) (v := .int (vT.1 0)) (C := RX6) (T := TX6) (N := 5) hx hb htu hinX6 hown hK hP 18 rfl rfl 0 (by decide) k_1_129 (fun _ h9 => h9) rfl dX7_state_114 ?_
                exact absurd (kp_6 hf).1.symm hek
              · have hf := it_f hf c38
                by_cases c45 : x1 = (6 : Int32)
                · have hf := it_t hf c45
                  refine lv_tableIn (off := 117) (tgt := 118) hx hb dX7_state_1 (by rw [c45]; decide) (by rw [c45]; decide) (by rw [c45]; rfl) (by decide) ?_
                  refine lv_aload_n hx hb dX7_state_118 rfl (lv_at hl 0 rfl) ?_
                  refine va_get (D := g.1) (ci := 7) (fs := fcF bF qF0 (bS 0) qF2 qF3 (bRT 0) vF) (v := .ref (bS 0)) (C := RX7) (T := TX7) (N := 12) hx hb htu hinX7 hown hK hP 0 rfl rfl 1 (by decide) k_2_19 (fun _ h9 => h9) rfl dX7_state_119 ?_
                  refine va_get (D := g.1) (ci := 4) (fs := fcS bS (bC 0) (bT 0)) (v := .ref (bT 0)) (C := RX4) (T := TX4) (N := 2) hx hb htu hinX4 hown hK hP 6 rfl rfl 1 (by decide) k_1_153 (fun _ h9 => h9) rfl dX7_state_122 ?_
                  obtain ⟨r46, hg47, hf⟩ := o1_at hf
                  refine k_viP ⟨hx, hb, hml, hown, htu⟩ hK hP hD hS hA hG (c_X6_countSeen l g bT vT r46 hg47) (cwV 0 htu (gU_V mw_2_236 hcX6_countSeen) rfl rfl rfl hdX6_countSeen ⟨Nat.le_of_ble_eq_true rfl, Nat.le_of_ble_eq_true rfl⟩) (q0 := 18) (ci := 6) (fs := fcT bT vT) (q := (RX6, TX6, 5)) rfl rfl rfl (wr := (cF g bF qF0 (bS 0) qF2 qF3 (bRT 0) vF ++ (cS g bS (bC 0) (bT 0) ++ (cC g bC vC ++ (cR g bRT nRT (bG 0) (bB 0) vRT ++ (cL g bG vG ++ (cL g bB vB))))))) (w2 := cF g bF qF0 (bS 0) qF2 qF3 (bRT 0) vF ++ (cS g bS (bC 0) (bT 0) ++ (cC g bC vC ++ (cT g bT vT ++ (cR g bRT nRT (bG 0) (bB 0) vRT ++ (cL g bG vG ++ (cL g bB vB))))))) [18, 19, 20, 21, 22] [0, 1, 2, 3, 4, 5, 6, 7, 8, 9, 10, 11, 12, 13, 14, 15, 16, 17, 23, 24, 25, 26, 27, 28, 29, 30, 31] [0, 1, 2, 3, 4, 5, 6, 7, 8, 9, 10, 11, 12, 13, 14, 15, 16, 17, 27, 28, 29, 30, 31, 18, 19, 20, 21, 22, 23, 24, 25, 26] rfl rfl (by decide) (by decide) (by decide) rfl rfl (by decide) (As := []) (rest := []) rfl rfl hl.1 (Nat.le_of_ble_eq_true rfl) dX7_state_125 (k1 := 0) (n1 := 0) rfl rfl ⟨Nat.zero_le _, Nat.zero_le _⟩ (fun H locs hP hD hS => ?_)
                  exact absurd (kp_6 hf).1.symm hek
                · have hf := it_f hf c45
                  by_cases c54 : x1 = (7 : Int32)
                  · have hf := it_t hf c54
                    refine lv_tableIn (off := 128) (tgt := 129) hx hb dX7_state_1 (by rw [c54]; decide) (by rw [c54]; decide) (by rw [c54]; rfl) (by decide) ?_
                    refine lv_aload_n hx hb dX7_state_129 rfl (lv_at hl 0 rfl) ?_
                    obtain ⟨r55, vF_56, vRT_57, vG_58, vB_59, hg60, hf⟩ := o5_at hf
                    refine k_vlW ⟨hx, hb, hml, hown, htu⟩ hK hP hD hS hA hG (c_X7_listFoundByTests l g bF qF0 qF2 qF3 vF bS bC vC bT vT bRT nRT vRT bG vG bB vB r55 vF_56 vRT_57 vG_58 vB_59 hg60) (cwV 0 htu (gU_V mw_2_153 hcX7_listFoundByTests) rfl rfl rfl hdX7_listFoundByTests ⟨Nat.le_of_ble_eq_true rfl, Nat.le_of_ble_eq_true rfl⟩) (q0 := 0) (ci := 7) (fs := fcF bF qF0 (bS 0) qF2 qF3 (bRT 0) vF) (q := (RX7, TX7, 12)) rfl rfl rfl (As := []) (rest := []) rfl rfl hl.1 (Nat.le_of_ble_eq_true rfl) dX7_state_130 (k1 := 0) (n1 := 0) rfl rfl ⟨Nat.zero_le _, Nat.zero_le _⟩ (fun H locs hP hD hS => ?_)
                    obtain ⟨r61, hg62, hf⟩ := o1_at hf
                    refine k_si0 ⟨hx, hb, hml, hown, htu⟩ hK hP hD hS hA hG (c_J13_bitCount_95d88 l g r55 r61 hg62) (va_cwS 1 htu (gU_S mw_2_171 hcJ13_bitCount_95d88) rfl rfl rfl hdJ13_bitCount_95d88 ⟨Nat.le_of_ble_eq_true rfl, Nat.le_of_ble_eq_true rfl⟩) (As := [.long r55]) (rest := []) rfl rfl hl.1 (Nat.le_of_ble_eq_true rfl) dX7_state_133 (k1 := 0) (n1 := 0) rfl rfl ⟨Nat.zero_le _, Nat.zero_le _⟩ (fun H locs hP hD hS => ?_)
                    exact absurd (kp_6 hf).1.symm hek
                  · have hf := it_f hf c54
                    by_cases c69 : x1 = (8 : Int32)
                    · have hf := it_t hf c69
                      refine lv_tableIn (off := 136) (tgt := 137) hx hb dX7_state_1 (by rw [c69]; decide) (by rw [c69]; decide) (by rw [c69]; rfl) (by decide) ?_
                      refine lv_aload_n hx hb dX7_state_137 rfl (lv_at hl 0 rfl) ?_
                      refine va_get (D := g.1) (ci := 7) (fs := fcF bF qF0 (bS 0) qF2 qF3 (bRT 0) vF) (v := .ref (bS 0)) (C := RX7) (T := TX7) (N := 12) hx hb htu hinX7 hown hK hP 0 rfl rfl 1 (by decide) k_2_19 (fun _ h9 => h9) rfl dX7_state_138 ?_
                      refine va_get (D := g.1) (ci := 4) (fs := fcS bS (bC 0) (bT 0)) (v := .ref (bC 0)) (C := RX4) (T := TX4) (N := 2) hx hb htu hinX4 hown hK hP 6 rfl rfl 0 (by decide) k_1_150 (fun _ h9 => h9) rfl dX7_state_141 ?_
                      obtain ⟨r70, hg71, hf⟩ := o1_at hf
                      refine k_viP ⟨hx, hb, hml, hown, htu⟩ hK hP hD hS hA hG (c_X0_greatestLevel l g bC vC r70 hg71) (cwV 0 htu (gU_V mw_3_47 hcX0_greatestLevel) rfl rfl rfl hdX0_greatestLevel ⟨Nat.le_of_ble_eq_true rfl, Nat.le_of_ble_eq_true rfl⟩) (q0 := 7) (ci := 0) (fs := fcC bC vC) (q := (RX0, TX0, 14)) rfl rfl rfl (wr := (cF g bF qF0 (bS 0) qF2 qF3 (bRT 0) vF ++ (cS g bS (bC 0) (bT 0) ++ (cT g bT vT ++ (cR g bRT nRT (bG 0) (bB 0) vRT ++ (cL g bG vG ++ (cL g bB vB))))))) (w2 := cF g bF qF0 (bS 0) qF2 qF3 (bRT 0) vF ++ (cS g bS (bC 0) (bT 0) ++ (cC g bC vC ++ (cT g bT vT ++ (cR g bRT nRT (bG 0) (bB 0) vRT ++ (cL g bG vG ++ (cL g bB vB))))))) [7, 8, 9, 10, 11, 12, 13, 14, 15, 16, 17] [0, 1, 2, 3, 4, 5, 6, 18, 19, 20, 21, 22, 23, 24, 25, 26, 27, 28, 29, 30, 31] [0, 1, 2, 3, 4, 5, 6, 21, 22, 23, 24, 25, 26, 27, 28, 29, 30, 31, 7, 8, 9, 10, 11, 12, 13, 14, 15, 16, 17, 18, 19, 20] rfl rfl (by decide) (by decide) (by decide) rfl rfl (by decide) (As := []) (rest := []) rfl rfl hl.1 (Nat.le_of_ble_eq_true rfl) dX7_state_144 (k1 := 0) (n1 := 0) rfl rfl ⟨Nat.zero_le _, Nat.zero_le _⟩ (fun H locs hP hD hS => ?_)
                      exact absurd (kp_6 hf).1.symm hek
                    · have hf := it_f hf c69
                      refine lv_tableOut (tgt := 148) hx hb dX7_state_1 (by
                        have zc1 : ¬ (x1).toInt = 0 := fun h9 => c1 (Int32.toInt_inj.mp (h9.trans (by decide)))
                        have zc8 : ¬ (x1).toInt = 1 := fun h9 => c8 (Int32.toInt_inj.mp (h9.trans (by decide)))
                        have zc15 : ¬ (x1).toInt = 2 := fun h9 => c15 (Int32.toInt_inj.mp (h9.trans (by decide)))
                        have zc22 : ¬ (x1).toInt = 3 := fun h9 => c22 (Int32.toInt_inj.mp (h9.trans (by decide)))
                        have zc31 : ¬ (x1).toInt = 4 := fun h9 => c31 (Int32.toInt_inj.mp (h9.trans (by decide)))
                        have zc38 : ¬ (x1).toInt = 5 := fun h9 => c38 (Int32.toInt_inj.mp (h9.trans (by decide)))
                        have zc45 : ¬ (x1).toInt = 6 := fun h9 => c45 (Int32.toInt_inj.mp (h9.trans (by decide)))
                        have zc54 : ¬ (x1).toInt = 7 := fun h9 => c54 (Int32.toInt_inj.mp (h9.trans (by decide)))
                        have zc69 : ¬ (x1).toInt = 8 := fun h9 => c69 (Int32.toInt_inj.mp (h9.trans (by decide)))
                        omega) (by decide) ?_
                      obtain ⟨rfl, rfl, rfl, rfl, rfl, rfl⟩ := kp_6 hf
                      exact vx_throwS (own := RX7) (cls := "java/lang/IllegalArgumentException") (text := "what") (names := ["java/lang/RuntimeException", "java/lang/Exception"]) (ic := 77) (sa := adK g 21) (A := A) hx hb hst hown (by decide +kernel) (by decide +kernel) k_3_52 k_1_13 (hG.1.1 ("FaultTests", 147, "what", 21) (List.mem_of_getElem? (i := 0) rfl)) (fun w h => (xw_77 w h).elim (htu w) (hG.1.bad w)) xo_77 hG.2.1.1 hG.2.1.2 hS (hl.1.trans hml.symm) dX7_state_148 dX7_state_151 dX7_state_152 dX7_state_154 dX7_state_157 (fun z hz => (hT z hz).elim) (Nat.le_of_ble_eq_true rfl) (Nat.le_of_ble_eq_true rfl) (Nat.le_refl _) (Nat.le_refl _) hlocks (fun t hv hz hq => ⟨(), trivial, ⟨rfl, hP.kept (fun k q h9 => hq q.1 (k_lt hP h9)), va_K.moved hv hK, hD⟩, ⟨Nat.le_trans hS.1 hz, fun q h1 h2 => (hq q (Nat.lt_of_lt_of_le h1 hS.1)).trans (hS.2.1 q h1 h2)⟩⟩) hS.2.2 (Nat.le_refl _) (Nat.le_refl _)
  rw [hH, hlo] at hW
  exact hW
def f_X7_wire (vF : Vs) (vC : Vs) (x1 : Int32) (x2 : Int32) : Option (Nat × Int32) :=
  o1 (f_X7_checkWire vF vC x1) (fun (c1 : Nat) => if c1 = 0 then (if x2 = (0 : Int32) then gd (inb x1 24) (some (0, (vC.2.1 4 (x1).toNatClampNeg))) else if x2 = (1 : Int32) then gd (inb x1 24) (some (0, (vC.2.1 5 (x1).toNatClampNeg))) else if x2 = (2 : Int32) then gd (inb x1 24) (some (0, (vC.2.1 7 (x1).toNatClampNeg))) else if x2 = (3 : Int32) then gd (inb x1 24) (some (0, (vC.2.1 8 (x1).toNatClampNeg))) else if x2 = (4 : Int32) then o1 (f_X0_outputOf vC x1) (fun (r20 : Int32) => some (0, r20)) else some (1, (0 : Int32))) else some (c1, (0 : Int32)))
abbrev wsX7_wire : List Cond := .code yX7_wire cX7_wire 3 (some .int) :: UW
abbrev rmX7_wire : Room := { frames := 2, cells := 0, slots := 0, locals := 33 }
set_option maxHeartbeats 4000000 in
set_option maxRecDepth 100000 in
theorem c_X7_wire (l : Launch) (g : Gx) (bF : Nat → Nat) (qF0 : Nat) (qF2 : Nat) (qF3 : Nat) (qF4 : Nat) (vF : Vs) (bS : Nat → Nat) (qS1 : Nat) (bC : Nat → Nat) (vC : Vs) (x1 : Int32) (x2 : Int32) (r : Int32) (hf : f_X7_wire vF vC x1 x2 = some (0, r)) : CtI l yX7_wire wsX7_wire rmX7_wire g [.ref (bF 0), .int x1, .int x2] (cF g bF qF0 (bS 0) qF2 qF3 qF4 vF ++ (cS g bS (bC 0) qS1 ++ (cC g bC vC))) (cF g bF qF0 (bS 0) qF2 qF3 qF4 vF ++ (cS g bS (bC 0) qS1 ++ (cC g bC vC))) r 0 0 := by
  unfold CtI
  intro sz
  refine Met.ofW (cc := cX7_wire) (maxL := 3) (ret := (some .int)) (by decide) rfl ?_
  intro p e s m args below meth c s₁ B hml hv
  obtain ⟨rfl, hsz, hP, hK, hD0, hG⟩ := hv
  have hx := B.exec
  have hb := B.bytes
  have hr := B.returns
  have hts := atoms_spec (ws := wsX7_wire) B.pre
  have hown : s.vm.findClass RX7 = some m.cls := findClass_of_methodNamed B.named
  have hlocks := B.notSynchronized
  subst hsz
  have hD := hD0.self (sz := s.heap.size)
  generalize hAe : va_A (cF g bF qF0 (bS 0) qF2 qF3 qF4 vF ++ (cS g bS (bC 0) qS1 ++ (cC g bC vC))) s.heap.size = A at hD hG ⊢
  have hA : ∀ q : Nat, s.heap.size ≤ q → A q := fun q h => by rw [← hAe]; exact Or.inr h
  clear hAe hD0
  have hS : va_S A s.heap s.heap [] := va_S.rf
  have hl := lv_entry ([.ref (bF 0), .int x1, .int x2]) (n := 3) (Nat.le_of_ble_eq_true rfl)
  rw [lg_entry_eq]
  generalize (lg_sl ([.ref (bF 0), .int x1, .int x2]) ++ List.replicate (3 - (lg_sl ([.ref (bF 0), .int x1, .int x2])).length) Slot.unset).toArray = ls at hl ⊢
  have hl : lv_has ls 3 [(0, .ref (bF 0)), (1, .int x1), (2, .int x2)] := hl
  have htu : ∀ w ∈ UW, w.before _ s = true := fun w h => hts w (List.mem_cons_of_mem _ h)
  have k_2_19 := htu _ mw_2_19
  have k_1_150 := htu _ mw_1_150
  have k_1_69 := htu _ mw_1_69
  have k_1_72 := htu _ mw_1_72
  have k_1_78 := htu _ mw_1_78
  have k_1_80 := htu _ mw_1_80
  unfold f_X7_wire at hf
  obtain ⟨H, hH⟩ : ∃ z, z = s.heap := ⟨_, rfl⟩
  obtain ⟨locs, hlo⟩ : ∃ z : List Loc, z = [] := ⟨_, rfl⟩
  have hS : va_S A s.heap H locs := by rw [hH, hlo]; exact hS
  rw [← hH] at hP
  have hW : W p l e (headSpec wsX7_wire rmX7_wire).room s m ([.ref (bF 0), .int x1, .int x2] : List Value).toArray below meth c H locs 0 0 (MQ below (qI g A (cF g bF qF0 (bS 0) qF2 qF3 qF4 vF ++ (cS g bS (bC 0) qS1 ++ (cC g bC vC))) r) ([.ref (bF 0), .int x1, .int x2] : List Value).toArray s 0 0 A) (F0 m 0 ls []) := by
    refine lv_aload_n hx hb dX7_wire_0 rfl (lv_at hl 0 rfl) ?_
    refine lv_iload_n hx hb dX7_wire_1 rfl (lv_at hl 1 rfl) ?_
    obtain ⟨c1, hg2, hf⟩ := o1_at hf
    have hc1 : c1 = 0 := Classical.byContradiction (fun h9 => h9 (kp_2 (it_f hf h9)).1)
    have hf := it_t hf hc1
    rw [hc1] at hg2
    refine k_vvW ⟨hx, hb, hml, hown, htu⟩ hK hP hD hS hA hG (c_X7_checkWire l g bF qF0 qF2 qF3 qF4 vF bS qS1 bC vC x1 hg2) (cwV 1 htu (gU_V mw_3_129 hcX7_checkWire) rfl rfl rfl hdX7_checkWire ⟨Nat.le_of_ble_eq_true rfl, Nat.le_of_ble_eq_true rfl⟩) (q0 := 0) (ci := 7) (fs := fcF bF qF0 (bS 0) qF2 qF3 qF4 vF) (q := (RX7, TX7, 12)) rfl rfl rfl (As := [.int x1]) (rest := []) rfl rfl hl.1 (Nat.le_of_ble_eq_true rfl) dX7_wire_2 (k1 := 0) (n1 := 0) rfl rfl ⟨Nat.zero_le _, Nat.zero_le _⟩ (fun H locs hP hD hS => ?_)
    refine lv_iload_n hx hb dX7_wire_5 rfl (lv_at hl 2 rfl) ?_
    by_cases c3 : x2 = (0 : Int32)
    · have hf := it_t hf c3
      refine lv_tableIn (off := 34) (tgt := 40) hx hb dX7_wire_6 (by rw [c3]; decide) (by rw [c3]; decide) (by rw [c3]; rfl) (by decide) ?_
      refine lv_aload_n hx hb dX7_wire_40 rfl (lv_at hl 0 rfl) ?_
      refine va_get (D := g.1) (ci := 7) (fs := fcF bF qF0 (bS 0) qF2 qF3 qF4 vF) (v := .ref (bS 0)) (C := RX7) (T := TX7) (N := 12) hx hb htu hinX7 hown hK hP 0 rfl rfl 1 (by decide) k_2_19 (fun _ h9 => h9) rfl dX7_wire_41 ?_
      refine va_get (D := g.1) (ci := 4) (fs := fcS bS (bC 0) qS1) (v := .ref (bC 0)) (C := RX4) (T := TX4) (N := 2) hx hb htu hinX4 hown hK hP 6 rfl rfl 0 (by decide) k_1_150 (fun _ h9 => h9) rfl dX7_wire_44 ?_
      refine va_get (D := g.1) (ci := 0) (fs := fcC bC vC) (v := .ref (bC 5)) (C := RX0) (T := TX0) (N := 14) hx hb htu hinX0 hown hK hP 7 rfl rfl 4 (by decide) k_1_69 (fun _ h9 => h9) rfl dX7_wire_47 ?_
      refine lv_iload_n hx hb dX7_wire_50 rfl (lv_at hl 1 rfl) ?_
      obtain ⟨h4, hf⟩ := gd_in hf
      refine va_iald (D := g.1) (f := (vC.2.1 4)) hx hb hK hP 8 0 rfl rfl h4 dX7_wire_51 ?_
      obtain ⟨e5, e6⟩ := kp_2 hf
      exact k_iret hx hb hr hlocks hK hP hD hS e6 dX7_wire_52
    · have hf := it_f hf c3
      by_cases c7 : x2 = (1 : Int32)
      · have hf := it_t hf c7
        refine lv_tableIn (off := 47) (tgt := 53) hx hb dX7_wire_6 (by rw [c7]; decide) (by rw [c7]; decide) (by rw [c7]; rfl) (by decide) ?_
        refine lv_aload_n hx hb dX7_wire_53 rfl (lv_at hl 0 rfl) ?_
        refine va_get (D := g.1) (ci := 7) (fs := fcF bF qF0 (bS 0) qF2 qF3 qF4 vF) (v := .ref (bS 0)) (C := RX7) (T := TX7) (N := 12) hx hb htu hinX7 hown hK hP 0 rfl rfl 1 (by decide) k_2_19 (fun _ h9 => h9) rfl dX7_wire_54 ?_
        refine va_get (D := g.1) (ci := 4) (fs := fcS bS (bC 0) qS1) (v := .ref (bC 0)) (C := RX4) (T := TX4) (N := 2) hx hb htu hinX4 hown hK hP 6 rfl rfl 0 (by decide) k_1_150 (fun _ h9 => h9) rfl dX7_wire_57 ?_
        refine va_get (D := g.1) (ci := 0) (fs := fcC bC vC) (v := .ref (bC 6)) (C := RX0) (T := TX0) (N := 14) hx hb htu hinX0 hown hK hP 7 rfl rfl 5 (by decide) k_1_72 (fun _ h9 => h9) rfl dX7_wire_60 ?_
        refine lv_iload_n hx hb dX7_wire_63 rfl (lv_at hl 1 rfl) ?_
        obtain ⟨h8, hf⟩ := gd_in hf
        refine va_iald (D := g.1) (f := (vC.2.1 5)) hx hb hK hP 9 0 rfl rfl h8 dX7_wire_64 ?_
        obtain ⟨e9, e10⟩ := kp_2 hf
        exact k_iret hx hb hr hlocks hK hP hD hS e10 dX7_wire_65
      · have hf := it_f hf c7
        by_cases c11 : x2 = (2 : Int32)
        · have hf := it_t hf c11
          refine lv_tableIn (off := 60) (tgt := 66) hx hb dX7_wire_6 (by rw [c11]; decide) (by rw [c11]; decide) (by rw [c11]; rfl) (by decide) ?_
          refine lv_aload_n hx hb dX7_wire_66 rfl (lv_at hl 0 rfl) ?_
          refine va_get (D := g.1) (ci := 7) (fs := fcF bF qF0 (bS 0) qF2 qF3 qF4 vF) (v := .ref (bS 0)) (C := RX7) (T := TX7) (N := 12) hx hb htu hinX7 hown hK hP 0 rfl rfl 1 (by decide) k_2_19 (fun _ h9 => h9) rfl dX7_wire_67 ?_
          refine va_get (D := g.1) (ci := 4) (fs := fcS bS (bC 0) qS1) (v := .ref (bC 0)) (C := RX4) (T := TX4) (N := 2) hx hb htu hinX4 hown hK hP 6 rfl rfl 0 (by decide) k_1_150 (fun _ h9 => h9) rfl dX7_wire_70 ?_
          refine va_get (D := g.1) (ci := 0) (fs := fcC bC vC) (v := .ref (bC 8)) (C := RX0) (T := TX0) (N := 14) hx hb htu hinX0 hown hK hP 7 rfl rfl 7 (by decide) k_1_78 (fun _ h9 => h9) rfl dX7_wire_73 ?_
          refine lv_iload_n hx hb dX7_wire_76 rfl (lv_at hl 1 rfl) ?_
          obtain ⟨h12, hf⟩ := gd_in hf
          refine va_iald (D := g.1) (f := (vC.2.1 7)) hx hb hK hP 11 0 rfl rfl h12 dX7_wire_77 ?_
          obtain ⟨e13, e14⟩ := kp_2 hf
          exact k_iret hx hb hr hlocks hK hP hD hS e14 dX7_wire_78
        · have hf := it_f hf c11
          by_cases c15 : x2 = (3 : Int32)
          · have hf := it_t hf c15
            refine lv_tableIn (off := 73) (tgt := 79) hx hb dX7_wire_6 (by rw [c15]; decide) (by rw [c15]; decide) (by rw [c15]; rfl) (by decide) ?_
            refine lv_aload_n hx hb dX7_wire_79 rfl (lv_at hl 0 rfl) ?_
            refine va_get (D := g.1) (ci := 7) (fs := fcF bF qF0 (bS 0) qF2 qF3 qF4 vF) (v := .ref (bS 0)) (C := RX7) (T := TX7) (N := 12) hx hb htu hinX7 hown hK hP 0 rfl rfl 1 (by decide) k_2_19 (fun _ h9 => h9) rfl dX7_wire_80 ?_
            refine va_get (D := g.1) (ci := 4) (fs := fcS bS (bC 0) qS1) (v := .ref (bC 0)) (C := RX4) (T := TX4) (N := 2) hx hb htu hinX4 hown hK hP 6 rfl rfl 0 (by decide) k_1_150 (fun _ h9 => h9) rfl dX7_wire_83 ?_
            refine va_get (D := g.1) (ci := 0) (fs := fcC bC vC) (v := .ref (bC 9)) (C := RX0) (T := TX0) (N := 14) hx hb htu hinX0 hown hK hP 7 rfl rfl 8 (by decide) k_1_80 (fun _ h9 => h9) rfl dX7_wire_86 ?_
            refine lv_iload_n hx hb dX7_wire_89 rfl (lv_at hl 1 rfl) ?_
            obtain ⟨h16, hf⟩ := gd_in hf
            refine va_iald (D := g.1) (f := (vC.2.1 8)) hx hb hK hP 12 0 rfl rfl h16 dX7_wire_90 ?_
            obtain ⟨e17, e18⟩ := kp_2 hf
            exact k_iret hx hb hr hlocks hK hP hD hS e18 dX7_wire_91
          · have hf := it_f hf c15
            by_cases c19 : x2 = (4 : Int32)
            · have hf := it_t hf c19
              refine lv_tableIn (off := 86) (tgt := 92) hx hb dX7_wire_6 (by rw [c19]; decide) (by rw [c19]; decide) (by rw [c19]; rfl) (by decide) ?_
              refine lv_aload_n hx hb dX7_wire_92 rfl (lv_at hl 0 rfl) ?_
              refine va_get (D := g.1) (ci := 7) (fs := fcF bF qF0 (bS 0) qF2 qF3 qF4 vF) (v := .ref (bS 0)) (C := RX7) (T := TX7) (N := 12) hx hb htu hinX7 hown hK hP 0 rfl rfl 1 (by decide) k_2_19 (fun _ h9 => h9) rfl dX7_wire_93 ?_
              refine va_get (D := g.1) (ci := 4) (fs := fcS bS (bC 0) qS1) (v := .ref (bC 0)) (C := RX4) (T := TX4) (N := 2) hx hb htu hinX4 hown hK hP 6 rfl rfl 0 (by decide) k_1_150 (fun _ h9 => h9) rfl dX7_wire_96 ?_
              refine lv_iload_n hx hb dX7_wire_99 rfl (lv_at hl 1 rfl) ?_
              obtain ⟨r20, hg21, hf⟩ := o1_at hf
              refine k_viP ⟨hx, hb, hml, hown, htu⟩ hK hP hD hS hA hG (c_X0_outputOf l g bC vC x1 r20 hg21) (cwV 1 htu (gU_V mw_3_149 hcX0_outputOf) rfl rfl rfl hdX0_outputOf ⟨Nat.le_of_ble_eq_true rfl, Nat.le_of_ble_eq_true rfl⟩) (q0 := 7) (ci := 0) (fs := fcC bC vC) (q := (RX0, TX0, 14)) rfl rfl rfl (wr := (cF g bF qF0 (bS 0) qF2 qF3 qF4 vF ++ (cS g bS (bC 0) qS1))) (w2 := cF g bF qF0 (bS 0) qF2 qF3 qF4 vF ++ (cS g bS (bC 0) qS1 ++ (cC g bC vC))) [7, 8, 9, 10, 11, 12, 13, 14, 15, 16, 17] [0, 1, 2, 3, 4, 5, 6] [0, 1, 2, 3, 4, 5, 6, 7, 8, 9, 10, 11, 12, 13, 14, 15, 16, 17] rfl rfl (by decide) (by decide) (by decide) rfl rfl (by decide) (As := [.int x1]) (rest := []) rfl rfl hl.1 (Nat.le_of_ble_eq_true rfl) dX7_wire_100 (k1 := 0) (n1 := 0) rfl rfl ⟨Nat.zero_le _, Nat.zero_le _⟩ (fun H locs hP hD hS => ?_)
              obtain ⟨e22, e23⟩ := kp_2 hf
              exact k_iret hx hb hr hlocks hK hP hD hS e23 dX7_wire_103
            · have hf := it_f hf c19
              refine lv_tableOut (tgt := 104) hx hb dX7_wire_6 (by
                have zc3 : ¬ (x2).toInt = 0 := fun h9 => c3 (Int32.toInt_inj.mp (h9.trans (by decide)))
                have zc7 : ¬ (x2).toInt = 1 := fun h9 => c7 (Int32.toInt_inj.mp (h9.trans (by decide)))
                have zc11 : ¬ (x2).toInt = 2 := fun h9 => c11 (Int32.toInt_inj.mp (h9.trans (by decide)))
                have zc15 : ¬ (x2).toInt = 3 := fun h9 => c15 (Int32.toInt_inj.mp (h9.trans (by decide)))
                have zc19 : ¬ (x2).toInt = 4 := fun h9 => c19 (Int32.toInt_inj.mp (h9.trans (by decide)))
                omega) (by decide) ?_
              exact absurd (kp_2 hf).1 (by decide)
  rw [hH, hlo] at hW
  exact hW
abbrev rtX7_wire : Room := { frames := 9, cells := 1, slots := 6, locals := 141 }
set_option maxHeartbeats 4000000 in
set_option maxRecDepth 100000 in
theorem t_X7_wire (l : Launch) (hst : l.stackTraces = false) (g : Gx) (bF : Nat → Nat) (qF0 : Nat) (qF2 : Nat) (qF3 : Nat) (qF4 : Nat) (vF : Vs) (bS : Nat → Nat) (qS1 : Nat) (bC : Nat → Nat) (vC : Vs) (x1 : Int32) (x2 : Int32) (r : Int32) (ek : Nat) (hf : f_X7_wire vF vC x1 x2 = some (ek, r)) (hek : ¬ ek = 0) : CtXI l yX7_wire wsX7_wire rtX7_wire g [.ref (bF 0), .int x1, .int x2] (cF g bF qF0 (bS 0) qF2 qF3 qF4 vF ++ (cS g bS (bC 0) qS1 ++ (cC g bC vC))) (cF g bF qF0 (bS 0) qF2 qF3 qF4 vF ++ (cS g bS (bC 0) qS1 ++ (cC g bC vC))) (exN ek) 1 6 := by
  unfold CtXI
  intro sz
  refine vx_ofW (cc := cX7_wire) (maxL := 3) (ret := (some .int)) (by decide) rfl ?_
  intro p e s m args below meth c s₁ B hml hT hv
  obtain ⟨rfl, hsz, hP, hK, hD0, hG⟩ := hv
  have hx := B.exec
  have hb := B.bytes
  have hr := B.returns
  have hts := atoms_spec (ws := wsX7_wire) B.pre
  have hown : s.vm.findClass RX7 = some m.cls := findClass_of_methodNamed B.named
  have hlocks := B.notSynchronized
  subst hsz
  have hD := hD0.self (sz := s.heap.size)
  generalize hAe : va_A (cF g bF qF0 (bS 0) qF2 qF3 qF4 vF ++ (cS g bS (bC 0) qS1 ++ (cC g bC vC))) s.heap.size = A at hD hG ⊢
  have hA : ∀ q : Nat, s.heap.size ≤ q → A q := fun q h => by rw [← hAe]; exact Or.inr h
  clear hAe hD0
  have hS : va_S A s.heap s.heap [] := va_S.rf
  have hl := lv_entry ([.ref (bF 0), .int x1, .int x2]) (n := 3) (Nat.le_of_ble_eq_true rfl)
  rw [lg_entry_eq]
  generalize (lg_sl ([.ref (bF 0), .int x1, .int x2]) ++ List.replicate (3 - (lg_sl ([.ref (bF 0), .int x1, .int x2])).length) Slot.unset).toArray = ls at hl ⊢
  have hl : lv_has ls 3 [(0, .ref (bF 0)), (1, .int x1), (2, .int x2)] := hl
  have htu : ∀ w ∈ UW, w.before _ s = true := fun w h => hts w (List.mem_cons_of_mem _ h)
  have k_2_19 := htu _ mw_2_19
  have k_1_150 := htu _ mw_1_150
  have k_1_69 := htu _ mw_1_69
  have k_1_72 := htu _ mw_1_72
  have k_1_78 := htu _ mw_1_78
  have k_1_80 := htu _ mw_1_80
  have k_3_52 := htu _ mw_3_52
  have k_1_13 := htu _ mw_1_13
  unfold f_X7_wire at hf
  obtain ⟨H, hH⟩ : ∃ z, z = s.heap := ⟨_, rfl⟩
  obtain ⟨locs, hlo⟩ : ∃ z : List Loc, z = [] := ⟨_, rfl⟩
  have hS : va_S A s.heap H locs := by rw [hH, hlo]; exact hS
  rw [← hH] at hP
  have hW : W p l e (headSpec wsX7_wire rtX7_wire).room s m ([.ref (bF 0), .int x1, .int x2] : List Value).toArray below meth c H locs 0 0 (vx_MQ below (nI0 A) (xE g A (cF g bF qF0 (bS 0) qF2 qF3 qF4 vF ++ (cS g bS (bC 0) qS1 ++ (cC g bC vC))) (exN ek)) ([.ref (bF 0), .int x1, .int x2] : List Value).toArray s 1 6 A) (F0 m 0 ls []) := by
    refine lv_aload_n hx hb dX7_wire_0 rfl (lv_at hl 0 rfl) ?_
    refine lv_iload_n hx hb dX7_wire_1 rfl (lv_at hl 1 rfl) ?_
    obtain ⟨c1, hg2, hf⟩ := o1_at hf
    rcases Classical.em (¬ c1 = 0) with hc1 | hc1
    · have hf := it_f hf hc1
      obtain ⟨rfl, rfl⟩ := kp_2 hf
      exact kx_vvW ⟨hx, hb, hml, hown, htu⟩ hK hP hD hS hA hG (t_X7_checkWire l hst g bF qF0 qF2 qF3 qF4 vF bS qS1 bC vC x1 c1 hg2 hc1) (cwV 1 htu (gU_V mw_3_129 hcX7_checkWire) rfl rfl rfl hdX7_checkWire ⟨Nat.le_of_ble_eq_true rfl, Nat.le_of_ble_eq_true rfl⟩) (q0 := 0) (ci := 7) (fs := fcF bF qF0 (bS 0) qF2 qF3 qF4 vF) (q := (RX7, TX7, 12)) rfl rfl rfl (As := [.int x1]) (rest := []) rfl rfl hl.1 (Nat.le_of_ble_eq_true rfl) dX7_wire_2 ⟨Nat.le_refl _, Nat.le_refl _⟩ ⟨Nat.le_refl _, Nat.le_refl _⟩ hT hlocks
    have hc1 := Classical.not_not.mp hc1
    have hf := it_t hf hc1
    rw [hc1] at hg2
    refine k_vvW ⟨hx, hb, hml, hown, htu⟩ hK hP hD hS hA hG (c_X7_checkWire l g bF qF0 qF2 qF3 qF4 vF bS qS1 bC vC x1 hg2) (cwV 1 htu (gU_V mw_3_129 hcX7_checkWire) rfl rfl rfl hdX7_checkWire ⟨Nat.le_of_ble_eq_true rfl, Nat.le_of_ble_eq_true rfl⟩) (q0 := 0) (ci := 7) (fs := fcF bF qF0 (bS 0) qF2 qF3 qF4 vF) (q := (RX7, TX7, 12)) rfl rfl rfl (As := [.int x1]) (rest := []) rfl rfl hl.1 (Nat.le_of_ble_eq_true rfl) dX7_wire_2 (k1 := 0) (n1 := 0) rfl rfl ⟨Nat.zero_le _, Nat.zero_le _⟩ (fun H locs hP hD hS => ?_)
    refine lv_iload_n hx hb dX7_wire_5 rfl (lv_at hl 2 rfl) ?_
    by_cases c3 : x2 = (0 : Int32)
    · have hf := it_t hf c3
      refine lv_tableIn (off := 34) (tgt := 40) hx hb dX7_wire_6 (by rw [c3]; decide) (by rw [c3]; decide) (by rw [c3]; rfl) (by decide) ?_
      refine lv_aload_n hx hb dX7_wire_40 rfl (lv_at hl 0 rfl) ?_
      refine va_get (D := g.1) (ci := 7) (fs := fcF bF qF0 (bS 0) qF2 qF3 qF4 vF) (v := .ref (bS 0)) (C := RX7) (T := TX7) (N := 12) hx hb htu hinX7 hown hK hP 0 rfl rfl 1 (by decide) k_2_19 (fun _ h9 => h9) rfl dX7_wire_41 ?_
      refine va_get (D := g.1) (ci := 4) (fs := fcS bS (bC 0) qS1) (v := .ref (bC 0)) (C := RX4) (T := TX4) (N := 2) hx hb htu hinX4 hown hK hP 6 rfl rfl 0 (by decide) k_1_150 (fun _ h9 => h9) rfl dX7_wire_44 ?_
      refine va_get (D := g.1) (ci := 0) (fs := fcC bC vC) (v := .ref (bC 5)) (C := RX0) (T := TX0) (N := 14) hx hb htu hinX0 hown hK hP 7 rfl rfl 4 (by decide) k_1_69 (fun _ h9 => h9) rfl dX7_wire_47 ?_
      refine lv_iload_n hx hb dX7_wire_50 rfl (lv_at hl 1 rfl) ?_
      obtain ⟨h4, hf⟩ := gd_in hf
      refine va_iald (D := g.1) (f := (vC.2.1 4)) hx hb hK hP 8 0 rfl rfl h4 dX7_wire_51 ?_
      exact absurd (kp_2 hf).1.symm hek
    · have hf := it_f hf c3
      by_cases c7 : x2 = (1 : Int32)
      · have hf := it_t hf c7
        refine lv_tableIn (off := 47) (tgt := 53) hx hb dX7_wire_6 (by rw [c7]; decide) (by rw [c7]; decide) (by rw [c7]; rfl) (by decide) ?_
        refine lv_aload_n hx hb dX7_wire_53 rfl (lv_at hl 0 rfl) ?_
        refine va_get (D := g.1) (ci := 7) (fs := fcF bF qF0 (bS 0) qF2 qF3 qF4 vF) (v := .ref (bS 0)) (C := RX7) (T := TX7) (N := 12) hx hb htu hinX7 hown hK hP 0 rfl rfl 1 (by decide) k_2_19 (fun _ h9 => h9) rfl dX7_wire_54 ?_
        refine va_get (D := g.1) (ci := 4) (fs := fcS bS (bC 0) qS1) (v := .ref (bC 0)) (C := RX4) (T := TX4) (N := 2) hx hb htu hinX4 hown hK hP 6 rfl rfl 0 (by decide) k_1_150 (fun _ h9 => h9) rfl dX7_wire_57 ?_
        refine va_get (D := g.1) (ci := 0) (fs := fcC bC vC) (v := .ref (bC 6)) (C := RX0) (T := TX0) (N := 14) hx hb htu hinX0 hown hK hP 7 rfl rfl 5 (by decide) k_1_72 (fun _ h9 => h9) rfl dX7_wire_60 ?_
        refine lv_iload_n hx hb dX7_wire_63 rfl (lv_at hl 1 rfl) ?_
        obtain ⟨h8, hf⟩ := gd_in hf
        refine va_iald (D := g.1) (f := (vC.2.1 5)) hx hb hK hP 9 0 rfl rfl h8 dX7_wire_64 ?_
        exact absurd (kp_2 hf).1.symm hek
      · have hf := it_f hf c7
        by_cases c11 : x2 = (2 : Int32)
        · have hf := it_t hf c11
          refine lv_tableIn (off := 60) (tgt := 66) hx hb dX7_wire_6 (by rw [c11]; decide) (by rw [c11]; decide) (by rw [c11]; rfl) (by decide) ?_
          refine lv_aload_n hx hb dX7_wire_66 rfl (lv_at hl 0 rfl) ?_
          refine va_get (D := g.1) (ci := 7) (fs := fcF bF qF0 (bS 0) qF2 qF3 qF4 vF) (v := .ref (bS 0)) (C := RX7) (T := TX7) (N := 12) hx hb htu hinX7 hown hK hP 0 rfl rfl 1 (by decide) k_2_19 (fun _ h9 => h9) rfl dX7_wire_67 ?_
          refine va_get (D := g.1) (ci := 4) (fs := fcS bS (bC 0) qS1) (v := .ref (bC 0)) (C := RX4) (T := TX4) (N := 2) hx hb htu hinX4 hown hK hP 6 rfl rfl 0 (by decide) k_1_150 (fun _ h9 => h9) rfl dX7_wire_70 ?_
          refine va_get (D := g.1) (ci := 0) (fs := fcC bC vC) (v := .ref (bC 8)) (C := RX0) (T := TX0) (N := 14) hx hb htu hinX0 hown hK hP 7 rfl rfl 7 (by decide) k_1_78 (fun _ h9 => h9) rfl dX7_wire_73 ?_
          refine lv_iload_n hx hb dX7_wire_76 rfl (lv_at hl 1 rfl) ?_
          obtain ⟨h12, hf⟩ := gd_in hf
          refine va_iald (D := g.1) (f := (vC.2.1 7)) hx hb hK hP 11 0 rfl rfl h12 dX7_wire_77 ?_
          exact absurd (kp_2 hf).1.symm hek
        · have hf := it_f hf c11
          by_cases c15 : x2 = (3 : Int32)
          · have hf := it_t hf c15
            refine lv_tableIn (off := 73) (tgt := 79) hx hb dX7_wire_6 (by rw [c15]; decide) (by rw [c15]; decide) (by rw [c15]; rfl) (by decide) ?_
            refine lv_aload_n hx hb dX7_wire_79 rfl (lv_at hl 0 rfl) ?_
            refine va_get (D := g.1) (ci := 7) (fs := fcF bF qF0 (bS 0) qF2 qF3 qF4 vF) (v := .ref (bS 0)) (C := RX7) (T := TX7) (N := 12) hx hb htu hinX7 hown hK hP 0 rfl rfl 1 (by decide) k_2_19 (fun _ h9 => h9) rfl dX7_wire_80 ?_
            refine va_get (D := g.1) (ci := 4) (fs := fcS bS (bC 0) qS1) (v := .ref (bC 0)) (C := RX4) (T := TX4) (N := 2) hx hb htu hinX4 hown hK hP 6 rfl rfl 0 (by decide) k_1_150 (fun _ h9 => h9) rfl dX7_wire_83 ?_
            refine va_get (D := g.1) (ci := 0) (fs := fcC bC vC) (v := .ref (bC 9)) (C := RX0) (T := TX0) (N := 14) hx hb htu hinX0 hown hK hP 7 rfl rfl 8 (by decide) k_1_80 (fun _ h9 => h9) rfl dX7_wire_86 ?_
            refine lv_iload_n hx hb dX7_wire_89 rfl (lv_at hl 1 rfl) ?_
            obtain ⟨h16, hf⟩ := gd_in hf
            refine va_iald (D := g.1) (f := (vC.2.1 8)) hx hb hK hP 12 0 rfl rfl h16 dX7_wire_90 ?_
            exact absurd (kp_2 hf).1.symm hek
          · have hf := it_f hf c15
            by_cases c19 : x2 = (4 : Int32)
            · have hf := it_t hf c19
              refine lv_tableIn (off := 86) (tgt := 92) hx hb dX7_wire_6 (by rw [c19]; decide) (by rw [c19]; decide) (by rw [c19]; rfl) (by decide) ?_
              refine lv_aload_n hx hb dX7_wire_92 rfl (lv_at hl 0 rfl) ?_
              refine va_get (D := g.1) (ci := 7) (fs := fcF bF qF0 (bS 0) qF2 qF3 qF4 vF) (v := .ref (bS 0)) (C := RX7) (T := TX7) (N := 12) hx hb htu hinX7 hown hK hP 0 rfl rfl 1 (by decide) k_2_19 (fun _ h9 => h9) rfl dX7_wire_93 ?_
              refine va_get (D := g.1) (ci := 4) (fs := fcS bS (bC 0) qS1) (v := .ref (bC 0)) (C := RX4) (T := TX4) (N := 2) hx hb htu hinX4 hown hK hP 6 rfl rfl 0 (by decide) k_1_150 (fun _ h9 => h9) rfl dX7_wire_96 ?_
              refine lv_iload_n hx hb dX7_wire_99 rfl (lv_at hl 1 rfl) ?_
              obtain ⟨r20, hg21, hf⟩ := o1_at hf
              refine k_viP ⟨hx, hb, hml, hown, htu⟩ hK hP hD hS hA hG (c_X0_outputOf l g bC vC x1 r20 hg21) (cwV 1 htu (gU_V mw_3_149 hcX0_outputOf) rfl rfl rfl hdX0_outputOf ⟨Nat.le_of_ble_eq_true rfl, Nat.le_of_ble_eq_true rfl⟩) (q0 := 7) (ci := 0) (fs := fcC bC vC) (q := (RX0, TX0, 14)) rfl rfl rfl (wr := (cF g bF qF0 (bS 0) qF2 qF3 qF4 vF ++ (cS g bS (bC 0) qS1))) (w2 := cF g bF qF0 (bS 0) qF2 qF3 qF4 vF ++ (cS g bS (bC 0) qS1 ++ (cC g bC vC))) [7, 8, 9, 10, 11, 12, 13, 14, 15, 16, 17] [0, 1, 2, 3, 4, 5, 6] [0, 1, 2, 3, 4, 5, 6, 7, 8, 9, 10, 11, 12, 13, 14, 15, 16, 17] rfl rfl (by decide) (by decide) (by decide) rfl rfl (by decide) (As := [.int x1]) (rest := []) rfl rfl hl.1 (Nat.le_of_ble_eq_true rfl) dX7_wire_100 (k1 := 0) (n1 := 0) rfl rfl ⟨Nat.zero_le _, Nat.zero_le _⟩ (fun H locs hP hD hS => ?_)
              exact absurd (kp_2 hf).1.symm hek
            · have hf := it_f hf c19
              refine lv_tableOut (tgt := 104) hx hb dX7_wire_6 (by
                have zc3 : ¬ (x2).toInt = 0 := fun h9 => c3 (Int32.toInt_inj.mp (h9.trans (by decide)))
                have zc7 : ¬ (x2).toInt = 1 := fun h9 => c7 (Int32.toInt_inj.mp (h9.trans (by decide)))
                have zc11 : ¬ (x2).toInt = 2 := fun h9 => c11 (Int32.toInt_inj.mp (h9.trans (by decide)))
                have zc15 : ¬ (x2).toInt = 3 := fun h9 => c15 (Int32.toInt_inj.mp (h9.trans (by decide)))
                have zc19 : ¬ (x2).toInt = 4 := fun h9 => c19 (Int32.toInt_inj.mp (h9.trans (by decide)))
                omega) (by decide) ?_
              obtain ⟨rfl, rfl⟩ := kp_2 hf
              exact vx_throwS (own := RX7) (cls := "java/lang/IllegalArgumentException") (text := "what") (names := ["java/lang/RuntimeException", "java/lang/Exception"]) (ic := 77) (sa := adK g 21) (A := A) hx hb hst hown (by decide +kernel) (by decide +kernel) k_3_52 k_1_13 (hG.1.1 ("FaultTests", 147, "what", 21) (List.mem_of_getElem? (i := 0) rfl)) (fun w h => (xw_77 w h).elim (htu w) (hG.1.bad w)) xo_77 hG.2.1.1 hG.2.1.2 hS (hl.1.trans hml.symm) dX7_wire_104 dX7_wire_107 dX7_wire_108 dX7_wire_110 dX7_wire_113 (fun z hz => (hT z hz).elim) (Nat.le_of_ble_eq_true rfl) (Nat.le_of_ble_eq_true rfl) (Nat.le_refl _) (Nat.le_refl _) hlocks (fun t hv hz hq => ⟨(), trivial, ⟨rfl, hP.kept (fun k q h9 => hq q.1 (k_lt hP h9)), va_K.moved hv hK, hD⟩, ⟨Nat.le_trans hS.1 hz, fun q h1 h2 => (hq q (Nat.lt_of_lt_of_le h1 hS.1)).trans (hS.2.1 q h1 h2)⟩⟩) hS.2.2 (Nat.le_refl _) (Nat.le_refl _)
  rw [hH, hlo] at hW
  exact hW
def f_X7_operand (vF : Vs) (vC : Vs) (x1 : Int32) (x2 : Int32) : Option (Nat × Int32) :=
  o1 (f_X7_checkWire vF vC x1) (fun (c1 : Nat) => if c1 = 0 then (jn (some (3, (0 : Int32))) (fun k3 => if x2 < 0 then k3 else gd (inb x1 24) (if x2 < (vC.2.1 5 (x1).toNatClampNeg) then gd (inb ((x1 * (4 : Int32)) + x2) 96) (some (0, (vC.2.1 6 (((x1 * (4 : Int32)) + x2)).toNatClampNeg))) else k3))) else some (c1, (0 : Int32)))
abbrev wsX7_operand : List Cond := .code yX7_operand cX7_operand 3 (some .int) :: UW
abbrev rmX7_operand : Room := { frames := 2, cells := 0, slots := 0, locals := 33 }
set_option maxHeartbeats 4000000 in
set_option maxRecDepth 100000 in
theorem c_X7_operand (l : Launch) (g : Gx) (bF : Nat → Nat) (qF0 : Nat) (qF2 : Nat) (qF3 : Nat) (qF4 : Nat) (vF : Vs) (bS : Nat → Nat) (qS1 : Nat) (bC : Nat → Nat) (vC : Vs) (x1 : Int32) (x2 : Int32) (r : Int32) (hf : f_X7_operand vF vC x1 x2 = some (0, r)) : CtI l yX7_operand wsX7_operand rmX7_operand g [.ref (bF 0), .int x1, .int x2] (cF g bF qF0 (bS 0) qF2 qF3 qF4 vF ++ (cS g bS (bC 0) qS1 ++ (cC g bC vC))) (cF g bF qF0 (bS 0) qF2 qF3 qF4 vF ++ (cS g bS (bC 0) qS1 ++ (cC g bC vC))) r 0 0 := by
  unfold CtI
  intro sz
  refine Met.ofW (cc := cX7_operand) (maxL := 3) (ret := (some .int)) (by decide) rfl ?_
  intro p e s m args below meth c s₁ B hml hv
  obtain ⟨rfl, hsz, hP, hK, hD0, hG⟩ := hv
  have hx := B.exec
  have hb := B.bytes
  have hr := B.returns
  have hts := atoms_spec (ws := wsX7_operand) B.pre
  have hown : s.vm.findClass RX7 = some m.cls := findClass_of_methodNamed B.named
  have hlocks := B.notSynchronized
  subst hsz
  have hD := hD0.self (sz := s.heap.size)
  generalize hAe : va_A (cF g bF qF0 (bS 0) qF2 qF3 qF4 vF ++ (cS g bS (bC 0) qS1 ++ (cC g bC vC))) s.heap.size = A at hD hG ⊢
  have hA : ∀ q : Nat, s.heap.size ≤ q → A q := fun q h => by rw [← hAe]; exact Or.inr h
  clear hAe hD0
  have hS : va_S A s.heap s.heap [] := va_S.rf
  have hl := lv_entry ([.ref (bF 0), .int x1, .int x2]) (n := 3) (Nat.le_of_ble_eq_true rfl)
  rw [lg_entry_eq]
  generalize (lg_sl ([.ref (bF 0), .int x1, .int x2]) ++ List.replicate (3 - (lg_sl ([.ref (bF 0), .int x1, .int x2])).length) Slot.unset).toArray = ls at hl ⊢
  have hl : lv_has ls 3 [(0, .ref (bF 0)), (1, .int x1), (2, .int x2)] := hl
  have htu : ∀ w ∈ UW, w.before _ s = true := fun w h => hts w (List.mem_cons_of_mem _ h)
  have k_2_19 := htu _ mw_2_19
  have k_1_150 := htu _ mw_1_150
  have k_1_72 := htu _ mw_1_72
  have k_1_75 := htu _ mw_1_75
  unfold f_X7_operand at hf
  obtain ⟨H, hH⟩ : ∃ z, z = s.heap := ⟨_, rfl⟩
  obtain ⟨locs, hlo⟩ : ∃ z : List Loc, z = [] := ⟨_, rfl⟩
  have hS : va_S A s.heap H locs := by rw [hH, hlo]; exact hS
  rw [← hH] at hP
  have hW : W p l e (headSpec wsX7_operand rmX7_operand).room s m ([.ref (bF 0), .int x1, .int x2] : List Value).toArray below meth c H locs 0 0 (MQ below (qI g A (cF g bF qF0 (bS 0) qF2 qF3 qF4 vF ++ (cS g bS (bC 0) qS1 ++ (cC g bC vC))) r) ([.ref (bF 0), .int x1, .int x2] : List Value).toArray s 0 0 A) (F0 m 0 ls []) := by
    refine lv_aload_n hx hb dX7_operand_0 rfl (lv_at hl 0 rfl) ?_
    refine lv_iload_n hx hb dX7_operand_1 rfl (lv_at hl 1 rfl) ?_
    obtain ⟨c1, hg2, hf⟩ := o1_at hf
    have hc1 : c1 = 0 := Classical.byContradiction (fun h9 => h9 (kp_2 (it_f hf h9)).1)
    have hf := it_t hf hc1
    rw [hc1] at hg2
    refine k_vvW ⟨hx, hb, hml, hown, htu⟩ hK hP hD hS hA hG (c_X7_checkWire l g bF qF0 qF2 qF3 qF4 vF bS qS1 bC vC x1 hg2) (cwV 1 htu (gU_V mw_3_129 hcX7_checkWire) rfl rfl rfl hdX7_checkWire ⟨Nat.le_of_ble_eq_true rfl, Nat.le_of_ble_eq_true rfl⟩) (q0 := 0) (ci := 7) (fs := fcF bF qF0 (bS 0) qF2 qF3 qF4 vF) (q := (RX7, TX7, 12)) rfl rfl rfl (As := [.int x1]) (rest := []) rfl rfl hl.1 (Nat.le_of_ble_eq_true rfl) dX7_operand_2 (k1 := 0) (n1 := 0) rfl rfl ⟨Nat.zero_le _, Nat.zero_le _⟩ (fun H locs hP hD hS => ?_)
    refine lv_iload_n hx hb dX7_operand_5 rfl (lv_at hl 2 rfl) ?_
    obtain ⟨k3, hk5, hf⟩ := jn_at hf
    have hJ4 : k3 = some (0, r) → ∀ (H : Heap) (locs : List Loc), va_P g.1 vwCl (cF g bF qF0 (bS 0) qF2 qF3 qF4 vF ++ (cS g bS (bC 0) qS1 ++ (cC g bC vC))) H → va_D A (cF g bF qF0 (bS 0) qF2 qF3 qF4 vF ++ (cS g bS (bC 0) qS1 ++ (cC g bC vC))) → va_S A s.heap H locs → ∀ ls : Array Slot, lv_has ls 3 [] → W p l e (headSpec wsX7_operand rmX7_operand).room s m ([.ref (bF 0), .int x1, .int x2] : List Value).toArray below meth c H locs 0 0 (MQ below (qI g A (cF g bF qF0 (bS 0) qF2 qF3 qF4 vF ++ (cS g bS (bC 0) qS1 ++ (cC g bC vC))) r) ([.ref (bF 0), .int x1, .int x2] : List Value).toArray s 0 0 A) (F0 m 25 ls []) := by
      intro hf H locs hP hD hS ls hl
      rw [hk5] at hf
      clear hk5
      exact absurd (kp_2 hf).1 (by decide)
    refine lv_if_lt (tgt := 25) hx hb dX7_operand_6 (by decide) (fun c6 => ?_) (fun c6 => ?_)
    · have hf := it_t hf c6
      exact hJ4 hf H locs hP hD hS _ (lv_sub hl [] rfl)
    · have hf := it_f hf c6
      refine lv_iload_n hx hb dX7_operand_9 rfl (lv_at hl 2 rfl) ?_
      refine lv_aload_n hx hb dX7_operand_10 rfl (lv_at hl 0 rfl) ?_
      refine va_get (D := g.1) (ci := 7) (fs := fcF bF qF0 (bS 0) qF2 qF3 qF4 vF) (v := .ref (bS 0)) (C := RX7) (T := TX7) (N := 12) hx hb htu hinX7 hown hK hP 0 rfl rfl 1 (by decide) k_2_19 (fun _ h9 => h9) rfl dX7_operand_11 ?_
      refine va_get (D := g.1) (ci := 4) (fs := fcS bS (bC 0) qS1) (v := .ref (bC 0)) (C := RX4) (T := TX4) (N := 2) hx hb htu hinX4 hown hK hP 6 rfl rfl 0 (by decide) k_1_150 (fun _ h9 => h9) rfl dX7_operand_14 ?_
      refine va_get (D := g.1) (ci := 0) (fs := fcC bC vC) (v := .ref (bC 6)) (C := RX0) (T := TX0) (N := 14) hx hb htu hinX0 hown hK hP 7 rfl rfl 5 (by decide) k_1_72 (fun _ h9 => h9) rfl dX7_operand_17 ?_
      refine lv_iload_n hx hb dX7_operand_20 rfl (lv_at hl 1 rfl) ?_
      obtain ⟨h7, hf⟩ := gd_in hf
      refine va_iald (D := g.1) (f := (vC.2.1 5)) hx hb hK hP 9 0 rfl rfl h7 dX7_operand_21 ?_
      refine lv_icmp_lt (tgt := 35) hx hb dX7_operand_22 (by decide) (fun c8 => ?_) (fun c8 => ?_)
      · have hf := it_t hf c8
        refine lv_aload_n hx hb dX7_operand_35 rfl (lv_at hl 0 rfl) ?_
        refine va_get (D := g.1) (ci := 7) (fs := fcF bF qF0 (bS 0) qF2 qF3 qF4 vF) (v := .ref (bS 0)) (C := RX7) (T := TX7) (N := 12) hx hb htu hinX7 hown hK hP 0 rfl rfl 1 (by decide) k_2_19 (fun _ h9 => h9) rfl dX7_operand_36 ?_
        refine va_get (D := g.1) (ci := 4) (fs := fcS bS (bC 0) qS1) (v := .ref (bC 0)) (C := RX4) (T := TX4) (N := 2) hx hb htu hinX4 hown hK hP 6 rfl rfl 0 (by decide) k_1_150 (fun _ h9 => h9) rfl dX7_operand_39 ?_
        refine va_get (D := g.1) (ci := 0) (fs := fcC bC vC) (v := .ref (bC 7)) (C := RX0) (T := TX0) (N := 14) hx hb htu hinX0 hown hK hP 7 rfl rfl 6 (by decide) k_1_75 (fun _ h9 => h9) rfl dX7_operand_42 ?_
        refine lv_iload_n hx hb dX7_operand_45 rfl (lv_at hl 1 rfl) ?_
        refine lv_iconst (v := (4 : Int32)) hx hb dX7_operand_46 (by decide) ?_
        refine lv_imul hx hb dX7_operand_47 ?_
        refine lv_iload_n hx hb dX7_operand_48 rfl (lv_at hl 2 rfl) ?_
        refine lv_iadd hx hb dX7_operand_49 ?_
        obtain ⟨h9, hf⟩ := gd_in hf
        refine va_iald (D := g.1) (f := (vC.2.1 6)) hx hb hK hP 10 0 rfl rfl h9 dX7_operand_50 ?_
        obtain ⟨e10, e11⟩ := kp_2 hf
        exact k_iret hx hb hr hlocks hK hP hD hS e11 dX7_operand_51
      · have hf := it_f hf c8
        exact hJ4 hf H locs hP hD hS _ (lv_sub hl [] rfl)
  rw [hH, hlo] at hW
  exact hW
abbrev rtX7_operand : Room := { frames := 9, cells := 1, slots := 6, locals := 141 }
set_option maxHeartbeats 4000000 in
set_option maxRecDepth 100000 in
theorem t_X7_operand (l : Launch) (hst : l.stackTraces = false) (g : Gx) (bF : Nat → Nat) (qF0 : Nat) (qF2 : Nat) (qF3 : Nat) (qF4 : Nat) (vF : Vs) (bS : Nat → Nat) (qS1 : Nat) (bC : Nat → Nat) (vC : Vs) (x1 : Int32) (x2 : Int32) (r : Int32) (ek : Nat) (hf : f_X7_operand vF vC x1 x2 = some (ek, r)) (hek : ¬ ek = 0) : CtXI l yX7_operand wsX7_operand rtX7_operand g [.ref (bF 0), .int x1, .int x2] (cF g bF qF0 (bS 0) qF2 qF3 qF4 vF ++ (cS g bS (bC 0) qS1 ++ (cC g bC vC))) (cF g bF qF0 (bS 0) qF2 qF3 qF4 vF ++ (cS g bS (bC 0) qS1 ++ (cC g bC vC))) (exN ek) 1 6 := by
  unfold CtXI
  intro sz
  refine vx_ofW (cc := cX7_operand) (maxL := 3) (ret := (some .int)) (by decide) rfl ?_
  intro p e s m args below meth c s₁ B hml hT hv
  obtain ⟨rfl, hsz, hP, hK, hD0, hG⟩ := hv
  have hx := B.exec
  have hb := B.bytes
  have hr := B.returns
  have hts := atoms_spec (ws := wsX7_operand) B.pre
  have hown : s.vm.findClass RX7 = some m.cls := findClass_of_methodNamed B.named
  have hlocks := B.notSynchronized
  subst hsz
  have hD := hD0.self (sz := s.heap.size)
  generalize hAe : va_A (cF g bF qF0 (bS 0) qF2 qF3 qF4 vF ++ (cS g bS (bC 0) qS1 ++ (cC g bC vC))) s.heap.size = A at hD hG ⊢
  have hA : ∀ q : Nat, s.heap.size ≤ q → A q := fun q h => by rw [← hAe]; exact Or.inr h
  clear hAe hD0
  have hS : va_S A s.heap s.heap [] := va_S.rf
  have hl := lv_entry ([.ref (bF 0), .int x1, .int x2]) (n := 3) (Nat.le_of_ble_eq_true rfl)
  rw [lg_entry_eq]
  generalize (lg_sl ([.ref (bF 0), .int x1, .int x2]) ++ List.replicate (3 - (lg_sl ([.ref (bF 0), .int x1, .int x2])).length) Slot.unset).toArray = ls at hl ⊢
  have hl : lv_has ls 3 [(0, .ref (bF 0)), (1, .int x1), (2, .int x2)] := hl
  have htu : ∀ w ∈ UW, w.before _ s = true := fun w h => hts w (List.mem_cons_of_mem _ h)
  have k_4_134 := htu _ mw_4_134
  have k_1_23 := htu _ mw_1_23
  have k_2_19 := htu _ mw_2_19
  have k_1_150 := htu _ mw_1_150
  have k_1_72 := htu _ mw_1_72
  have k_1_75 := htu _ mw_1_75
  unfold f_X7_operand at hf
  obtain ⟨H, hH⟩ : ∃ z, z = s.heap := ⟨_, rfl⟩
  obtain ⟨locs, hlo⟩ : ∃ z : List Loc, z = [] := ⟨_, rfl⟩
  have hS : va_S A s.heap H locs := by rw [hH, hlo]; exact hS
  rw [← hH] at hP
  have hW : W p l e (headSpec wsX7_operand rtX7_operand).room s m ([.ref (bF 0), .int x1, .int x2] : List Value).toArray below meth c H locs 0 0 (vx_MQ below (nI0 A) (xE g A (cF g bF qF0 (bS 0) qF2 qF3 qF4 vF ++ (cS g bS (bC 0) qS1 ++ (cC g bC vC))) (exN ek)) ([.ref (bF 0), .int x1, .int x2] : List Value).toArray s 1 6 A) (F0 m 0 ls []) := by
    refine lv_aload_n hx hb dX7_operand_0 rfl (lv_at hl 0 rfl) ?_
    refine lv_iload_n hx hb dX7_operand_1 rfl (lv_at hl 1 rfl) ?_
    obtain ⟨c1, hg2, hf⟩ := o1_at hf
    rcases Classical.em (¬ c1 = 0) with hc1 | hc1
    · have hf := it_f hf hc1
      obtain ⟨rfl, rfl⟩ := kp_2 hf
      exact kx_vvW ⟨hx, hb, hml, hown, htu⟩ hK hP hD hS hA hG (t_X7_checkWire l hst g bF qF0 qF2 qF3 qF4 vF bS qS1 bC vC x1 c1 hg2 hc1) (cwV 1 htu (gU_V mw_3_129 hcX7_checkWire) rfl rfl rfl hdX7_checkWire ⟨Nat.le_of_ble_eq_true rfl, Nat.le_of_ble_eq_true rfl⟩) (q0 := 0) (ci := 7) (fs := fcF bF qF0 (bS 0) qF2 qF3 qF4 vF) (q := (RX7, TX7, 12)) rfl rfl rfl (As := [.int x1]) (rest := []) rfl rfl hl.1 (Nat.le_of_ble_eq_true rfl) dX7_operand_2 ⟨Nat.le_refl _, Nat.le_refl _⟩ ⟨Nat.le_refl _, Nat.le_refl _⟩ hT hlocks
    have hc1 := Classical.not_not.mp hc1
    have hf := it_t hf hc1
    rw [hc1] at hg2
    refine k_vvW ⟨hx, hb, hml, hown, htu⟩ hK hP hD hS hA hG (c_X7_checkWire l g bF qF0 qF2 qF3 qF4 vF bS qS1 bC vC x1 hg2) (cwV 1 htu (gU_V mw_3_129 hcX7_checkWire) rfl rfl rfl hdX7_checkWire ⟨Nat.le_of_ble_eq_true rfl, Nat.le_of_ble_eq_true rfl⟩) (q0 := 0) (ci := 7) (fs := fcF bF qF0 (bS 0) qF2 qF3 qF4 vF) (q := (RX7, TX7, 12)) rfl rfl rfl (As := [.int x1]) (rest := []) rfl rfl hl.1 (Nat.le_of_ble_eq_true rfl) dX7_operand_2 (k1 := 0) (n1 := 0) rfl rfl ⟨Nat.zero_le _, Nat.zero_le _⟩ (fun H locs hP hD hS => ?_)
    refine lv_iload_n hx hb dX7_operand_5 rfl (lv_at hl 2 rfl) ?_
    obtain ⟨k3, hk5, hf⟩ := jn_at hf
    have hJ4 : k3 = some (ek, r) → ∀ (H : Heap) (locs : List Loc), va_P g.1 vwCl (cF g bF qF0 (bS 0) qF2 qF3 qF4 vF ++ (cS g bS (bC 0) qS1 ++ (cC g bC vC))) H → va_D A (cF g bF qF0 (bS 0) qF2 qF3 qF4 vF ++ (cS g bS (bC 0) qS1 ++ (cC g bC vC))) → va_S A s.heap H locs → ∀ ls : Array Slot, lv_has ls 3 [] → W p l e (headSpec wsX7_operand rtX7_operand).room s m ([.ref (bF 0), .int x1, .int x2] : List Value).toArray below meth c H locs 0 0 (vx_MQ below (nI0 A) (xE g A (cF g bF qF0 (bS 0) qF2 qF3 qF4 vF ++ (cS g bS (bC 0) qS1 ++ (cC g bC vC))) (exN ek)) ([.ref (bF 0), .int x1, .int x2] : List Value).toArray s 1 6 A) (F0 m 25 ls []) := by
      intro hf H locs hP hD hS ls hl
      rw [hk5] at hf
      clear hk5
      obtain ⟨rfl, rfl⟩ := kp_2 hf
      exact k_throwN (text := "operand") (sa := adK g 14) hx hb hst hown htu hG hK hP hD (hG.1.1 ("FaultTests", 169, "operand", 14) (List.mem_of_getElem? (i := 1) rfl)) hS (hl.1.trans hml.symm) dX7_operand_25 dX7_operand_28 dX7_operand_29 dX7_operand_31 dX7_operand_34 (fun z hz => (hT z hz).elim) (Nat.le_of_ble_eq_true rfl) (Nat.le_of_ble_eq_true rfl) (Nat.le_refl _) (Nat.le_refl _) hlocks
    refine lv_if_lt (tgt := 25) hx hb dX7_operand_6 (by decide) (fun c6 => ?_) (fun c6 => ?_)
    · have hf := it_t hf c6
      exact hJ4 hf H locs hP hD hS _ (lv_sub hl [] rfl)
    · have hf := it_f hf c6
      refine lv_iload_n hx hb dX7_operand_9 rfl (lv_at hl 2 rfl) ?_
      refine lv_aload_n hx hb dX7_operand_10 rfl (lv_at hl 0 rfl) ?_
      refine va_get (D := g.1) (ci := 7) (fs := fcF bF qF0 (bS 0) qF2 qF3 qF4 vF) (v := .ref (bS 0)) (C := RX7) (T := TX7) (N := 12) hx hb htu hinX7 hown hK hP 0 rfl rfl 1 (by decide) k_2_19 (fun _ h9 => h9) rfl dX7_operand_11 ?_
      refine va_get (D := g.1) (ci := 4) (fs := fcS bS (bC 0) qS1) (v := .ref (bC 0)) (C := RX4) (T := TX4) (N := 2) hx hb htu hinX4 hown hK hP 6 rfl rfl 0 (by decide) k_1_150 (fun _ h9 => h9) rfl dX7_operand_14 ?_
      refine va_get (D := g.1) (ci := 0) (fs := fcC bC vC) (v := .ref (bC 6)) (C := RX0) (T := TX0) (N := 14) hx hb htu hinX0 hown hK hP 7 rfl rfl 5 (by decide) k_1_72 (fun _ h9 => h9) rfl dX7_operand_17 ?_
      refine lv_iload_n hx hb dX7_operand_20 rfl (lv_at hl 1 rfl) ?_
      obtain ⟨h7, hf⟩ := gd_in hf
      refine va_iald (D := g.1) (f := (vC.2.1 5)) hx hb hK hP 9 0 rfl rfl h7 dX7_operand_21 ?_
      refine lv_icmp_lt (tgt := 35) hx hb dX7_operand_22 (by decide) (fun c8 => ?_) (fun c8 => ?_)
      · have hf := it_t hf c8
        refine lv_aload_n hx hb dX7_operand_35 rfl (lv_at hl 0 rfl) ?_
        refine va_get (D := g.1) (ci := 7) (fs := fcF bF qF0 (bS 0) qF2 qF3 qF4 vF) (v := .ref (bS 0)) (C := RX7) (T := TX7) (N := 12) hx hb htu hinX7 hown hK hP 0 rfl rfl 1 (by decide) k_2_19 (fun _ h9 => h9) rfl dX7_operand_36 ?_
        refine va_get (D := g.1) (ci := 4) (fs := fcS bS (bC 0) qS1) (v := .ref (bC 0)) (C := RX4) (T := TX4) (N := 2) hx hb htu hinX4 hown hK hP 6 rfl rfl 0 (by decide) k_1_150 (fun _ h9 => h9) rfl dX7_operand_39 ?_
        refine va_get (D := g.1) (ci := 0) (fs := fcC bC vC) (v := .ref (bC 7)) (C := RX0) (T := TX0) (N := 14) hx hb htu hinX0 hown hK hP 7 rfl rfl 6 (by decide) k_1_75 (fun _ h9 => h9) rfl dX7_operand_42 ?_
        refine lv_iload_n hx hb dX7_operand_45 rfl (lv_at hl 1 rfl) ?_
        refine lv_iconst (v := (4 : Int32)) hx hb dX7_operand_46 (by decide) ?_
        refine lv_imul hx hb dX7_operand_47 ?_
        refine lv_iload_n hx hb dX7_operand_48 rfl (lv_at hl 2 rfl) ?_
        refine lv_iadd hx hb dX7_operand_49 ?_
        obtain ⟨h9, hf⟩ := gd_in hf
        refine va_iald (D := g.1) (f := (vC.2.1 6)) hx hb hK hP 10 0 rfl rfl h9 dX7_operand_50 ?_
        exact absurd (kp_2 hf).1.symm hek
      · have hf := it_f hf c8
        exact hJ4 hf H locs hP hD hS _ (lv_sub hl [] rfl)
  rw [hH, hlo] at hW
  exact hW
def f_X7_value (vF : Vs) (vC : Vs) (vT : Vs) (nRT : Nat) (vRT : Vs) (vG : Vs) (vB : Vs) (x1 : Int32) (x2 : Int32) : Option (Nat × Int32 × Vs × Vs × Vs × Vs) :=
  o1 (f_X7_checkTest vF vT x1) (fun (c1 : Nat) => if c1 = 0 then (o1 (f_X7_checkWire vF vC x2) (fun (c3 : Nat) => if c3 = 0 then (o4 (f_X7_refreshTestRows vF vC vT nRT vRT vG vB) (fun (vF_5 : Vs) (vRT_6 : Vs) (vG_7 : Vs) (vB_8 : Vs) => o1 (f_X2_lane vG_7 x2 x1) (fun (r10 : Int32) => some (0, r10, vF_5, vRT_6, vG_7, vB_8)))) else some (c3, (0 : Int32), vF, vRT, vG, vB))) else some (c1, (0 : Int32), vF, vRT, vG, vB))
abbrev wsX7_value : List Cond := .code yX7_value cX7_value 3 (some .int) :: UW
abbrev rmX7_value : Room := { frames := 4, cells := 0, slots := 0, locals := 104 }
set_option maxHeartbeats 4000000 in
set_option maxRecDepth 100000 in
theorem c_X7_value (l : Launch) (g : Gx) (bF : Nat → Nat) (qF0 : Nat) (qF2 : Nat) (qF3 : Nat) (vF : Vs) (bS : Nat → Nat) (bC : Nat → Nat) (vC : Vs) (bT : Nat → Nat) (vT : Vs) (bRT : Nat → Nat) (nRT : Nat) (vRT : Vs) (bG : Nat → Nat) (vG : Vs) (bB : Nat → Nat) (vB : Vs) (x1 : Int32) (x2 : Int32) (r : Int32) (vF1 : Vs) (vRT1 : Vs) (vG1 : Vs) (vB1 : Vs) (hf : f_X7_value vF vC vT nRT vRT vG vB x1 x2 = some (0, r, vF1, vRT1, vG1, vB1)) : CtI l yX7_value wsX7_value rmX7_value g [.ref (bF 0), .int x1, .int x2] (cF g bF qF0 (bS 0) qF2 qF3 (bRT 0) vF ++ (cS g bS (bC 0) (bT 0) ++ (cC g bC vC ++ (cT g bT vT ++ (cR g bRT nRT (bG 0) (bB 0) vRT ++ (cL g bG vG ++ (cL g bB vB))))))) (cF g bF qF0 (bS 0) qF2 qF3 (bRT 0) vF1 ++ (cS g bS (bC 0) (bT 0) ++ (cC g bC vC ++ (cT g bT vT ++ (cR g bRT nRT (bG 0) (bB 0) vRT1 ++ (cL g bG vG1 ++ (cL g bB vB1))))))) r 0 0 := by
  unfold CtI
  intro sz
  refine Met.ofW (cc := cX7_value) (maxL := 3) (ret := (some .int)) (by decide) rfl ?_
  intro p e s m args below meth c s₁ B hml hv
  obtain ⟨rfl, hsz, hP, hK, hD0, hG⟩ := hv
  have hx := B.exec
  have hb := B.bytes
  have hr := B.returns
  have hts := atoms_spec (ws := wsX7_value) B.pre
  have hown : s.vm.findClass RX7 = some m.cls := findClass_of_methodNamed B.named
  have hlocks := B.notSynchronized
  subst hsz
  have hD := hD0.self (sz := s.heap.size)
  generalize hAe : va_A (cF g bF qF0 (bS 0) qF2 qF3 (bRT 0) vF ++ (cS g bS (bC 0) (bT 0) ++ (cC g bC vC ++ (cT g bT vT ++ (cR g bRT nRT (bG 0) (bB 0) vRT ++ (cL g bG vG ++ (cL g bB vB))))))) s.heap.size = A at hD hG ⊢
  have hA : ∀ q : Nat, s.heap.size ≤ q → A q := fun q h => by rw [← hAe]; exact Or.inr h
  clear hAe hD0
  have hS : va_S A s.heap s.heap [] := va_S.rf
  have hl := lv_entry ([.ref (bF 0), .int x1, .int x2]) (n := 3) (Nat.le_of_ble_eq_true rfl)
  rw [lg_entry_eq]
  generalize (lg_sl ([.ref (bF 0), .int x1, .int x2]) ++ List.replicate (3 - (lg_sl ([.ref (bF 0), .int x1, .int x2])).length) Slot.unset).toArray = ls at hl ⊢
  have hl : lv_has ls 3 [(0, .ref (bF 0)), (1, .int x1), (2, .int x2)] := hl
  have htu : ∀ w ∈ UW, w.before _ s = true := fun w h => hts w (List.mem_cons_of_mem _ h)
  have k_2_22 := htu _ mw_2_22
  have k_1_239 := htu _ mw_1_239
  unfold f_X7_value at hf
  obtain ⟨H, hH⟩ : ∃ z, z = s.heap := ⟨_, rfl⟩
  obtain ⟨locs, hlo⟩ : ∃ z : List Loc, z = [] := ⟨_, rfl⟩
  have hS : va_S A s.heap H locs := by rw [hH, hlo]; exact hS
  rw [← hH] at hP
  have hW : W p l e (headSpec wsX7_value rmX7_value).room s m ([.ref (bF 0), .int x1, .int x2] : List Value).toArray below meth c H locs 0 0 (MQ below (qI g A (cF g bF qF0 (bS 0) qF2 qF3 (bRT 0) vF1 ++ (cS g bS (bC 0) (bT 0) ++ (cC g bC vC ++ (cT g bT vT ++ (cR g bRT nRT (bG 0) (bB 0) vRT1 ++ (cL g bG vG1 ++ (cL g bB vB1))))))) r) ([.ref (bF 0), .int x1, .int x2] : List Value).toArray s 0 0 A) (F0 m 0 ls []) := by
    refine lv_aload_n hx hb dX7_value_0 rfl (lv_at hl 0 rfl) ?_
    refine lv_iload_n hx hb dX7_value_1 rfl (lv_at hl 1 rfl) ?_
    obtain ⟨c1, hg2, hf⟩ := o1_at hf
    have hc1 : c1 = 0 := Classical.byContradiction (fun h9 => h9 (kp_6 (it_f hf h9)).1)
    have hf := it_t hf hc1
    rw [hc1] at hg2
    refine k_vvP ⟨hx, hb, hml, hown, htu⟩ hK hP hD hS hA hG (c_X7_checkTest l g bF qF0 qF2 qF3 (bRT 0) vF bS (bC 0) bT vT x1 hg2) (cwV 1 htu (gU_V mw_4_157 hcX7_checkTest) rfl rfl rfl hdX7_checkTest ⟨Nat.le_of_ble_eq_true rfl, Nat.le_of_ble_eq_true rfl⟩) (q0 := 0) (ci := 7) (fs := fcF bF qF0 (bS 0) qF2 qF3 (bRT 0) vF) (q := (RX7, TX7, 12)) rfl rfl rfl (wr := (cC g bC vC ++ (cR g bRT nRT (bG 0) (bB 0) vRT ++ (cL g bG vG ++ (cL g bB vB))))) (w2 := cF g bF qF0 (bS 0) qF2 qF3 (bRT 0) vF ++ (cS g bS (bC 0) (bT 0) ++ (cC g bC vC ++ (cT g bT vT ++ (cR g bRT nRT (bG 0) (bB 0) vRT ++ (cL g bG vG ++ (cL g bB vB))))))) [0, 1, 2, 3, 4, 5, 6, 18, 19, 20, 21, 22] [7, 8, 9, 10, 11, 12, 13, 14, 15, 16, 17, 23, 24, 25, 26, 27, 28, 29, 30, 31] [20, 21, 22, 23, 24, 25, 26, 0, 1, 2, 3, 4, 5, 6, 7, 8, 9, 10, 27, 28, 29, 30, 31, 11, 12, 13, 14, 15, 16, 17, 18, 19] rfl rfl (by decide) (by decide) (by decide) rfl rfl (by decide) (As := [.int x1]) (rest := []) rfl rfl hl.1 (Nat.le_of_ble_eq_true rfl) dX7_value_2 (k1 := 0) (n1 := 0) rfl rfl ⟨Nat.zero_le _, Nat.zero_le _⟩ (fun H locs hP hD hS => ?_)
    refine lv_aload_n hx hb dX7_value_5 rfl (lv_at hl 0 rfl) ?_
    refine lv_iload_n hx hb dX7_value_6 rfl (lv_at hl 2 rfl) ?_
    obtain ⟨c3, hg4, hf⟩ := o1_at hf
    have hc3 : c3 = 0 := Classical.byContradiction (fun h9 => h9 (kp_6 (it_f hf h9)).1)
    have hf := it_t hf hc3
    rw [hc3] at hg4
    refine k_vvP ⟨hx, hb, hml, hown, htu⟩ hK hP hD hS hA hG (c_X7_checkWire l g bF qF0 qF2 qF3 (bRT 0) vF bS (bT 0) bC vC x2 hg4) (cwV 1 htu (gU_V mw_3_129 hcX7_checkWire) rfl rfl rfl hdX7_checkWire ⟨Nat.le_of_ble_eq_true rfl, Nat.le_of_ble_eq_true rfl⟩) (q0 := 0) (ci := 7) (fs := fcF bF qF0 (bS 0) qF2 qF3 (bRT 0) vF) (q := (RX7, TX7, 12)) rfl rfl rfl (wr := (cT g bT vT ++ (cR g bRT nRT (bG 0) (bB 0) vRT ++ (cL g bG vG ++ (cL g bB vB))))) (w2 := cF g bF qF0 (bS 0) qF2 qF3 (bRT 0) vF ++ (cS g bS (bC 0) (bT 0) ++ (cC g bC vC ++ (cT g bT vT ++ (cR g bRT nRT (bG 0) (bB 0) vRT ++ (cL g bG vG ++ (cL g bB vB))))))) [0, 1, 2, 3, 4, 5, 6, 7, 8, 9, 10, 11, 12, 13, 14, 15, 16, 17] [18, 19, 20, 21, 22, 23, 24, 25, 26, 27, 28, 29, 30, 31] [14, 15, 16, 17, 18, 19, 20, 21, 22, 23, 24, 25, 26, 27, 28, 29, 30, 31, 0, 1, 2, 3, 4, 5, 6, 7, 8, 9, 10, 11, 12, 13] rfl rfl (by decide) (by decide) (by decide) rfl rfl (by decide) (As := [.int x2]) (rest := []) rfl rfl hl.1 (Nat.le_of_ble_eq_true rfl) dX7_value_7 (k1 := 0) (n1 := 0) rfl rfl ⟨Nat.zero_le _, Nat.zero_le _⟩ (fun H locs hP hD hS => ?_)
    refine lv_aload_n hx hb dX7_value_10 rfl (lv_at hl 0 rfl) ?_
    obtain ⟨vF_5, vRT_6, vG_7, vB_8, hg9, hf⟩ := o4_at hf
    refine k_vvW ⟨hx, hb, hml, hown, htu⟩ hK hP hD hS hA hG (c_X7_refreshTestRows l g bF qF0 qF2 qF3 vF bS bC vC bT vT bRT nRT vRT bG vG bB vB vF_5 vRT_6 vG_7 vB_8 hg9) (cwV 0 htu (gU_V mw_2_157 hcX7_refreshTestRows) rfl rfl rfl hdX7_refreshTestRows ⟨Nat.le_of_ble_eq_true rfl, Nat.le_of_ble_eq_true rfl⟩) (q0 := 0) (ci := 7) (fs := fcF bF qF0 (bS 0) qF2 qF3 (bRT 0) vF) (q := (RX7, TX7, 12)) rfl rfl rfl (As := []) (rest := []) rfl rfl hl.1 (Nat.le_of_ble_eq_true rfl) dX7_value_11 (k1 := 0) (n1 := 0) rfl rfl ⟨Nat.zero_le _, Nat.zero_le _⟩ (fun H locs hP hD hS => ?_)
    refine lv_aload_n hx hb dX7_value_14 rfl (lv_at hl 0 rfl) ?_
    refine va_get (D := g.1) (ci := 7) (fs := fcF bF qF0 (bS 0) qF2 qF3 (bRT 0) vF_5) (v := .ref (bRT 0)) (C := RX7) (T := TX7) (N := 12) hx hb htu hinX7 hown hK hP 0 rfl rfl 4 (by decide) k_2_22 (fun _ h9 => h9) rfl dX7_value_15 ?_
    refine va_get (D := g.1) (ci := 3) (fs := fcR bRT (bG 0) (bB 0) vRT_6) (v := .ref (bG 0)) (C := RX3) (T := TX3) (N := 5) hx hb htu hinX3 hown hK hP 23 rfl rfl 0 (by decide) k_1_239 (fun _ h9 => h9) rfl dX7_value_18 ?_
    refine lv_iload_n hx hb dX7_value_21 rfl (lv_at hl 2 rfl) ?_
    refine lv_iload_n hx hb dX7_value_22 rfl (lv_at hl 1 rfl) ?_
    obtain ⟨r10, hg11, hf⟩ := o1_at hf
    refine k_viP ⟨hx, hb, hml, hown, htu⟩ hK hP hD hS hA hG (c_X2_lane l g bG vG_7 x2 x1 r10 hg11) (cwV 2 htu (gU_V mw_3_157 hcX2_lane) rfl rfl rfl hdX2_lane ⟨Nat.le_of_ble_eq_true rfl, Nat.le_of_ble_eq_true rfl⟩) (q0 := 26) (ci := 2) (fs := fcL bG vG_7) (q := (RX2, TX2, 2)) rfl rfl rfl (wr := (cF g bF qF0 (bS 0) qF2 qF3 (bRT 0) vF_5 ++ (cS g bS (bC 0) (bT 0) ++ (cC g bC vC ++ (cT g bT vT ++ (cR g bRT nRT (bG 0) (bB 0) vRT_6 ++ (cL g bB vB_8))))))) (w2 := cF g bF qF0 (bS 0) qF2 qF3 (bRT 0) vF_5 ++ (cS g bS (bC 0) (bT 0) ++ (cC g bC vC ++ (cT g bT vT ++ (cR g bRT nRT (bG 0) (bB 0) vRT_6 ++ (cL g bG vG_7 ++ (cL g bB vB_8))))))) [26, 27, 28] [0, 1, 2, 3, 4, 5, 6, 7, 8, 9, 10, 11, 12, 13, 14, 15, 16, 17, 18, 19, 20, 21, 22, 23, 24, 25, 29, 30, 31] [0, 1, 2, 3, 4, 5, 6, 7, 8, 9, 10, 11, 12, 13, 14, 15, 16, 17, 18, 19, 20, 21, 22, 23, 24, 25, 29, 30, 31, 26, 27, 28] rfl rfl (by decide) (by decide) (by decide) rfl rfl (by decide) (As := [.int x2, .int x1]) (rest := []) rfl rfl hl.1 (Nat.le_of_ble_eq_true rfl) dX7_value_23 (k1 := 0) (n1 := 0) rfl rfl ⟨Nat.zero_le _, Nat.zero_le _⟩ (fun H locs hP hD hS => ?_)
    obtain ⟨e12, e13, e14, e15, e16, e17⟩ := kp_6 hf
    rw [e14] at hP hD
    rw [e15] at hP hD
    rw [e16] at hP hD
    rw [e17] at hP hD
    exact k_iret hx hb hr hlocks hK hP hD hS e13 dX7_value_26
  rw [hH, hlo] at hW
  exact hW
abbrev rtX7_value : Room := { frames := 9, cells := 1, slots := 6, locals := 141 }
set_option maxHeartbeats 4000000 in
set_option maxRecDepth 100000 in
theorem t_X7_value (l : Launch) (hst : l.stackTraces = false) (g : Gx) (bF : Nat → Nat) (qF0 : Nat) (qF2 : Nat) (qF3 : Nat) (vF : Vs) (bS : Nat → Nat) (bC : Nat → Nat) (vC : Vs) (bT : Nat → Nat) (vT : Vs) (bRT : Nat → Nat) (nRT : Nat) (vRT : Vs) (bG : Nat → Nat) (vG : Vs) (bB : Nat → Nat) (vB : Vs) (x1 : Int32) (x2 : Int32) (r : Int32) (vF1 : Vs) (vRT1 : Vs) (vG1 : Vs) (vB1 : Vs) (ek : Nat) (hf : f_X7_value vF vC vT nRT vRT vG vB x1 x2 = some (ek, r, vF1, vRT1, vG1, vB1)) (hek : ¬ ek = 0) : CtXI l yX7_value wsX7_value rtX7_value g [.ref (bF 0), .int x1, .int x2] (cF g bF qF0 (bS 0) qF2 qF3 (bRT 0) vF ++ (cS g bS (bC 0) (bT 0) ++ (cC g bC vC ++ (cT g bT vT ++ (cR g bRT nRT (bG 0) (bB 0) vRT ++ (cL g bG vG ++ (cL g bB vB))))))) (cF g bF qF0 (bS 0) qF2 qF3 (bRT 0) vF1 ++ (cS g bS (bC 0) (bT 0) ++ (cC g bC vC ++ (cT g bT vT ++ (cR g bRT nRT (bG 0) (bB 0) vRT1 ++ (cL g bG vG1 ++ (cL g bB vB1))))))) (exN ek) 1 6 := by
  unfold CtXI
  intro sz
  refine vx_ofW (cc := cX7_value) (maxL := 3) (ret := (some .int)) (by decide) rfl ?_
  intro p e s m args below meth c s₁ B hml hT hv
  obtain ⟨rfl, hsz, hP, hK, hD0, hG⟩ := hv
  have hx := B.exec
  have hb := B.bytes
  have hr := B.returns
  have hts := atoms_spec (ws := wsX7_value) B.pre
  have hown : s.vm.findClass RX7 = some m.cls := findClass_of_methodNamed B.named
  have hlocks := B.notSynchronized
  subst hsz
  have hD := hD0.self (sz := s.heap.size)
  generalize hAe : va_A (cF g bF qF0 (bS 0) qF2 qF3 (bRT 0) vF ++ (cS g bS (bC 0) (bT 0) ++ (cC g bC vC ++ (cT g bT vT ++ (cR g bRT nRT (bG 0) (bB 0) vRT ++ (cL g bG vG ++ (cL g bB vB))))))) s.heap.size = A at hD hG ⊢
  have hA : ∀ q : Nat, s.heap.size ≤ q → A q := fun q h => by rw [← hAe]; exact Or.inr h
  clear hAe hD0
  have hS : va_S A s.heap s.heap [] := va_S.rf
  have hl := lv_entry ([.ref (bF 0), .int x1, .int x2]) (n := 3) (Nat.le_of_ble_eq_true rfl)
  rw [lg_entry_eq]
  generalize (lg_sl ([.ref (bF 0), .int x1, .int x2]) ++ List.replicate (3 - (lg_sl ([.ref (bF 0), .int x1, .int x2])).length) Slot.unset).toArray = ls at hl ⊢
  have hl : lv_has ls 3 [(0, .ref (bF 0)), (1, .int x1), (2, .int x2)] := hl
  have htu : ∀ w ∈ UW, w.before _ s = true := fun w h => hts w (List.mem_cons_of_mem _ h)
  have k_2_22 := htu _ mw_2_22
  have k_1_239 := htu _ mw_1_239
  unfold f_X7_value at hf
  obtain ⟨H, hH⟩ : ∃ z, z = s.heap := ⟨_, rfl⟩
  obtain ⟨locs, hlo⟩ : ∃ z : List Loc, z = [] := ⟨_, rfl⟩
  have hS : va_S A s.heap H locs := by rw [hH, hlo]; exact hS
  rw [← hH] at hP
  have hW : W p l e (headSpec wsX7_value rtX7_value).room s m ([.ref (bF 0), .int x1, .int x2] : List Value).toArray below meth c H locs 0 0 (vx_MQ below (nI0 A) (xE g A (cF g bF qF0 (bS 0) qF2 qF3 (bRT 0) vF1 ++ (cS g bS (bC 0) (bT 0) ++ (cC g bC vC ++ (cT g bT vT ++ (cR g bRT nRT (bG 0) (bB 0) vRT1 ++ (cL g bG vG1 ++ (cL g bB vB1))))))) (exN ek)) ([.ref (bF 0), .int x1, .int x2] : List Value).toArray s 1 6 A) (F0 m 0 ls []) := by
    refine lv_aload_n hx hb dX7_value_0 rfl (lv_at hl 0 rfl) ?_
    refine lv_iload_n hx hb dX7_value_1 rfl (lv_at hl 1 rfl) ?_
    obtain ⟨c1, hg2, hf⟩ := o1_at hf
    rcases Classical.em (¬ c1 = 0) with hc1 | hc1
    · have hf := it_f hf hc1
      obtain ⟨rfl, rfl, rfl, rfl, rfl, rfl⟩ := kp_6 hf
      exact kx_vvP ⟨hx, hb, hml, hown, htu⟩ hK hP hD hS hA hG (t_X7_checkTest l hst g bF qF0 qF2 qF3 (bRT 0) vF bS (bC 0) bT vT x1 c1 hg2 hc1) (cwV 1 htu (gU_V mw_4_157 hcX7_checkTest) rfl rfl rfl hdX7_checkTest ⟨Nat.le_of_ble_eq_true rfl, Nat.le_of_ble_eq_true rfl⟩) (q0 := 0) (ci := 7) (fs := fcF bF qF0 (bS 0) qF2 qF3 (bRT 0) vF) (q := (RX7, TX7, 12)) rfl rfl rfl (wr := (cC g bC vC ++ (cR g bRT nRT (bG 0) (bB 0) vRT ++ (cL g bG vG ++ (cL g bB vB))))) (w2 := cF g bF qF0 (bS 0) qF2 qF3 (bRT 0) vF ++ (cS g bS (bC 0) (bT 0) ++ (cC g bC vC ++ (cT g bT vT ++ (cR g bRT nRT (bG 0) (bB 0) vRT ++ (cL g bG vG ++ (cL g bB vB))))))) [0, 1, 2, 3, 4, 5, 6, 18, 19, 20, 21, 22] [7, 8, 9, 10, 11, 12, 13, 14, 15, 16, 17, 23, 24, 25, 26, 27, 28, 29, 30, 31] [20, 21, 22, 23, 24, 25, 26, 0, 1, 2, 3, 4, 5, 6, 7, 8, 9, 10, 27, 28, 29, 30, 31, 11, 12, 13, 14, 15, 16, 17, 18, 19] rfl rfl (by decide) (by decide) (by decide) rfl rfl (by decide) (As := [.int x1]) (rest := []) rfl rfl hl.1 (Nat.le_of_ble_eq_true rfl) dX7_value_2 ⟨Nat.le_refl _, Nat.le_refl _⟩ ⟨Nat.le_refl _, Nat.le_refl _⟩ hT hlocks
    have hc1 := Classical.not_not.mp hc1
    have hf := it_t hf hc1
    rw [hc1] at hg2
    refine k_vvP ⟨hx, hb, hml, hown, htu⟩ hK hP hD hS hA hG (c_X7_checkTest l g bF qF0 qF2 qF3 (bRT 0) vF bS (bC 0) bT vT x1 hg2) (cwV 1 htu (gU_V mw_4_157 hcX7_checkTest) rfl rfl rfl hdX7_checkTest ⟨Nat.le_of_ble_eq_true rfl, Nat.le_of_ble_eq_true rfl⟩) (q0 := 0) (ci := 7) (fs := fcF bF qF0 (bS 0) qF2 qF3 (bRT 0) vF) (q := (RX7, TX7, 12)) rfl rfl rfl (wr := (cC g bC vC ++ (cR g bRT nRT (bG 0) (bB 0) vRT ++ (cL g bG vG ++ (cL g bB vB))))) (w2 := cF g bF qF0 (bS 0) qF2 qF3 (bRT 0) vF ++ (cS g bS (bC 0) (bT 0) ++ (cC g bC vC ++ (cT g bT vT ++ (cR g bRT nRT (bG 0) (bB 0) vRT ++ (cL g bG vG ++ (cL g bB vB))))))) [0, 1, 2, 3, 4, 5, 6, 18, 19, 20, 21, 22] [7, 8, 9, 10, 11, 12, 13, 14, 15, 16, 17, 23, 24, 25, 26, 27, 28, 29, 30, 31] [20, 21, 22, 23, 24, 25, 26, 0, 1, 2, 3, 4, 5, 6, 7, 8, 9, 10, 27, 28, 29, 30, 31, 11, 12, 13, 14, 15, 16, 17, 18, 19] rfl rfl (by decide) (by decide) (by decide) rfl rfl (by decide) (As := [.int x1]) (rest := []) rfl rfl hl.1 (Nat.le_of_ble_eq_true rfl) dX7_value_2 (k1 := 0) (n1 := 0) rfl rfl ⟨Nat.zero_le _, Nat.zero_le _⟩ (fun H locs hP hD hS => ?_)
    refine lv_aload_n hx hb dX7_value_5 rfl (lv_at hl 0 rfl) ?_
    refine lv_iload_n hx hb dX7_value_6 rfl (lv_at hl 2 rfl) ?_
    obtain ⟨c3, hg4, hf⟩ := o1_at hf
    rcases Classical.em (¬ c3 = 0) with hc3 | hc3
    · have hf := it_f hf hc3
      obtain ⟨rfl, rfl, rfl, rfl, rfl, rfl⟩ := kp_6 hf
      exact kx_vvP ⟨hx, hb, hml, hown, htu⟩ hK hP hD hS hA hG (t_X7_checkWire l hst g bF qF0 qF2 qF3 (bRT 0) vF bS (bT 0) bC vC x2 c3 hg4 hc3) (cwV 1 htu (gU_V mw_3_129 hcX7_checkWire) rfl rfl rfl hdX7_checkWire ⟨Nat.le_of_ble_eq_true rfl, Nat.le_of_ble_eq_true rfl⟩) (q0 := 0) (ci := 7) (fs := fcF bF qF0 (bS 0) qF2 qF3 (bRT 0) vF) (q := (RX7, TX7, 12)) rfl rfl rfl (wr := (cT g bT vT ++ (cR g bRT nRT (bG 0) (bB 0) vRT ++ (cL g bG vG ++ (cL g bB vB))))) (w2 := cF g bF qF0 (bS 0) qF2 qF3 (bRT 0) vF ++ (cS g bS (bC 0) (bT 0) ++ (cC g bC vC ++ (cT g bT vT ++ (cR g bRT nRT (bG 0) (bB 0) vRT ++ (cL g bG vG ++ (cL g bB vB))))))) [0, 1, 2, 3, 4, 5, 6, 7, 8, 9, 10, 11, 12, 13, 14, 15, 16, 17] [18, 19, 20, 21, 22, 23, 24, 25, 26, 27, 28, 29, 30, 31] [14, 15, 16, 17, 18, 19, 20, 21, 22, 23, 24, 25, 26, 27, 28, 29, 30, 31, 0, 1, 2, 3, 4, 5, 6, 7, 8, 9, 10, 11, 12, 13] rfl rfl (by decide) (by decide) (by decide) rfl rfl (by decide) (As := [.int x2]) (rest := []) rfl rfl hl.1 (Nat.le_of_ble_eq_true rfl) dX7_value_7 ⟨Nat.le_refl _, Nat.le_refl _⟩ ⟨Nat.le_refl _, Nat.le_refl _⟩ hT hlocks
    have hc3 := Classical.not_not.mp hc3
    have hf := it_t hf hc3
    rw [hc3] at hg4
    refine k_vvP ⟨hx, hb, hml, hown, htu⟩ hK hP hD hS hA hG (c_X7_checkWire l g bF qF0 qF2 qF3 (bRT 0) vF bS (bT 0) bC vC x2 hg4) (cwV 1 htu (gU_V mw_3_129 hcX7_checkWire) rfl rfl rfl hdX7_checkWire ⟨Nat.le_of_ble_eq_true rfl, Nat.le_of_ble_eq_true rfl⟩) (q0 := 0) (ci := 7) (fs := fcF bF qF0 (bS 0) qF2 qF3 (bRT 0) vF) (q := (RX7, TX7, 12)) rfl rfl rfl (wr := (cT g bT vT ++ (cR g bRT nRT (bG 0) (bB 0) vRT ++ (cL g bG vG ++ (cL g bB vB))))) (w2 := cF g bF qF0 (bS 0) qF2 qF3 (bRT 0) vF ++ (cS g bS (bC 0) (bT 0) ++ (cC g bC vC ++ (cT g bT vT ++ (cR g bRT nRT (bG 0) (bB 0) vRT ++ (cL g bG vG ++ (cL g bB vB))))))) [0, 1, 2, 3, 4, 5, 6, 7, 8, 9, 10, 11, 12, 13, 14, 15, 16, 17] [18, 19, 20, 21, 22, 23, 24, 25, 26, 27, 28, 29, 30, 31] [14, 15, 16, 17, 18, 19, 20, 21, 22, 23, 24, 25, 26, 27, 28, 29, 30, 31, 0, 1, 2, 3, 4, 5, 6, 7, 8, 9, 10, 11, 12, 13] rfl rfl (by decide) (by decide) (by decide) rfl rfl (by decide) (As := [.int x2]) (rest := []) rfl rfl hl.1 (Nat.le_of_ble_eq_true rfl) dX7_value_7 (k1 := 0) (n1 := 0) rfl rfl ⟨Nat.zero_le _, Nat.zero_le _⟩ (fun H locs hP hD hS => ?_)
    refine lv_aload_n hx hb dX7_value_10 rfl (lv_at hl 0 rfl) ?_
    obtain ⟨vF_5, vRT_6, vG_7, vB_8, hg9, hf⟩ := o4_at hf
    refine k_vvW ⟨hx, hb, hml, hown, htu⟩ hK hP hD hS hA hG (c_X7_refreshTestRows l g bF qF0 qF2 qF3 vF bS bC vC bT vT bRT nRT vRT bG vG bB vB vF_5 vRT_6 vG_7 vB_8 hg9) (cwV 0 htu (gU_V mw_2_157 hcX7_refreshTestRows) rfl rfl rfl hdX7_refreshTestRows ⟨Nat.le_of_ble_eq_true rfl, Nat.le_of_ble_eq_true rfl⟩) (q0 := 0) (ci := 7) (fs := fcF bF qF0 (bS 0) qF2 qF3 (bRT 0) vF) (q := (RX7, TX7, 12)) rfl rfl rfl (As := []) (rest := []) rfl rfl hl.1 (Nat.le_of_ble_eq_true rfl) dX7_value_11 (k1 := 0) (n1 := 0) rfl rfl ⟨Nat.zero_le _, Nat.zero_le _⟩ (fun H locs hP hD hS => ?_)
    refine lv_aload_n hx hb dX7_value_14 rfl (lv_at hl 0 rfl) ?_
    refine va_get (D := g.1) (ci := 7) (fs := fcF bF qF0 (bS 0) qF2 qF3 (bRT 0) vF_5) (v := .ref (bRT 0)) (C := RX7) (T := TX7) (N := 12) hx hb htu hinX7 hown hK hP 0 rfl rfl 4 (by decide) k_2_22 (fun _ h9 => h9) rfl dX7_value_15 ?_
    refine va_get (D := g.1) (ci := 3) (fs := fcR bRT (bG 0) (bB 0) vRT_6) (v := .ref (bG 0)) (C := RX3) (T := TX3) (N := 5) hx hb htu hinX3 hown hK hP 23 rfl rfl 0 (by decide) k_1_239 (fun _ h9 => h9) rfl dX7_value_18 ?_
    refine lv_iload_n hx hb dX7_value_21 rfl (lv_at hl 2 rfl) ?_
    refine lv_iload_n hx hb dX7_value_22 rfl (lv_at hl 1 rfl) ?_
    obtain ⟨r10, hg11, hf⟩ := o1_at hf
    refine k_viP ⟨hx, hb, hml, hown, htu⟩ hK hP hD hS hA hG (c_X2_lane l g bG vG_7 x2 x1 r10 hg11) (cwV 2 htu (gU_V mw_3_157 hcX2_lane) rfl rfl rfl hdX2_lane ⟨Nat.le_of_ble_eq_true rfl, Nat.le_of_ble_eq_true rfl⟩) (q0 := 26) (ci := 2) (fs := fcL bG vG_7) (q := (RX2, TX2, 2)) rfl rfl rfl (wr := (cF g bF qF0 (bS 0) qF2 qF3 (bRT 0) vF_5 ++ (cS g bS (bC 0) (bT 0) ++ (cC g bC vC ++ (cT g bT vT ++ (cR g bRT nRT (bG 0) (bB 0) vRT_6 ++ (cL g bB vB_8))))))) (w2 := cF g bF qF0 (bS 0) qF2 qF3 (bRT 0) vF_5 ++ (cS g bS (bC 0) (bT 0) ++ (cC g bC vC ++ (cT g bT vT ++ (cR g bRT nRT (bG 0) (bB 0) vRT_6 ++ (cL g bG vG_7 ++ (cL g bB vB_8))))))) [26, 27, 28] [0, 1, 2, 3, 4, 5, 6, 7, 8, 9, 10, 11, 12, 13, 14, 15, 16, 17, 18, 19, 20, 21, 22, 23, 24, 25, 29, 30, 31] [0, 1, 2, 3, 4, 5, 6, 7, 8, 9, 10, 11, 12, 13, 14, 15, 16, 17, 18, 19, 20, 21, 22, 23, 24, 25, 29, 30, 31, 26, 27, 28] rfl rfl (by decide) (by decide) (by decide) rfl rfl (by decide) (As := [.int x2, .int x1]) (rest := []) rfl rfl hl.1 (Nat.le_of_ble_eq_true rfl) dX7_value_23 (k1 := 0) (n1 := 0) rfl rfl ⟨Nat.zero_le _, Nat.zero_le _⟩ (fun H locs hP hD hS => ?_)
    exact absurd (kp_6 hf).1.symm hek
  rw [hH, hlo] at hW
  exact hW
