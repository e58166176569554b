def f_X7_hidden_L19 (vC : Vs) (nRF : Nat) (vF_1 : Vs) (vRF_2 : Vs) (vGF_3 : Vs) (vBF_4 : Vs) (r6 : Int32) (self10 : Int32 → Int32 → Option (Int32 × Vs × Vs × Vs × Vs)) (x2_8 : Int32) (x3_9 : Int32) : Option (Int32 × Vs × Vs × Vs × Vs) :=
  if r6 ≤ x3_9 then some (x2_8, vF_1, vRF_2, vGF_3, vBF_4) else o1 (f_X3_firstApart nRF vRF_2 vC (-1 : Int32) x3_9) (fun (r19 : Int32) => jn (fun (x2_21 : Int32) => self10 x2_21 (x3_9 + (1 : Int32))) (fun k22 => if 0 ≤ r19 then k22 x2_8 else k22 (x2_8 + (1 : Int32))))
def f_X7_hidden (vF : Vs) (vC : Vs) (nRF : Nat) (vRF : Vs) (vGF : Vs) (vBF : Vs) : Option (Int32 × Vs × Vs × Vs × Vs) :=
  o4 (f_X7_refreshFullRows vF vC nRF vRF vGF vBF) (fun (vF_1 : Vs) (vRF_2 : Vs) (vGF_3 : Vs) (vBF_4 : Vs) => o1 (f_X0_faultCount vC) (fun (r6 : Int32) => lp (f_X7_hidden_L19 vC nRF vF_1 vRF_2 vGF_3 vBF_4 r6) (fun _ _ => none) FU (0 : Int32) (0 : Int32)))
abbrev wsX7_hidden : List Cond := .code yX7_hidden cX7_hidden 4 (some .int) :: UW
abbrev rmX7_hidden : Room := { frames := 4, cells := 0, slots := 0, locals := 106 }
set_option maxHeartbeats 4000000 in
set_option maxRecDepth 100000 in
theorem c_X7_hidden (l : Launch) (g : Gx) (bF : Nat → Nat) (qF0 : Nat) (qF2 : Nat) (qF4 : Nat) (vF : Vs) (bS : Nat → Nat) (qS1 : Nat) (bC : Nat → Nat) (vC : Vs) (bRF : Nat → Nat) (nRF : Nat) (vRF : Vs) (bGF : Nat → Nat) (vGF : Vs) (bBF : Nat → Nat) (vBF : Vs) (r : Int32) (vF1 : Vs) (vRF1 : Vs) (vGF1 : Vs) (vBF1 : Vs) (hf : f_X7_hidden vF vC nRF vRF vGF vBF = some (r, vF1, vRF1, vGF1, vBF1)) : CtI l yX7_hidden wsX7_hidden rmX7_hidden g [.ref (bF 0)] (cF g bF qF0 (bS 0) qF2 (bRF 0) qF4 vF ++ (cS g bS (bC 0) qS1 ++ (cC g bC vC ++ (cR g bRF nRF (bGF 0) (bBF 0) vRF ++ (cL g bGF vGF ++ (cL g bBF vBF)))))) (cF g bF qF0 (bS 0) qF2 (bRF 0) qF4 vF1 ++ (cS g bS (bC 0) qS1 ++ (cC g bC vC ++ (cR g bRF nRF (bGF 0) (bBF 0) vRF1 ++ (cL g bGF vGF1 ++ (cL g bBF vBF1)))))) r 0 0 := by
  unfold CtI
  intro sz
  refine Met.ofW (cc := cX7_hidden) (maxL := 4) (ret := (some .int)) (by decide) rfl ?_
  intro p e s m args below meth c s₁ B hml hv
  obtain ⟨rfl, hsz, hP, hK, hD0, hG⟩ := hv
  have hx := B.exec
  have hb := B.bytes
  have hr := B.returns
  have hts := atoms_spec (ws := wsX7_hidden) B.pre
  have hown : s.vm.findClass RX7 = some m.cls := findClass_of_methodNamed B.named
  have hlocks := B.notSynchronized
  subst hsz
  have hD := hD0.self (sz := s.heap.size)
  generalize hAe : va_A (cF g bF qF0 (bS 0) qF2 (bRF 0) qF4 vF ++ (cS g bS (bC 0) qS1 ++ (cC g bC vC ++ (cR g bRF nRF (bGF 0) (bBF 0) vRF ++ (cL g bGF vGF ++ (cL g bBF vBF)))))) s.heap.size = A at hD hG ⊢
  have hA : ∀ q : Nat, s.heap.size ≤ q → A q := fun q h => by rw [← hAe]; exact Or.inr h
  clear hAe hD0
  have hS : va_S A s.heap s.heap [] := va_S.rf
  have hl := lv_entry ([.ref (bF 0)]) (n := 4) (Nat.le_of_ble_eq_true rfl)
  rw [lg_entry_eq]
  generalize (lg_sl ([.ref (bF 0)]) ++ List.replicate (4 - (lg_sl ([.ref (bF 0)])).length) Slot.unset).toArray = ls at hl ⊢
  have hl : lv_has ls 4 [(0, .ref (bF 0))] := hl
  have htu : ∀ w ∈ UW, w.before _ s = true := fun w h => hts w (List.mem_cons_of_mem _ h)
  have k_2_12 := htu _ mw_2_12
  have k_1_147 := htu _ mw_1_147
  have k_2_14 := htu _ mw_2_14
  unfold f_X7_hidden at hf
  obtain ⟨H, hH⟩ : ∃ z, z = s.heap := ⟨_, rfl⟩
  obtain ⟨locs, hlo⟩ : ∃ z : List Loc, z = [] := ⟨_, rfl⟩
  have hS : va_S A s.heap H locs := by rw [hH, hlo]; exact hS
  rw [← hH] at hP
  have hW : W p l e (headSpec wsX7_hidden rmX7_hidden).room s m ([.ref (bF 0)] : List Value).toArray below meth c H locs 0 0 (MQ below (qI g A (cF g bF qF0 (bS 0) qF2 (bRF 0) qF4 vF1 ++ (cS g bS (bC 0) qS1 ++ (cC g bC vC ++ (cR g bRF nRF (bGF 0) (bBF 0) vRF1 ++ (cL g bGF vGF1 ++ (cL g bBF vBF1)))))) r) ([.ref (bF 0)] : List Value).toArray s 0 0 A) (F0 m 0 ls []) := by
    refine lv_aload_n hx hb dX7_hidden_0 rfl (lv_at hl 0 rfl) ?_
    obtain ⟨vF_1, vRF_2, vGF_3, vBF_4, hg5, hf⟩ := o4_at hf
    refine k_vvW ⟨hx, hb, hml, hown, htu⟩ hK hP hD hS hA hG (c_X7_refreshFullRows l g bF qF0 qF2 qF4 vF bS qS1 bC vC bRF nRF vRF bGF vGF bBF vBF vF_1 vRF_2 vGF_3 vBF_4 hg5) (cwV 0 htu (gU_V mw_2_227 hcX7_refreshFullRows) rfl rfl rfl hdX7_refreshFullRows ⟨Nat.le_of_ble_eq_true rfl, Nat.le_of_ble_eq_true rfl⟩) (q0 := 0) (ci := 7) (fs := fcF bF qF0 (bS 0) qF2 (bRF 0) qF4 vF) (q := (RX7, TX7, 12)) rfl rfl rfl (As := []) (rest := []) rfl rfl hl.1 (Nat.le_of_ble_eq_true rfl) dX7_hidden_1 (k1 := 0) (n1 := 0) rfl rfl ⟨Nat.zero_le _, Nat.zero_le _⟩ (fun H locs hP hD hS => ?_)
    refine lv_aload_n hx hb dX7_hidden_4 rfl (lv_at hl 0 rfl) ?_
    refine va_get (D := g.1) (ci := 7) (fs := fcF bF qF0 (bS 0) qF2 (bRF 0) qF4 vF_1) (v := .ref (bS 0)) (C := RX7) (T := TX7) (N := 12) hx hb htu hinX7 hown hK hP 0 rfl rfl 1 (by decide) k_2_12 (fun _ h9 => h9) rfl dX7_hidden_5 ?_
    refine va_get (D := g.1) (ci := 4) (fs := fcS bS (bC 0) qS1) (v := .ref (bC 0)) (C := RX4) (T := TX4) (N := 2) hx hb htu hinX4 hown hK hP 6 rfl rfl 0 (by decide) k_1_147 (fun _ h9 => h9) rfl dX7_hidden_8 ?_
    obtain ⟨r6, hg7, hf⟩ := o1_at hf
    refine k_viP ⟨hx, hb, hml, hown, htu⟩ hK hP hD hS hA hG (c_X0_faultCount l g bC vC r6 hg7) (cwV 0 htu (gU_V mw_2_52 hcX0_faultCount) rfl rfl rfl hdX0_faultCount ⟨Nat.le_of_ble_eq_true rfl, Nat.le_of_ble_eq_true rfl⟩) (q0 := 7) (ci := 0) (fs := fcC bC vC) (q := (RX0, TX0, 14)) rfl rfl rfl (wr := (cF g bF qF0 (bS 0) qF2 (bRF 0) qF4 vF_1 ++ (cS g bS (bC 0) qS1 ++ (cR g bRF nRF (bGF 0) (bBF 0) vRF_2 ++ (cL g bGF vGF_3 ++ (cL g bBF vBF_4)))))) (w2 := cF g bF qF0 (bS 0) qF2 (bRF 0) qF4 vF_1 ++ (cS g bS (bC 0) qS1 ++ (cC g bC vC ++ (cR g bRF nRF (bGF 0) (bBF 0) vRF_2 ++ (cL g bGF vGF_3 ++ (cL g bBF vBF_4)))))) [7, 8, 9, 10, 11, 12, 13, 14, 15, 16, 17] [0, 1, 2, 3, 4, 5, 6, 18, 19, 20, 21, 22, 23, 24, 25, 26] [0, 1, 2, 3, 4, 5, 6, 16, 17, 18, 19, 20, 21, 22, 23, 24, 25, 26, 7, 8, 9, 10, 11, 12, 13, 14, 15] rfl rfl (by decide) (by decide) (by decide) rfl rfl (by decide) (As := []) (rest := []) rfl rfl hl.1 (Nat.le_of_ble_eq_true rfl) dX7_hidden_11 (k1 := 0) (n1 := 0) rfl rfl ⟨Nat.zero_le _, Nat.zero_le _⟩ (fun H locs hP hD hS => ?_)
    refine lv_istore_n (lv' := [(1, .int r6), (0, .ref (bF 0))]) hx hb dX7_hidden_14 rfl hl (by decide) rfl (fun ls hl => ?_)
    refine lv_iconst (v := (0 : Int32)) hx hb dX7_hidden_15 (by decide) ?_
    refine lv_istore_n (lv' := [(2, .int (0 : Int32)), (1, .int r6), (0, .ref (bF 0))]) hx hb dX7_hidden_16 rfl hl (by decide) rfl (fun ls hl => ?_)
    refine lv_iconst (v := (0 : Int32)) hx hb dX7_hidden_17 (by decide) ?_
    refine lv_istore_n (lv' := [(3, .int (0 : Int32)), (2, .int (0 : Int32)), (1, .int r6), (0, .ref (bF 0))]) hx hb dX7_hidden_18 rfl hl (by decide) rfl (fun ls hl => ?_)
    have hL11 : ∀ (x2_8 : Int32) (x3_9 : Int32), lp (f_X7_hidden_L19 vC nRF vF_1 vRF_2 vGF_3 vBF_4 r6) (fun _ _ => none) FU x2_8 x3_9 = some (r, vF1, vRF1, vGF1, vBF1) → ∀ (H : Heap) (locs : List Loc), va_P g.1 vwCl (cF g bF qF0 (bS 0) qF2 (bRF 0) qF4 vF_1 ++ (cS g bS (bC 0) qS1 ++ (cC g bC vC ++ (cR g bRF nRF (bGF 0) (bBF 0) vRF_2 ++ (cL g bGF vGF_3 ++ (cL g bBF vBF_4)))))) H → va_D A (cF g bF qF0 (bS 0) qF2 (bRF 0) qF4 vF_1 ++ (cS g bS (bC 0) qS1 ++ (cC g bC vC ++ (cR g bRF nRF (bGF 0) (bBF 0) vRF_2 ++ (cL g bGF vGF_3 ++ (cL g bBF vBF_4)))))) → va_S A s.heap H locs → ∀ ls : Array Slot, lv_has ls 4 [(0, .ref (bF 0)), (1, .int r6), (2, .int x2_8), (3, .int x3_9)] → W p l e (headSpec wsX7_hidden rmX7_hidden).room s m ([.ref (bF 0)] : List Value).toArray below meth c H locs 0 0 (MQ below (qI g A (cF g bF qF0 (bS 0) qF2 (bRF 0) qF4 vF1 ++ (cS g bS (bC 0) qS1 ++ (cC g bC vC ++ (cR g bRF nRF (bGF 0) (bBF 0) vRF1 ++ (cL g bGF vGF1 ++ (cL g bBF vBF1)))))) r) ([.ref (bF 0)] : List Value).toArray s 0 0 A) (F0 m 19 ls []) := by
      refine lp_ind (T := Int32 → Int32 → Option (Int32 × Vs × Vs × Vs × Vs)) (fun self10 => ∀ (x2_8 : Int32) (x3_9 : Int32), self10 x2_8 x3_9 = some (r, vF1, vRF1, vGF1, vBF1) → ∀ (H : Heap) (locs : List Loc), va_P g.1 vwCl (cF g bF qF0 (bS 0) qF2 (bRF 0) qF4 vF_1 ++ (cS g bS (bC 0) qS1 ++ (cC g bC vC ++ (cR g bRF nRF (bGF 0) (bBF 0) vRF_2 ++ (cL g bGF vGF_3 ++ (cL g bBF vBF_4)))))) H → va_D A (cF g bF qF0 (bS 0) qF2 (bRF 0) qF4 vF_1 ++ (cS g bS (bC 0) qS1 ++ (cC g bC vC ++ (cR g bRF nRF (bGF 0) (bBF 0) vRF_2 ++ (cL g bGF vGF_3 ++ (cL g bBF vBF_4)))))) → va_S A s.heap H locs → ∀ ls : Array Slot, lv_has ls 4 [(0, .ref (bF 0)), (1, .int r6), (2, .int x2_8), (3, .int x3_9)] → W p l e (headSpec wsX7_hidden rmX7_hidden).room s m ([.ref (bF 0)] : List Value).toArray below meth c H locs 0 0 (MQ below (qI g A (cF g bF qF0 (bS 0) qF2 (bRF 0) qF4 vF1 ++ (cS g bS (bC 0) qS1 ++ (cC g bC vC ++ (cR g bRF nRF (bGF 0) (bBF 0) vRF1 ++ (cL g bGF vGF1 ++ (cL g bBF vBF1)))))) r) ([.ref (bF 0)] : List Value).toArray s 0 0 A) (F0 m 19 ls [])) ?_ ?_ FU
      · intro x2_8 x3_9 hf; cases hf
      · intro self10 ih12 x2_8 x3_9 hf H locs hP hD hS ls hl
        unfold f_X7_hidden_L19 at hf
        refine lv_iload_n hx hb dX7_hidden_19 rfl (lv_at hl 3 rfl) ?_
        refine lv_iload_n hx hb dX7_hidden_20 rfl (lv_at hl 1 rfl) ?_
        refine lv_icmp_ge (tgt := 52) hx hb dX7_hidden_21 (by decide) (fun c13 => ?_) (fun c13 => ?_)
        · have hf := it_t hf c13
          refine lv_iload_n hx hb dX7_hidden_52 rfl (lv_at hl 2 rfl) ?_
          obtain ⟨e14, e15, e16, e17, e18⟩ := kp_5 hf
          rw [e15] at hP hD
          rw [e16] at hP hD
          rw [e17] at hP hD
          rw [e18] at hP hD
          exact k_iret hx hb hr hlocks hK hP hD hS e14 dX7_hidden_53
        · have hf := it_f hf c13
          refine lv_aload_n hx hb dX7_hidden_24 rfl (lv_at hl 0 rfl) ?_
          refine va_get (D := g.1) (ci := 7) (fs := fcF bF qF0 (bS 0) qF2 (bRF 0) qF4 vF_1) (v := .ref (bRF 0)) (C := RX7) (T := TX7) (N := 12) hx hb htu hinX7 hown hK hP 0 rfl rfl 3 (by decide) k_2_14 (fun _ h9 => h9) rfl dX7_hidden_25 ?_
          refine lv_aload_n hx hb dX7_hidden_28 rfl (lv_at hl 0 rfl) ?_
          refine va_get (D := g.1) (ci := 7) (fs := fcF bF qF0 (bS 0) qF2 (bRF 0) qF4 vF_1) (v := .ref (bS 0)) (C := RX7) (T := TX7) (N := 12) hx hb htu hinX7 hown hK hP 0 rfl rfl 1 (by decide) k_2_12 (fun _ h9 => h9) rfl dX7_hidden_29 ?_
          refine va_get (D := g.1) (ci := 4) (fs := fcS bS (bC 0) qS1) (v := .ref (bC 0)) (C := RX4) (T := TX4) (N := 2) hx hb htu hinX4 hown hK hP 6 rfl rfl 0 (by decide) k_1_147 (fun _ h9 => h9) rfl dX7_hidden_32 ?_
          refine lv_iconst (v := (-1 : Int32)) hx hb dX7_hidden_35 (by decide) ?_
          refine lv_iload_n hx hb dX7_hidden_36 rfl (lv_at hl 3 rfl) ?_
          obtain ⟨r19, hg20, hf⟩ := o1_at hf
          refine k_viP ⟨hx, hb, hml, hown, htu⟩ hK hP hD hS hA hG (c_X3_firstApart l g bRF nRF (bGF 0) (bBF 0) vRF_2 bC vC (-1 : Int32) x3_9 r19 hg20) (cwV 3 htu (gU_V mw_3_1 hcX3_firstApart) rfl rfl rfl hdX3_firstApart ⟨Nat.le_of_ble_eq_true rfl, Nat.le_of_ble_eq_true rfl⟩) (q0 := 18) (ci := 3) (fs := fcR bRF (bGF 0) (bBF 0) vRF_2) (q := (RX3, TX3, 5)) rfl rfl rfl (wr := (cF g bF qF0 (bS 0) qF2 (bRF 0) qF4 vF_1 ++ (cS g bS (bC 0) qS1 ++ (cL g bGF vGF_3 ++ (cL g bBF vBF_4))))) (w2 := cF g bF qF0 (bS 0) qF2 (bRF 0) qF4 vF_1 ++ (cS g bS (bC 0) qS1 ++ (cC g bC vC ++ (cR g bRF nRF (bGF 0) (bBF 0) vRF_2 ++ (cL g bGF vGF_3 ++ (cL g bBF vBF_4)))))) [18, 19, 20, 7, 8, 9, 10, 11, 12, 13, 14, 15, 16, 17] [0, 1, 2, 3, 4, 5, 6, 21, 22, 23, 24, 25, 26] [0, 1, 2, 3, 4, 5, 6, 16, 17, 18, 19, 20, 21, 22, 23, 24, 25, 26, 13, 14, 15, 7, 8, 9, 10, 11, 12] rfl rfl (by decide) (by decide) (by decide) rfl rfl (by decide) (As := [.ref (bC 0), .int (-1 : Int32), .int x3_9]) (rest := []) rfl rfl hl.1 (Nat.le_of_ble_eq_true rfl) dX7_hidden_37 (k1 := 0) (n1 := 0) rfl rfl ⟨Nat.zero_le _, Nat.zero_le _⟩ (fun H locs hP hD hS => ?_)
          obtain ⟨k22, hk24, hf⟩ := jn_at hf
          have hJ23 : ∀ (x2_21 : Int32), k22 x2_21 = some (r, vF1, vRF1, vGF1, vBF1) → ∀ (H : Heap) (locs : List Loc), va_P g.1 vwCl (cF g bF qF0 (bS 0) qF2 (bRF 0) qF4 vF_1 ++ (cS g bS (bC 0) qS1 ++ (cC g bC vC ++ (cR g bRF nRF (bGF 0) (bBF 0) vRF_2 ++ (cL g bGF vGF_3 ++ (cL g bBF vBF_4)))))) H → va_D A (cF g bF qF0 (bS 0) qF2 (bRF 0) qF4 vF_1 ++ (cS g bS (bC 0) qS1 ++ (cC g bC vC ++ (cR g bRF nRF (bGF 0) (bBF 0) vRF_2 ++ (cL g bGF vGF_3 ++ (cL g bBF vBF_4)))))) → va_S A s.heap H locs → ∀ ls : Array Slot, lv_has ls 4 [(0, .ref (bF 0)), (1, .int r6), (2, .int x2_21), (3, .int x3_9)] → W p l e (headSpec wsX7_hidden rmX7_hidden).room s m ([.ref (bF 0)] : List Value).toArray below meth c H locs 0 0 (MQ below (qI g A (cF g bF qF0 (bS 0) qF2 (bRF 0) qF4 vF1 ++ (cS g bS (bC 0) qS1 ++ (cC g bC vC ++ (cR g bRF nRF (bGF 0) (bBF 0) vRF1 ++ (cL g bGF vGF1 ++ (cL g bBF vBF1)))))) r) ([.ref (bF 0)] : List Value).toArray s 0 0 A) (F0 m 46 ls []) := by
            intro x2_21 hf H locs hP hD hS ls hl
            rw [hk24] at hf
            dsimp only at hf
            clear hk24
            refine lv_iinc (v := (x3_9 + (1 : Int32))) (lv' := [(3, .int (x3_9 + (1 : Int32))), (0, .ref (bF 0)), (1, .int r6), (2, .int x2_21)]) hx hb dX7_hidden_46 hl (k := 3) rfl rfl (by decide) rfl (fun ls hl => ?_)
            refine lv_goto (tgt := 19) hx hb dX7_hidden_49 (by decide) ?_
            exact ih12 x2_21 (x3_9 + (1 : Int32)) hf H locs hP hD hS _ (lv_sub hl [1, 2, 3, 0] rfl)
          refine lv_if_ge (tgt := 46) hx hb dX7_hidden_40 (by decide) (fun c25 => ?_) (fun c25 => ?_)
          · have hf := it_t hf c25
            exact hJ23 x2_8 hf H locs hP hD hS _ (lv_sub hl [0, 1, 2, 3] rfl)
          · have hf := it_f hf c25
            refine lv_iinc (v := (x2_8 + (1 : Int32))) (lv' := [(2, .int (x2_8 + (1 : Int32))), (0, .ref (bF 0)), (1, .int r6), (3, .int x3_9)]) hx hb dX7_hidden_43 hl (k := 2) rfl rfl (by decide) rfl (fun ls hl => ?_)
            exact hJ23 (x2_8 + (1 : Int32)) hf H locs hP hD hS _ (lv_sub hl [1, 2, 0, 3] rfl)
    exact hL11 (0 : Int32) (0 : Int32) hf H locs hP hD hS _ (lv_sub hl [3, 2, 1, 0] rfl)
  rw [hH, hlo] at hW
  exact hW
def f_X7_alike (vF : Vs) (vC : Vs) (nRF : Nat) (vRF : Vs) (vGF : Vs) (vBF : Vs) (x1 : Int32) : Option (Nat × Int32 × Vs × Vs × Vs × Vs) :=
  o1 (f_X7_checkFault vF vC x1) (fun (c1 : Nat) => if c1 = 0 then (o4 (f_X7_refreshFullRows vF vC nRF vRF vGF vBF) (fun (vF_3 : Vs) (vRF_4 : Vs) (vGF_5 : Vs) (vBF_6 : Vs) => o1 (f_X7_firstAlike vF_3 vC nRF vRF_4 x1) (fun (r8 : Int32) => some (0, r8, vF_3, vRF_4, vGF_5, vBF_6)))) else some (c1, (0 : Int32), vF, vRF, vGF, vBF))
abbrev wsX7_alike : List Cond := .code yX7_alike cX7_alike 2 (some .int) :: UW
abbrev rmX7_alike : Room := { frames := 4, cells := 0, slots := 0, locals := 106 }
set_option maxHeartbeats 4000000 in
set_option maxRecDepth 100000 in
theorem c_X7_alike (l : Launch) (g : Gx) (bF : Nat → Nat) (qF0 : Nat) (qF2 : Nat) (qF4 : Nat) (vF : Vs) (bS : Nat → Nat) (qS1 : Nat) (bC : Nat → Nat) (vC : Vs) (bRF : Nat → Nat) (nRF : Nat) (vRF : Vs) (bGF : Nat → Nat) (vGF : Vs) (bBF : Nat → Nat) (vBF : Vs) (x1 : Int32) (r : Int32) (vF1 : Vs) (vRF1 : Vs) (vGF1 : Vs) (vBF1 : Vs) (hf : f_X7_alike vF vC nRF vRF vGF vBF x1 = some (0, r, vF1, vRF1, vGF1, vBF1)) : CtI l yX7_alike wsX7_alike rmX7_alike g [.ref (bF 0), .int x1] (cF g bF qF0 (bS 0) qF2 (bRF 0) qF4 vF ++ (cS g bS (bC 0) qS1 ++ (cC g bC vC ++ (cR g bRF nRF (bGF 0) (bBF 0) vRF ++ (cL g bGF vGF ++ (cL g bBF vBF)))))) (cF g bF qF0 (bS 0) qF2 (bRF 0) qF4 vF1 ++ (cS g bS (bC 0) qS1 ++ (cC g bC vC ++ (cR g bRF nRF (bGF 0) (bBF 0) vRF1 ++ (cL g bGF vGF1 ++ (cL g bBF vBF1)))))) r 0 0 := by
  unfold CtI
  intro sz
  refine Met.ofW (cc := cX7_alike) (maxL := 2) (ret := (some .int)) (by decide) rfl ?_
  intro p e s m args below meth c s₁ B hml hv
  obtain ⟨rfl, hsz, hP, hK, hD0, hG⟩ := hv
  have hx := B.exec
  have hb := B.bytes
  have hr := B.returns
  have hts := atoms_spec (ws := wsX7_alike) B.pre
  have hown : s.vm.findClass RX7 = some m.cls := findClass_of_methodNamed B.named
  have hlocks := B.notSynchronized
  subst hsz
  have hD := hD0.self (sz := s.heap.size)
  generalize hAe : va_A (cF g bF qF0 (bS 0) qF2 (bRF 0) qF4 vF ++ (cS g bS (bC 0) qS1 ++ (cC g bC vC ++ (cR g bRF nRF (bGF 0) (bBF 0) vRF ++ (cL g bGF vGF ++ (cL g bBF vBF)))))) s.heap.size = A at hD hG ⊢
  have hA : ∀ q : Nat, s.heap.size ≤ q → A q := fun q h => by rw [← hAe]; exact Or.inr h
  clear hAe hD0
  have hS : va_S A s.heap s.heap [] := va_S.rf
  have hl := lv_entry ([.ref (bF 0), .int x1]) (n := 2) (Nat.le_of_ble_eq_true rfl)
  rw [lg_entry_eq]
  generalize (lg_sl ([.ref (bF 0), .int x1]) ++ List.replicate (2 - (lg_sl ([.ref (bF 0), .int x1])).length) Slot.unset).toArray = ls at hl ⊢
  have hl : lv_has ls 2 [(0, .ref (bF 0)), (1, .int x1)] := hl
  have htu : ∀ w ∈ UW, w.before _ s = true := fun w h => hts w (List.mem_cons_of_mem _ h)
  unfold f_X7_alike at hf
  obtain ⟨H, hH⟩ : ∃ z, z = s.heap := ⟨_, rfl⟩
  obtain ⟨locs, hlo⟩ : ∃ z : List Loc, z = [] := ⟨_, rfl⟩
  have hS : va_S A s.heap H locs := by rw [hH, hlo]; exact hS
  rw [← hH] at hP
  have hW : W p l e (headSpec wsX7_alike rmX7_alike).room s m ([.ref (bF 0), .int x1] : List Value).toArray below meth c H locs 0 0 (MQ below (qI g A (cF g bF qF0 (bS 0) qF2 (bRF 0) qF4 vF1 ++ (cS g bS (bC 0) qS1 ++ (cC g bC vC ++ (cR g bRF nRF (bGF 0) (bBF 0) vRF1 ++ (cL g bGF vGF1 ++ (cL g bBF vBF1)))))) r) ([.ref (bF 0), .int x1] : List Value).toArray s 0 0 A) (F0 m 0 ls []) := by
    refine lv_aload_n hx hb dX7_alike_0 rfl (lv_at hl 0 rfl) ?_
    refine lv_iload_n hx hb dX7_alike_1 rfl (lv_at hl 1 rfl) ?_
    obtain ⟨c1, hg2, hf⟩ := o1_at hf
    have hc1 : c1 = 0 := Classical.byContradiction (fun h9 => h9 (kp_6 (it_f hf h9)).1)
    have hf := it_t hf hc1
    rw [hc1] at hg2
    refine k_vvP ⟨hx, hb, hml, hown, htu⟩ hK hP hD hS hA hG (c_X7_checkFault l g bF qF0 qF2 (bRF 0) qF4 vF bS qS1 bC vC x1 hg2) (cwV 1 htu (gU_V mw_2_207 hcX7_checkFault) rfl rfl rfl hdX7_checkFault ⟨Nat.le_of_ble_eq_true rfl, Nat.le_of_ble_eq_true rfl⟩) (q0 := 0) (ci := 7) (fs := fcF bF qF0 (bS 0) qF2 (bRF 0) qF4 vF) (q := (RX7, TX7, 12)) rfl rfl rfl (wr := (cR g bRF nRF (bGF 0) (bBF 0) vRF ++ (cL g bGF vGF ++ (cL g bBF vBF)))) (w2 := cF g bF qF0 (bS 0) qF2 (bRF 0) qF4 vF ++ (cS g bS (bC 0) qS1 ++ (cC g bC vC ++ (cR g bRF nRF (bGF 0) (bBF 0) vRF ++ (cL g bGF vGF ++ (cL g bBF vBF)))))) [0, 1, 2, 3, 4, 5, 6, 7, 8, 9, 10, 11, 12, 13, 14, 15, 16, 17] [18, 19, 20, 21, 22, 23, 24, 25, 26] [9, 10, 11, 12, 13, 14, 15, 16, 17, 18, 19, 20, 21, 22, 23, 24, 25, 26, 0, 1, 2, 3, 4, 5, 6, 7, 8] rfl rfl (by decide) (by decide) (by decide) rfl rfl (by decide) (As := [.int x1]) (rest := []) rfl rfl hl.1 (Nat.le_of_ble_eq_true rfl) dX7_alike_2 (k1 := 0) (n1 := 0) rfl rfl ⟨Nat.zero_le _, Nat.zero_le _⟩ (fun H locs hP hD hS => ?_)
    refine lv_aload_n hx hb dX7_alike_5 rfl (lv_at hl 0 rfl) ?_
    obtain ⟨vF_3, vRF_4, vGF_5, vBF_6, hg7, hf⟩ := o4_at hf
    refine k_vvW ⟨hx, hb, hml, hown, htu⟩ hK hP hD hS hA hG (c_X7_refreshFullRows l g bF qF0 qF2 qF4 vF bS qS1 bC vC bRF nRF vRF bGF vGF bBF vBF vF_3 vRF_4 vGF_5 vBF_6 hg7) (cwV 0 htu (gU_V mw_2_227 hcX7_refreshFullRows) rfl rfl rfl hdX7_refreshFullRows ⟨Nat.le_of_ble_eq_true rfl, Nat.le_of_ble_eq_true rfl⟩) (q0 := 0) (ci := 7) (fs := fcF bF qF0 (bS 0) qF2 (bRF 0) qF4 vF) (q := (RX7, TX7, 12)) rfl rfl rfl (As := []) (rest := []) rfl rfl hl.1 (Nat.le_of_ble_eq_true rfl) dX7_alike_6 (k1 := 0) (n1 := 0) rfl rfl ⟨Nat.zero_le _, Nat.zero_le _⟩ (fun H locs hP hD hS => ?_)
    refine lv_aload_n hx hb dX7_alike_9 rfl (lv_at hl 0 rfl) ?_
    refine lv_iload_n hx hb dX7_alike_10 rfl (lv_at hl 1 rfl) ?_
    obtain ⟨r8, hg9, hf⟩ := o1_at hf
    refine k_viP ⟨hx, hb, hml, hown, htu⟩ hK hP hD hS hA hG (c_X7_firstAlike l g bF qF0 qF2 qF4 vF_3 bS qS1 bC vC bRF nRF (bGF 0) (bBF 0) vRF_4 x1 r8 hg9) (cwV 1 htu (gU_V mw_3_17 hcX7_firstAlike) rfl rfl rfl hdX7_firstAlike ⟨Nat.le_of_ble_eq_true rfl, Nat.le_of_ble_eq_true rfl⟩) (q0 := 0) (ci := 7) (fs := fcF bF qF0 (bS 0) qF2 (bRF 0) qF4 vF_3) (q := (RX7, TX7, 12)) rfl rfl rfl (wr := (cL g bGF vGF_5 ++ (cL g bBF vBF_6))) (w2 := cF g bF qF0 (bS 0) qF2 (bRF 0) qF4 vF_3 ++ (cS g bS (bC 0) qS1 ++ (cC g bC vC ++ (cR g bRF nRF (bGF 0) (bBF 0) vRF_4 ++ (cL g bGF vGF_5 ++ (cL g bBF vBF_6)))))) [0, 1, 2, 3, 4, 5, 6, 7, 8, 9, 10, 11, 12, 13, 14, 15, 16, 17, 18, 19, 20] [21, 22, 23, 24, 25, 26] [6, 7, 8, 9, 10, 11, 12, 13, 14, 15, 16, 17, 18, 19, 20, 21, 22, 23, 24, 25, 26, 0, 1, 2, 3, 4, 5] rfl rfl (by decide) (by decide) (by decide) rfl rfl (by decide) (As := [.int x1]) (rest := []) rfl rfl hl.1 (Nat.le_of_ble_eq_true rfl) dX7_alike_11 (k1 := 0) (n1 := 0) rfl rfl ⟨Nat.zero_le _, Nat.zero_le _⟩ (fun H locs hP hD hS => ?_)
    obtain ⟨e10, e11, e12, e13, e14, e15⟩ := kp_6 hf
    rw [e12] at hP hD
    rw [e13] at hP hD
    rw [e14] at hP hD
    rw [e15] at hP hD
    exact k_iret hx hb hr hlocks hK hP hD hS e11 dX7_alike_14
  rw [hH, hlo] at hW
  exact hW
def f_X7_classes_L19 (vC : Vs) (nRF : Nat) (vF_1 : Vs) (vRF_2 : Vs) (vGF_3 : Vs) (vBF_4 : Vs) (r6 : Int32) (self10 : Int32 → Int32 → Option (Int32 × Vs × Vs × Vs × Vs)) (x2_8 : Int32) (x3_9 : Int32) : Option (Int32 × Vs × Vs × Vs × Vs) :=
  if r6 ≤ x3_9 then some (x2_8, vF_1, vRF_2, vGF_3, vBF_4) else o1 (f_X7_firstAlike vF_1 vC nRF vRF_2 x3_9) (fun (r19 : Int32) => jn (fun (x2_21 : Int32) => self10 x2_21 (x3_9 + (1 : Int32))) (fun k22 => if r19 = x3_9 then k22 (x2_8 + (1 : Int32)) else k22 x2_8))
def f_X7_classes (vF : Vs) (vC : Vs) (nRF : Nat) (vRF : Vs) (vGF : Vs) (vBF : Vs) : Option (Int32 × Vs × Vs × Vs × Vs) :=
  o4 (f_X7_refreshFullRows vF vC nRF vRF vGF vBF) (fun (vF_1 : Vs) (vRF_2 : Vs) (vGF_3 : Vs) (vBF_4 : Vs) => o1 (f_X0_faultCount vC) (fun (r6 : Int32) => lp (f_X7_classes_L19 vC nRF vF_1 vRF_2 vGF_3 vBF_4 r6) (fun _ _ => none) FU (0 : Int32) (0 : Int32)))
abbrev wsX7_classes : List Cond := .code yX7_classes cX7_classes 4 (some .int) :: UW
abbrev rmX7_classes : Room := { frames := 4, cells := 0, slots := 0, locals := 106 }
set_option maxHeartbeats 4000000 in
set_option maxRecDepth 100000 in
theorem c_X7_classes (l : Launch) (g : Gx) (bF : Nat → Nat) (qF0 : Nat) (qF2 : Nat) (qF4 : Nat) (vF : Vs) (bS : Nat → Nat) (qS1 : Nat) (bC : Nat → Nat) (vC : Vs) (bRF : Nat → Nat) (nRF : Nat) (vRF : Vs) (bGF : Nat → Nat) (vGF : Vs) (bBF : Nat → Nat) (vBF : Vs) (r : Int32) (vF1 : Vs) (vRF1 : Vs) (vGF1 : Vs) (vBF1 : Vs) (hf : f_X7_classes vF vC nRF vRF vGF vBF = some (r, vF1, vRF1, vGF1, vBF1)) : CtI l yX7_classes wsX7_classes rmX7_classes g [.ref (bF 0)] (cF g bF qF0 (bS 0) qF2 (bRF 0) qF4 vF ++ (cS g bS (bC 0) qS1 ++ (cC g bC vC ++ (cR g bRF nRF (bGF 0) (bBF 0) vRF ++ (cL g bGF vGF ++ (cL g bBF vBF)))))) (cF g bF qF0 (bS 0) qF2 (bRF 0) qF4 vF1 ++ (cS g bS (bC 0) qS1 ++ (cC g bC vC ++ (cR g bRF nRF (bGF 0) (bBF 0) vRF1 ++ (cL g bGF vGF1 ++ (cL g bBF vBF1)))))) r 0 0 := by
  unfold CtI
  intro sz
  refine Met.ofW (cc := cX7_classes) (maxL := 4) (ret := (some .int)) (by decide) rfl ?_
  intro p e s m args below meth c s₁ B hml hv
  obtain ⟨rfl, hsz, hP, hK, hD0, hG⟩ := hv
  have hx := B.exec
  have hb := B.bytes
  have hr := B.returns
  have hts := atoms_spec (ws := wsX7_classes) B.pre
  have hown : s.vm.findClass RX7 = some m.cls := findClass_of_methodNamed B.named
  have hlocks := B.notSynchronized
  subst hsz
  have hD := hD0.self (sz := s.heap.size)
  generalize hAe : va_A (cF g bF qF0 (bS 0) qF2 (bRF 0) qF4 vF ++ (cS g bS (bC 0) qS1 ++ (cC g bC vC ++ (cR g bRF nRF (bGF 0) (bBF 0) vRF ++ (cL g bGF vGF ++ (cL g bBF vBF)))))) s.heap.size = A at hD hG ⊢
  have hA : ∀ q : Nat, s.heap.size ≤ q → A q := fun q h => by rw [← hAe]; exact Or.inr h
  clear hAe hD0
  have hS : va_S A s.heap s.heap [] := va_S.rf
  have hl := lv_entry ([.ref (bF 0)]) (n := 4) (Nat.le_of_ble_eq_true rfl)
  rw [lg_entry_eq]
  generalize (lg_sl ([.ref (bF 0)]) ++ List.replicate (4 - (lg_sl ([.ref (bF 0)])).length) Slot.unset).toArray = ls at hl ⊢
  have hl : lv_has ls 4 [(0, .ref (bF 0))] := hl
  have htu : ∀ w ∈ UW, w.before _ s = true := fun w h => hts w (List.mem_cons_of_mem _ h)
  have k_2_12 := htu _ mw_2_12
  have k_1_147 := htu _ mw_1_147
  unfold f_X7_classes at hf
  obtain ⟨H, hH⟩ : ∃ z, z = s.heap := ⟨_, rfl⟩
  obtain ⟨locs, hlo⟩ : ∃ z : List Loc, z = [] := ⟨_, rfl⟩
  have hS : va_S A s.heap H locs := by rw [hH, hlo]; exact hS
  rw [← hH] at hP
  have hW : W p l e (headSpec wsX7_classes rmX7_classes).room s m ([.ref (bF 0)] : List Value).toArray below meth c H locs 0 0 (MQ below (qI g A (cF g bF qF0 (bS 0) qF2 (bRF 0) qF4 vF1 ++ (cS g bS (bC 0) qS1 ++ (cC g bC vC ++ (cR g bRF nRF (bGF 0) (bBF 0) vRF1 ++ (cL g bGF vGF1 ++ (cL g bBF vBF1)))))) r) ([.ref (bF 0)] : List Value).toArray s 0 0 A) (F0 m 0 ls []) := by
    refine lv_aload_n hx hb dX7_classes_0 rfl (lv_at hl 0 rfl) ?_
    obtain ⟨vF_1, vRF_2, vGF_3, vBF_4, hg5, hf⟩ := o4_at hf
    refine k_vvW ⟨hx, hb, hml, hown, htu⟩ hK hP hD hS hA hG (c_X7_refreshFullRows l g bF qF0 qF2 qF4 vF bS qS1 bC vC bRF nRF vRF bGF vGF bBF vBF vF_1 vRF_2 vGF_3 vBF_4 hg5) (cwV 0 htu (gU_V mw_2_227 hcX7_refreshFullRows) rfl rfl rfl hdX7_refreshFullRows ⟨Nat.le_of_ble_eq_true rfl, Nat.le_of_ble_eq_true rfl⟩) (q0 := 0) (ci := 7) (fs := fcF bF qF0 (bS 0) qF2 (bRF 0) qF4 vF) (q := (RX7, TX7, 12)) rfl rfl rfl (As := []) (rest := []) rfl rfl hl.1 (Nat.le_of_ble_eq_true rfl) dX7_classes_1 (k1 := 0) (n1 := 0) rfl rfl ⟨Nat.zero_le _, Nat.zero_le _⟩ (fun H locs hP hD hS => ?_)
    refine lv_aload_n hx hb dX7_classes_4 rfl (lv_at hl 0 rfl) ?_
    refine va_get (D := g.1) (ci := 7) (fs := fcF bF qF0 (bS 0) qF2 (bRF 0) qF4 vF_1) (v := .ref (bS 0)) (C := RX7) (T := TX7) (N := 12) hx hb htu hinX7 hown hK hP 0 rfl rfl 1 (by decide) k_2_12 (fun _ h9 => h9) rfl dX7_classes_5 ?_
    refine va_get (D := g.1) (ci := 4) (fs := fcS bS (bC 0) qS1) (v := .ref (bC 0)) (C := RX4) (T := TX4) (N := 2) hx hb htu hinX4 hown hK hP 6 rfl rfl 0 (by decide) k_1_147 (fun _ h9 => h9) rfl dX7_classes_8 ?_
    obtain ⟨r6, hg7, hf⟩ := o1_at hf
    refine k_viP ⟨hx, hb, hml, hown, htu⟩ hK hP hD hS hA hG (c_X0_faultCount l g bC vC r6 hg7) (cwV 0 htu (gU_V mw_2_52 hcX0_faultCount) rfl rfl rfl hdX0_faultCount ⟨Nat.le_of_ble_eq_true rfl, Nat.le_of_ble_eq_true rfl⟩) (q0 := 7) (ci := 0) (fs := fcC bC vC) (q := (RX0, TX0, 14)) rfl rfl rfl (wr := (cF g bF qF0 (bS 0) qF2 (bRF 0) qF4 vF_1 ++ (cS g bS (bC 0) qS1 ++ (cR g bRF nRF (bGF 0) (bBF 0) vRF_2 ++ (cL g bGF vGF_3 ++ (cL g bBF vBF_4)))))) (w2 := cF g bF qF0 (bS 0) qF2 (bRF 0) qF4 vF_1 ++ (cS g bS (bC 0) qS1 ++ (cC g bC vC ++ (cR g bRF nRF (bGF 0) (bBF 0) vRF_2 ++ (cL g bGF vGF_3 ++ (cL g bBF vBF_4)))))) [7, 8, 9, 10, 11, 12, 13, 14, 15, 16, 17] [0, 1, 2, 3, 4, 5, 6, 18, 19, 20, 21, 22, 23, 24, 25, 26] [0, 1, 2, 3, 4, 5, 6, 16, 17, 18, 19, 20, 21, 22, 23, 24, 25, 26, 7, 8, 9, 10, 11, 12, 13, 14, 15] rfl rfl (by decide) (by decide) (by decide) rfl rfl (by decide) (As := []) (rest := []) rfl rfl hl.1 (Nat.le_of_ble_eq_true rfl) dX7_classes_11 (k1 := 0) (n1 := 0) rfl rfl ⟨Nat.zero_le _, Nat.zero_le _⟩ (fun H locs hP hD hS => ?_)
    refine lv_istore_n (lv' := [(1, .int r6), (0, .ref (bF 0))]) hx hb dX7_classes_14 rfl hl (by decide) rfl (fun ls hl => ?_)
    refine lv_iconst (v := (0 : Int32)) hx hb dX7_classes_15 (by decide) ?_
    refine lv_istore_n (lv' := [(2, .int (0 : Int32)), (1, .int r6), (0, .ref (bF 0))]) hx hb dX7_classes_16 rfl hl (by decide) rfl (fun ls hl => ?_)
    refine lv_iconst (v := (0 : Int32)) hx hb dX7_classes_17 (by decide) ?_
    refine lv_istore_n (lv' := [(3, .int (0 : Int32)), (2, .int (0 : Int32)), (1, .int r6), (0, .ref (bF 0))]) hx hb dX7_classes_18 rfl hl (by decide) rfl (fun ls hl => ?_)
    have hL11 : ∀ (x2_8 : Int32) (x3_9 : Int32), lp (f_X7_classes_L19 vC nRF vF_1 vRF_2 vGF_3 vBF_4 r6) (fun _ _ => none) FU x2_8 x3_9 = some (r, vF1, vRF1, vGF1, vBF1) → ∀ (H : Heap) (locs : List Loc), va_P g.1 vwCl (cF g bF qF0 (bS 0) qF2 (bRF 0) qF4 vF_1 ++ (cS g bS (bC 0) qS1 ++ (cC g bC vC ++ (cR g bRF nRF (bGF 0) (bBF 0) vRF_2 ++ (cL g bGF vGF_3 ++ (cL g bBF vBF_4)))))) H → va_D A (cF g bF qF0 (bS 0) qF2 (bRF 0) qF4 vF_1 ++ (cS g bS (bC 0) qS1 ++ (cC g bC vC ++ (cR g bRF nRF (bGF 0) (bBF 0) vRF_2 ++ (cL g bGF vGF_3 ++ (cL g bBF vBF_4)))))) → va_S A s.heap H locs → ∀ ls : Array Slot, lv_has ls 4 [(0, .ref (bF 0)), (1, .int r6), (2, .int x2_8), (3, .int x3_9)] → W p l e (headSpec wsX7_classes rmX7_classes).room s m ([.ref (bF 0)] : List Value).toArray below meth c H locs 0 0 (MQ below (qI g A (cF g bF qF0 (bS 0) qF2 (bRF 0) qF4 vF1 ++ (cS g bS (bC 0) qS1 ++ (cC g bC vC ++ (cR g bRF nRF (bGF 0) (bBF 0) vRF1 ++ (cL g bGF vGF1 ++ (cL g bBF vBF1)))))) r) ([.ref (bF 0)] : List Value).toArray s 0 0 A) (F0 m 19 ls []) := by
      refine lp_ind (T := Int32 → Int32 → Option (Int32 × Vs × Vs × Vs × Vs)) (fun self10 => ∀ (x2_8 : Int32) (x3_9 : Int32), self10 x2_8 x3_9 = some (r, vF1, vRF1, vGF1, vBF1) → ∀ (H : Heap) (locs : List Loc), va_P g.1 vwCl (cF g bF qF0 (bS 0) qF2 (bRF 0) qF4 vF_1 ++ (cS g bS (bC 0) qS1 ++ (cC g bC vC ++ (cR g bRF nRF (bGF 0) (bBF 0) vRF_2 ++ (cL g bGF vGF_3 ++ (cL g bBF vBF_4)))))) H → va_D A (cF g bF qF0 (bS 0) qF2 (bRF 0) qF4 vF_1 ++ (cS g bS (bC 0) qS1 ++ (cC g bC vC ++ (cR g bRF nRF (bGF 0) (bBF 0) vRF_2 ++ (cL g bGF vGF_3 ++ (cL g bBF vBF_4)))))) → va_S A s.heap H locs → ∀ ls : Array Slot, lv_has ls 4 [(0, .ref (bF 0)), (1, .int r6), (2, .int x2_8), (3, .int x3_9)] → W p l e (headSpec wsX7_classes rmX7_classes).room s m ([.ref (bF 0)] : List Value).toArray below meth c H locs 0 0 (MQ below (qI g A (cF g bF qF0 (bS 0) qF2 (bRF 0) qF4 vF1 ++ (cS g bS (bC 0) qS1 ++ (cC g bC vC ++ (cR g bRF nRF (bGF 0) (bBF 0) vRF1 ++ (cL g bGF vGF1 ++ (cL g bBF vBF1)))))) r) ([.ref (bF 0)] : List Value).toArray s 0 0 A) (F0 m 19 ls [])) ?_ ?_ FU
      · intro x2_8 x3_9 hf; cases hf
      · intro self10 ih12 x2_8 x3_9 hf H locs hP hD hS ls hl
        unfold f_X7_classes_L19 at hf
        refine lv_iload_n hx hb dX7_classes_19 rfl (lv_at hl 3 rfl) ?_
        refine lv_iload_n hx hb dX7_classes_20 rfl (lv_at hl 1 rfl) ?_
        refine lv_icmp_ge (tgt := 42) hx hb dX7_classes_21 (by decide) (fun c13 => ?_) (fun c13 => ?_)
        · have hf := it_t hf c13
          refine lv_iload_n hx hb dX7_classes_42 rfl (lv_at hl 2 rfl) ?_
          obtain ⟨e14, e15, e16, e17, e18⟩ := kp_5 hf
          rw [e15] at hP hD
          rw [e16] at hP hD
          rw [e17] at hP hD
          rw [e18] at hP hD
          exact k_iret hx hb hr hlocks hK hP hD hS e14 dX7_classes_43
        · have hf := it_f hf c13
          refine lv_aload_n hx hb dX7_classes_24 rfl (lv_at hl 0 rfl) ?_
          refine lv_iload_n hx hb dX7_classes_25 rfl (lv_at hl 3 rfl) ?_
          obtain ⟨r19, hg20, hf⟩ := o1_at hf
          refine k_viP ⟨hx, hb, hml, hown, htu⟩ hK hP hD hS hA hG (c_X7_firstAlike l g bF qF0 qF2 qF4 vF_1 bS qS1 bC vC bRF nRF (bGF 0) (bBF 0) vRF_2 x3_9 r19 hg20) (cwV 1 htu (gU_V mw_3_17 hcX7_firstAlike) rfl rfl rfl hdX7_firstAlike ⟨Nat.le_of_ble_eq_true rfl, Nat.le_of_ble_eq_true rfl⟩) (q0 := 0) (ci := 7) (fs := fcF bF qF0 (bS 0) qF2 (bRF 0) qF4 vF_1) (q := (RX7, TX7, 12)) rfl rfl rfl (wr := (cL g bGF vGF_3 ++ (cL g bBF vBF_4))) (w2 := cF g bF qF0 (bS 0) qF2 (bRF 0) qF4 vF_1 ++ (cS g bS (bC 0) qS1 ++ (cC g bC vC ++ (cR g bRF nRF (bGF 0) (bBF 0) vRF_2 ++ (cL g bGF vGF_3 ++ (cL g bBF vBF_4)))))) [0, 1, 2, 3, 4, 5, 6, 7, 8, 9, 10, 11, 12, 13, 14, 15, 16, 17, 18, 19, 20] [21, 22, 23, 24, 25, 26] [6, 7, 8, 9, 10, 11, 12, 13, 14, 15, 16, 17, 18, 19, 20, 21, 22, 23, 24, 25, 26, 0, 1, 2, 3, 4, 5] rfl rfl (by decide) (by decide) (by decide) rfl rfl (by decide) (As := [.int x3_9]) (rest := []) rfl rfl hl.1 (Nat.le_of_ble_eq_true rfl) dX7_classes_26 (k1 := 0) (n1 := 0) rfl rfl ⟨Nat.zero_le _, Nat.zero_le _⟩ (fun H locs hP hD hS => ?_)
          refine lv_iload_n hx hb dX7_classes_29 rfl (lv_at hl 3 rfl) ?_
          obtain ⟨k22, hk24, hf⟩ := jn_at hf
          have hJ23 : ∀ (x2_21 : Int32), k22 x2_21 = some (r, vF1, vRF1, vGF1, vBF1) → ∀ (H : Heap) (locs : List Loc), va_P g.1 vwCl (cF g bF qF0 (bS 0) qF2 (bRF 0) qF4 vF_1 ++ (cS g bS (bC 0) qS1 ++ (cC g bC vC ++ (cR g bRF nRF (bGF 0) (bBF 0) vRF_2 ++ (cL g bGF vGF_3 ++ (cL g bBF vBF_4)))))) H → va_D A (cF g bF qF0 (bS 0) qF2 (bRF 0) qF4 vF_1 ++ (cS g bS (bC 0) qS1 ++ (cC g bC vC ++ (cR g bRF nRF (bGF 0) (bBF 0) vRF_2 ++ (cL g bGF vGF_3 ++ (cL g bBF vBF_4)))))) → va_S A s.heap H locs → ∀ ls : Array Slot, lv_has ls 4 [(0, .ref (bF 0)), (1, .int r6), (2, .int x2_21), (3, .int x3_9)] → W p l e (headSpec wsX7_classes rmX7_classes).room s m ([.ref (bF 0)] : List Value).toArray below meth c H locs 0 0 (MQ below (qI g A (cF g bF qF0 (bS 0) qF2 (bRF 0) qF4 vF1 ++ (cS g bS (bC 0) qS1 ++ (cC g bC vC ++ (cR g bRF nRF (bGF 0) (bBF 0) vRF1 ++ (cL g bGF vGF1 ++ (cL g bBF vBF1)))))) r) ([.ref (bF 0)] : List Value).toArray s 0 0 A) (F0 m 36 ls []) := by
            intro x2_21 hf H locs hP hD hS ls hl
            rw [hk24] at hf
            dsimp only at hf
            clear hk24
            refine lv_iinc (v := (x3_9 + (1 : Int32))) (lv' := [(3, .int (x3_9 + (1 : Int32))), (0, .ref (bF 0)), (1, .int r6), (2, .int x2_21)]) hx hb dX7_classes_36 hl (k := 3) rfl rfl (by decide) rfl (fun ls hl => ?_)
            refine lv_goto (tgt := 19) hx hb dX7_classes_39 (by decide) ?_
            exact ih12 x2_21 (x3_9 + (1 : Int32)) hf H locs hP hD hS _ (lv_sub hl [1, 2, 3, 0] rfl)
          refine lv_icmp_ne (tgt := 36) hx hb dX7_classes_30 (by decide) (fun c25 => ?_) (fun c25 => ?_)
          · have hf := it_f hf c25
            exact hJ23 x2_8 hf H locs hP hD hS _ (lv_sub hl [0, 1, 2, 3] rfl)
          · have hf := it_t hf c25
            refine lv_iinc (v := (x2_8 + (1 : Int32))) (lv' := [(2, .int (x2_8 + (1 : Int32))), (0, .ref (bF 0)), (1, .int r6), (3, .int x3_9)]) hx hb dX7_classes_33 hl (k := 2) rfl rfl (by decide) rfl (fun ls hl => ?_)
            exact hJ23 (x2_8 + (1 : Int32)) hf H locs hP hD hS _ (lv_sub hl [1, 2, 0, 3] rfl)
    exact hL11 (0 : Int32) (0 : Int32) hf H locs hP hD hS _ (lv_sub hl [3, 2, 1, 0] rfl)
  rw [hH, hlo] at hW
  exact hW
def f_X7_append (vF : Vs) (vD : Vs) (x1 : Int32) (x2 : Int32) (x3 : Int32) (x4 : Int32) (x5 : Int32) : Option (Int32 × Vs) :=
  if ((vD.1 1) + (20 : Int32)) ≤ (800 : Int32) then o1 (f_X5_putBytes vD x1) (fun (vD_2 : Vs) => o1 (f_X5_putBytes vD_2 x2) (fun (vD_4 : Vs) => o1 (f_X5_putBytes vD_4 x3) (fun (vD_6 : Vs) => o1 (f_X5_putBytes vD_6 x4) (fun (vD_8 : Vs) => o1 (f_X5_putBytes vD_8 x5) (fun (vD_10 : Vs) => some ((vD_10.1 1), vD_10)))))) else some ((-1 : Int32), vD)
abbrev wsX7_append : List Cond := .code yX7_append cX7_append 6 (some .int) :: UW
abbrev rmX7_append : Room := { frames := 1, cells := 0, slots := 0, locals := 22 }
set_option maxHeartbeats 4000000 in
set_option maxRecDepth 100000 in
theorem c_X7_append (l : Launch) (g : Gx) (bF : Nat → Nat) (qF1 : Nat) (qF2 : Nat) (qF3 : Nat) (qF4 : Nat) (vF : Vs) (bD : Nat → Nat) (qD0 : Nat) (vD : Vs) (x1 : Int32) (x2 : Int32) (x3 : Int32) (x4 : Int32) (x5 : Int32) (r : Int32) (vD1 : Vs) (hf : f_X7_append vF vD x1 x2 x3 x4 x5 = some (r, vD1)) : CtI l yX7_append wsX7_append rmX7_append g [.ref (bF 0), .int x1, .int x2, .int x3, .int x4, .int x5] (cF g bF (bD 0) qF1 qF2 qF3 qF4 vF ++ (cD g bD qD0 vD)) (cF g bF (bD 0) qF1 qF2 qF3 qF4 vF ++ (cD g bD qD0 vD1)) r 0 0 := by
  unfold CtI
  intro sz
  refine Met.ofW (cc := cX7_append) (maxL := 6) (ret := (some .int)) (by decide) rfl ?_
  intro p e s m args below meth c s₁ B hml hv
  obtain ⟨rfl, hsz, hP, hK, hD0, hG⟩ := hv
  have hx := B.exec
  have hb := B.bytes
  have hr := B.returns
  have hts := atoms_spec (ws := wsX7_append) B.pre
  have hown : s.vm.findClass RX7 = some m.cls := findClass_of_methodNamed B.named
  have hlocks := B.notSynchronized
  subst hsz
  have hD := hD0.self (sz := s.heap.size)
  generalize hAe : va_A (cF g bF (bD 0) qF1 qF2 qF3 qF4 vF ++ (cD g bD qD0 vD)) s.heap.size = A at hD hG ⊢
  have hA : ∀ q : Nat, s.heap.size ≤ q → A q := fun q h => by rw [← hAe]; exact Or.inr h
  clear hAe hD0
  have hS : va_S A s.heap s.heap [] := va_S.rf
  have hl := lv_entry ([.ref (bF 0), .int x1, .int x2, .int x3, .int x4, .int x5]) (n := 6) (Nat.le_of_ble_eq_true rfl)
  rw [lg_entry_eq]
  generalize (lg_sl ([.ref (bF 0), .int x1, .int x2, .int x3, .int x4, .int x5]) ++ List.replicate (6 - (lg_sl ([.ref (bF 0), .int x1, .int x2, .int x3, .int x4, .int x5])).length) Slot.unset).toArray = ls at hl ⊢
  have hl : lv_has ls 6 [(0, .ref (bF 0)), (1, .int x1), (2, .int x2), (3, .int x3), (4, .int x4), (5, .int x5)] := hl
  have htu : ∀ w ∈ UW, w.before _ s = true := fun w h => hts w (List.mem_cons_of_mem _ h)
  have k_2_11 := htu _ mw_2_11
  have k_1_160 := htu _ mw_1_160
  unfold f_X7_append at hf
  obtain ⟨H, hH⟩ : ∃ z, z = s.heap := ⟨_, rfl⟩
  obtain ⟨locs, hlo⟩ : ∃ z : List Loc, z = [] := ⟨_, rfl⟩
  have hS : va_S A s.heap H locs := by rw [hH, hlo]; exact hS
  rw [← hH] at hP
  have hW : W p l e (headSpec wsX7_append rmX7_append).room s m ([.ref (bF 0), .int x1, .int x2, .int x3, .int x4, .int x5] : List Value).toArray below meth c H locs 0 0 (MQ below (qI g A (cF g bF (bD 0) qF1 qF2 qF3 qF4 vF ++ (cD g bD qD0 vD1)) r) ([.ref (bF 0), .int x1, .int x2, .int x3, .int x4, .int x5] : List Value).toArray s 0 0 A) (F0 m 0 ls []) := by
    refine lv_aload_n hx hb dX7_append_0 rfl (lv_at hl 0 rfl) ?_
    refine va_get (D := g.1) (ci := 7) (fs := fcF bF (bD 0) qF1 qF2 qF3 qF4 vF) (v := .ref (bD 0)) (C := RX7) (T := TX7) (N := 12) hx hb htu hinX7 hown hK hP 0 rfl rfl 0 (by decide) k_2_11 (fun _ h9 => h9) rfl dX7_append_1 ?_
    refine va_get (D := g.1) (ci := 5) (fs := fcD bD qD0 vD) (v := .int (vD.1 1)) (C := RX5) (T := TX5) (N := 10) hx hb htu hinX5 hown hK hP 6 rfl rfl 1 (by decide) k_1_160 (fun _ h9 => h9) rfl dX7_append_4 ?_
    refine lv_bipush (v := (20 : Int32)) hx hb dX7_append_7 (by decide) ?_
    refine lv_iadd hx hb dX7_append_9 ?_
    refine lv_sipush (v := (800 : Int32)) hx hb dX7_append_10 (by decide) ?_
    refine lv_icmp_le (tgt := 18) hx hb dX7_append_13 (by decide) (fun c1 => ?_) (fun c1 => ?_)
    · have hf := it_t hf c1
      refine lv_aload_n hx hb dX7_append_18 rfl (lv_at hl 0 rfl) ?_
      refine va_get (D := g.1) (ci := 7) (fs := fcF bF (bD 0) qF1 qF2 qF3 qF4 vF) (v := .ref (bD 0)) (C := RX7) (T := TX7) (N := 12) hx hb htu hinX7 hown hK hP 0 rfl rfl 0 (by decide) k_2_11 (fun _ h9 => h9) rfl dX7_append_19 ?_
      refine lv_iload_n hx hb dX7_append_22 rfl (lv_at hl 1 rfl) ?_
      obtain ⟨vD_2, hg3, hf⟩ := o1_at hf
      refine k_vvP ⟨hx, hb, hml, hown, htu⟩ hK hP hD hS hA hG (c_X5_putBytes l g bD qD0 vD x1 vD_2 hg3) (cwV 1 htu (gU_V mw_3_205 hcX5_putBytes) rfl rfl rfl hdX5_putBytes ⟨Nat.le_of_ble_eq_true rfl, Nat.le_of_ble_eq_true rfl⟩) (q0 := 6) (ci := 5) (fs := fcD bD qD0 vD) (q := (RX5, TX5, 10)) rfl rfl rfl (wr := (cF g bF (bD 0) qF1 qF2 qF3 qF4 vF)) (w2 := cF g bF (bD 0) qF1 qF2 qF3 qF4 vF ++ (cD g bD qD0 vD_2)) [6, 7] [0, 1, 2, 3, 4, 5] [0, 1, 2, 3, 4, 5, 6, 7] rfl rfl (by decide) (by decide) (by decide) rfl rfl (by decide) (As := [.int x1]) (rest := []) rfl rfl hl.1 (Nat.le_of_ble_eq_true rfl) dX7_append_23 (k1 := 0) (n1 := 0) rfl rfl ⟨Nat.zero_le _, Nat.zero_le _⟩ (fun H locs hP hD hS => ?_)
      refine lv_aload_n hx hb dX7_append_26 rfl (lv_at hl 0 rfl) ?_
      refine va_get (D := g.1) (ci := 7) (fs := fcF bF (bD 0) qF1 qF2 qF3 qF4 vF) (v := .ref (bD 0)) (C := RX7) (T := TX7) (N := 12) hx hb htu hinX7 hown hK hP 0 rfl rfl 0 (by decide) k_2_11 (fun _ h9 => h9) rfl dX7_append_27 ?_
      refine lv_iload_n hx hb dX7_append_30 rfl (lv_at hl 2 rfl) ?_
      obtain ⟨vD_4, hg5, hf⟩ := o1_at hf
      refine k_vvP ⟨hx, hb, hml, hown, htu⟩ hK hP hD hS hA hG (c_X5_putBytes l g bD qD0 vD_2 x2 vD_4 hg5) (cwV 1 htu (gU_V mw_3_205 hcX5_putBytes) rfl rfl rfl hdX5_putBytes ⟨Nat.le_of_ble_eq_true rfl, Nat.le_of_ble_eq_true rfl⟩) (q0 := 6) (ci := 5) (fs := fcD bD qD0 vD_2) (q := (RX5, TX5, 10)) rfl rfl rfl (wr := (cF g bF (bD 0) qF1 qF2 qF3 qF4 vF)) (w2 := cF g bF (bD 0) qF1 qF2 qF3 qF4 vF ++ (cD g bD qD0 vD_4)) [6, 7] [0, 1, 2, 3, 4, 5] [0, 1, 2, 3, 4, 5, 6, 7] rfl rfl (by decide) (by decide) (by decide) rfl rfl (by decide) (As := [.int x2]) (rest := []) rfl rfl hl.1 (Nat.le_of_ble_eq_true rfl) dX7_append_31 (k1 := 0) (n1 := 0) rfl rfl ⟨Nat.zero_le _, Nat.zero_le _⟩ (fun H locs hP hD hS => ?_)
      refine lv_aload_n hx hb dX7_append_34 rfl (lv_at hl 0 rfl) ?_
      refine va_get (D := g.1) (ci := 7) (fs := fcF bF (bD 0) qF1 qF2 qF3 qF4 vF) (v := .ref (bD 0)) (C := RX7) (T := TX7) (N := 12) hx hb htu hinX7 hown hK hP 0 rfl rfl 0 (by decide) k_2_11 (fun _ h9 => h9) rfl dX7_append_35 ?_
      refine lv_iload_n hx hb dX7_append_38 rfl (lv_at hl 3 rfl) ?_
      obtain ⟨vD_6, hg7, hf⟩ := o1_at hf
      refine k_vvP ⟨hx, hb, hml, hown, htu⟩ hK hP hD hS hA hG (c_X5_putBytes l g bD qD0 vD_4 x3 vD_6 hg7) (cwV 1 htu (gU_V mw_3_205 hcX5_putBytes) rfl rfl rfl hdX5_putBytes ⟨Nat.le_of_ble_eq_true rfl, Nat.le_of_ble_eq_true rfl⟩) (q0 := 6) (ci := 5) (fs := fcD bD qD0 vD_4) (q := (RX5, TX5, 10)) rfl rfl rfl (wr := (cF g bF (bD 0) qF1 qF2 qF3 qF4 vF)) (w2 := cF g bF (bD 0) qF1 qF2 qF3 qF4 vF ++ (cD g bD qD0 vD_6)) [6, 7] [0, 1, 2, 3, 4, 5] [0, 1, 2, 3, 4, 5, 6, 7] rfl rfl (by decide) (by decide) (by decide) rfl rfl (by decide) (As := [.int x3]) (rest := []) rfl rfl hl.1 (Nat.le_of_ble_eq_true rfl) dX7_append_39 (k1 := 0) (n1 := 0) rfl rfl ⟨Nat.zero_le _, Nat.zero_le _⟩ (fun H locs hP hD hS => ?_)
      refine lv_aload_n hx hb dX7_append_42 rfl (lv_at hl 0 rfl) ?_
      refine va_get (D := g.1) (ci := 7) (fs := fcF bF (bD 0) qF1 qF2 qF3 qF4 vF) (v := .ref (bD 0)) (C := RX7) (T := TX7) (N := 12) hx hb htu hinX7 hown hK hP 0 rfl rfl 0 (by decide) k_2_11 (fun _ h9 => h9) rfl dX7_append_43 ?_
      refine lv_iload hx hb dX7_append_46 (lv_at hl 4 rfl) ?_
      obtain ⟨vD_8, hg9, hf⟩ := o1_at hf
      refine k_vvP ⟨hx, hb, hml, hown, htu⟩ hK hP hD hS hA hG (c_X5_putBytes l g bD qD0 vD_6 x4 vD_8 hg9) (cwV 1 htu (gU_V mw_3_205 hcX5_putBytes) rfl rfl rfl hdX5_putBytes ⟨Nat.le_of_ble_eq_true rfl, Nat.le_of_ble_eq_true rfl⟩) (q0 := 6) (ci := 5) (fs := fcD bD qD0 vD_6) (q := (RX5, TX5, 10)) rfl rfl rfl (wr := (cF g bF (bD 0) qF1 qF2 qF3 qF4 vF)) (w2 := cF g bF (bD 0) qF1 qF2 qF3 qF4 vF ++ (cD g bD qD0 vD_8)) [6, 7] [0, 1, 2, 3, 4, 5] [0, 1, 2, 3, 4, 5, 6, 7] rfl rfl (by decide) (by decide) (by decide) rfl rfl (by decide) (As := [.int x4]) (rest := []) rfl rfl hl.1 (Nat.le_of_ble_eq_true rfl) dX7_append_48 (k1 := 0) (n1 := 0) rfl rfl ⟨Nat.zero_le _, Nat.zero_le _⟩ (fun H locs hP hD hS => ?_)
      refine lv_aload_n hx hb dX7_append_51 rfl (lv_at hl 0 rfl) ?_
      refine va_get (D := g.1) (ci := 7) (fs := fcF bF (bD 0) qF1 qF2 qF3 qF4 vF) (v := .ref (bD 0)) (C := RX7) (T := TX7) (N := 12) hx hb htu hinX7 hown hK hP 0 rfl rfl 0 (by decide) k_2_11 (fun _ h9 => h9) rfl dX7_append_52 ?_
      refine lv_iload hx hb dX7_append_55 (lv_at hl 5 rfl) ?_
      obtain ⟨vD_10, hg11, hf⟩ := o1_at hf
      refine k_vvP ⟨hx, hb, hml, hown, htu⟩ hK hP hD hS hA hG (c_X5_putBytes l g bD qD0 vD_8 x5 vD_10 hg11) (cwV 1 htu (gU_V mw_3_205 hcX5_putBytes) rfl rfl rfl hdX5_putBytes ⟨Nat.le_of_ble_eq_true rfl, Nat.le_of_ble_eq_true rfl⟩) (q0 := 6) (ci := 5) (fs := fcD bD qD0 vD_8) (q := (RX5, TX5, 10)) rfl rfl rfl (wr := (cF g bF (bD 0) qF1 qF2 qF3 qF4 vF)) (w2 := cF g bF (bD 0) qF1 qF2 qF3 qF4 vF ++ (cD g bD qD0 vD_10)) [6, 7] [0, 1, 2, 3, 4, 5] [0, 1, 2, 3, 4, 5, 6, 7] rfl rfl (by decide) (by decide) (by decide) rfl rfl (by decide) (As := [.int x5]) (rest := []) rfl rfl hl.1 (Nat.le_of_ble_eq_true rfl) dX7_append_57 (k1 := 0) (n1 := 0) rfl rfl ⟨Nat.zero_le _, Nat.zero_le _⟩ (fun H locs hP hD hS => ?_)
      refine lv_aload_n hx hb dX7_append_60 rfl (lv_at hl 0 rfl) ?_
      refine va_get (D := g.1) (ci := 7) (fs := fcF bF (bD 0) qF1 qF2 qF3 qF4 vF) (v := .ref (bD 0)) (C := RX7) (T := TX7) (N := 12) hx hb htu hinX7 hown hK hP 0 rfl rfl 0 (by decide) k_2_11 (fun _ h9 => h9) rfl dX7_append_61 ?_
      refine va_get (D := g.1) (ci := 5) (fs := fcD bD qD0 vD_10) (v := .int (vD_10.1 1)) (C := RX5) (T := TX5) (N := 10) hx hb htu hinX5 hown hK hP 6 rfl rfl 1 (by decide) k_1_160 (fun _ h9 => h9) rfl dX7_append_64 ?_
      obtain ⟨e12, e13⟩ := kp_2 hf
      rw [e13] at hP hD
      exact k_iret hx hb hr hlocks hK hP hD hS e12 dX7_append_67
    · have hf := it_f hf c1
      refine lv_iconst (v := (-1 : Int32)) hx hb dX7_append_16 (by decide) ?_
      obtain ⟨e14, e15⟩ := kp_2 hf
      rw [e15] at hP hD
      exact k_iret hx hb hr hlocks hK hP hD hS e14 dX7_append_17
  rw [hH, hlo] at hW
  exact hW
