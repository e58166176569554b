def f_X7_checkWire (vF : Vs) (vC : Vs) (x1 : Int32) : Option (Nat) :=
  jn (some (2)) (fun k1 => if x1 < 0 then k1 else if x1 < (vC.1 1) then some (0) else k1)
abbrev wsX7_checkWire : List Cond := .code yX7_checkWire cX7_checkWire 2 none :: UW
abbrev rmX7_checkWire : Room := { frames := 1, cells := 0, slots := 0, locals := 12 }
set_option maxHeartbeats 4000000 in
set_option maxRecDepth 100000 in
theorem c_X7_checkWire (l : Launch) (g : Gx) (bF : Nat → Nat) (qF0 : Nat) (qF2 : Nat) (qF3 : Nat) (qF4 : Nat) (vF : Vs) (bS : Nat → Nat) (qS1 : Nat) (bC : Nat → Nat) (vC : Vs) (x1 : Int32) (hf : f_X7_checkWire vF vC x1 = some 0) : CtV l yX7_checkWire wsX7_checkWire rmX7_checkWire g [.ref (bF 0), .int x1] (cF g bF qF0 (bS 0) qF2 qF3 qF4 vF ++ (cS g bS (bC 0) qS1 ++ (cC g bC vC))) (cF g bF qF0 (bS 0) qF2 qF3 qF4 vF ++ (cS g bS (bC 0) qS1 ++ (cC g bC vC))) 0 0 := by
  unfold CtV
  intro sz
  refine Met.ofW (cc := cX7_checkWire) (maxL := 2) (ret := none) (by decide) rfl ?_
  intro p e s m args below meth c s₁ B hml hv
  obtain ⟨rfl, hsz, hP, hK, hD0, hG⟩ := hv
  have hx := B.exec
  have hb := B.bytes
  have hr := B.returns
  have hts := atoms_spec (ws := wsX7_checkWire) B.pre
  have hown : s.vm.findClass RX7 = some m.cls := findClass_of_methodNamed B.named
  have hlocks := B.notSynchronized
  subst hsz
  have hD := hD0.self (sz := s.heap.size)
  generalize hAe : va_A (cF g bF qF0 (bS 0) qF2 qF3 qF4 vF ++ (cS g bS (bC 0) qS1 ++ (cC g bC vC))) s.heap.size = A at hD hG ⊢
  have hA : ∀ q : Nat, s.heap.size ≤ q → A q := fun q h => by rw [← hAe]; exact Or.inr h
  clear hAe hD0
  have hS : va_S A s.heap s.heap [] := va_S.rf
  have hl := lv_entry ([.ref (bF 0), .int x1]) (n := 2) (Nat.le_of_ble_eq_true rfl)
  rw [lg_entry_eq]
  generalize (lg_sl ([.ref (bF 0), .int x1]) ++ List.replicate (2 - (lg_sl ([.ref (bF 0), .int x1])).length) Slot.unset).toArray = ls at hl ⊢
  have hl : lv_has ls 2 [(0, .ref (bF 0)), (1, .int x1)] := hl
  have htu : ∀ w ∈ UW, w.before _ s = true := fun w h => hts w (List.mem_cons_of_mem _ h)
  have k_2_12 := htu _ mw_2_12
  have k_1_147 := htu _ mw_1_147
  have k_1_64 := htu _ mw_1_64
  unfold f_X7_checkWire at hf
  obtain ⟨H, hH⟩ : ∃ z, z = s.heap := ⟨_, rfl⟩
  obtain ⟨locs, hlo⟩ : ∃ z : List Loc, z = [] := ⟨_, rfl⟩
  have hS : va_S A s.heap H locs := by rw [hH, hlo]; exact hS
  rw [← hH] at hP
  have hW : W p l e (headSpec wsX7_checkWire rmX7_checkWire).room s m ([.ref (bF 0), .int x1] : List Value).toArray below meth c H locs 0 0 (MQ below (qV g A (cF g bF qF0 (bS 0) qF2 qF3 qF4 vF ++ (cS g bS (bC 0) qS1 ++ (cC g bC vC)))) ([.ref (bF 0), .int x1] : List Value).toArray s 0 0 A) (F0 m 0 ls []) := by
    refine lv_iload_n hx hb dX7_checkWire_0 rfl (lv_at hl 1 rfl) ?_
    obtain ⟨k1, hk3, hf⟩ := jn_at hf
    have hJ2 : k1 = some 0 → ∀ (H : Heap) (locs : List Loc), va_P g.1 vwCl (cF g bF qF0 (bS 0) qF2 qF3 qF4 vF ++ (cS g bS (bC 0) qS1 ++ (cC g bC vC))) H → va_D A (cF g bF qF0 (bS 0) qF2 qF3 qF4 vF ++ (cS g bS (bC 0) qS1 ++ (cC g bC vC))) → va_S A s.heap H locs → ∀ ls : Array Slot, lv_has ls 2 [] → W p l e (headSpec wsX7_checkWire rmX7_checkWire).room s m ([.ref (bF 0), .int x1] : List Value).toArray below meth c H locs 0 0 (MQ below (qV g A (cF g bF qF0 (bS 0) qF2 qF3 qF4 vF ++ (cS g bS (bC 0) qS1 ++ (cC g bC vC)))) ([.ref (bF 0), .int x1] : List Value).toArray s 0 0 A) (F0 m 18 ls []) := by
      intro hf H locs hP hD hS ls hl
      rw [hk3] at hf
      clear hk3
      exact absurd (Option.some.inj hf) (by decide)
    refine lv_if_lt (tgt := 18) hx hb dX7_checkWire_1 (by decide) (fun c4 => ?_) (fun c4 => ?_)
    · have hf := it_t hf c4
      exact hJ2 hf H locs hP hD hS _ (lv_sub hl [] rfl)
    · have hf := it_f hf c4
      refine lv_iload_n hx hb dX7_checkWire_4 rfl (lv_at hl 1 rfl) ?_
      refine lv_aload_n hx hb dX7_checkWire_5 rfl (lv_at hl 0 rfl) ?_
      refine va_get (D := g.1) (ci := 7) (fs := fcF bF qF0 (bS 0) qF2 qF3 qF4 vF) (v := .ref (bS 0)) (C := RX7) (T := TX7) (N := 12) hx hb htu hinX7 hown hK hP 0 rfl rfl 1 (by decide) k_2_12 (fun _ h9 => h9) rfl dX7_checkWire_6 ?_
      refine va_get (D := g.1) (ci := 4) (fs := fcS bS (bC 0) qS1) (v := .ref (bC 0)) (C := RX4) (T := TX4) (N := 2) hx hb htu hinX4 hown hK hP 6 rfl rfl 0 (by decide) k_1_147 (fun _ h9 => h9) rfl dX7_checkWire_9 ?_
      refine va_get (D := g.1) (ci := 0) (fs := fcC bC vC) (v := .int (vC.1 1)) (C := RX0) (T := TX0) (N := 14) hx hb htu hinX0 hown hK hP 7 rfl rfl 1 (by decide) k_1_64 (fun _ h9 => h9) rfl dX7_checkWire_12 ?_
      refine lv_icmp_lt (tgt := 29) hx hb dX7_checkWire_15 (by decide) (fun c5 => ?_) (fun c5 => ?_)
      · have hf := it_t hf c5
        have e6 := Option.some.inj hf
        exact k_vret hx hb hr hlocks hK hP hD hS dX7_checkWire_29
      · have hf := it_f hf c5
        exact hJ2 hf H locs hP hD hS _ (lv_sub hl [] rfl)
  rw [hH, hlo] at hW
  exact hW
def f_X7_checkTest (vF : Vs) (vT : Vs) (x1 : Int32) : Option (Nat) :=
  jn (some (2)) (fun k1 => if x1 < 0 then k1 else if x1 < (vT.1 0) then some (0) else k1)
abbrev wsX7_checkTest : List Cond := .code yX7_checkTest cX7_checkTest 2 none :: UW
abbrev rmX7_checkTest : Room := { frames := 1, cells := 0, slots := 0, locals := 12 }
set_option maxHeartbeats 4000000 in
set_option maxRecDepth 100000 in
theorem c_X7_checkTest (l : Launch) (g : Gx) (bF : Nat → Nat) (qF0 : Nat) (qF2 : Nat) (qF3 : Nat) (qF4 : Nat) (vF : Vs) (bS : Nat → Nat) (qS0 : Nat) (bT : Nat → Nat) (vT : Vs) (x1 : Int32) (hf : f_X7_checkTest vF vT x1 = some 0) : CtV l yX7_checkTest wsX7_checkTest rmX7_checkTest g [.ref (bF 0), .int x1] (cF g bF qF0 (bS 0) qF2 qF3 qF4 vF ++ (cS g bS qS0 (bT 0) ++ (cT g bT vT))) (cF g bF qF0 (bS 0) qF2 qF3 qF4 vF ++ (cS g bS qS0 (bT 0) ++ (cT g bT vT))) 0 0 := by
  unfold CtV
  intro sz
  refine Met.ofW (cc := cX7_checkTest) (maxL := 2) (ret := none) (by decide) rfl ?_
  intro p e s m args below meth c s₁ B hml hv
  obtain ⟨rfl, hsz, hP, hK, hD0, hG⟩ := hv
  have hx := B.exec
  have hb := B.bytes
  have hr := B.returns
  have hts := atoms_spec (ws := wsX7_checkTest) B.pre
  have hown : s.vm.findClass RX7 = some m.cls := findClass_of_methodNamed B.named
  have hlocks := B.notSynchronized
  subst hsz
  have hD := hD0.self (sz := s.heap.size)
  generalize hAe : va_A (cF g bF qF0 (bS 0) qF2 qF3 qF4 vF ++ (cS g bS qS0 (bT 0) ++ (cT g bT vT))) s.heap.size = A at hD hG ⊢
  have hA : ∀ q : Nat, s.heap.size ≤ q → A q := fun q h => by rw [← hAe]; exact Or.inr h
  clear hAe hD0
  have hS : va_S A s.heap s.heap [] := va_S.rf
  have hl := lv_entry ([.ref (bF 0), .int x1]) (n := 2) (Nat.le_of_ble_eq_true rfl)
  rw [lg_entry_eq]
  generalize (lg_sl ([.ref (bF 0), .int x1]) ++ List.replicate (2 - (lg_sl ([.ref (bF 0), .int x1])).length) Slot.unset).toArray = ls at hl ⊢
  have hl : lv_has ls 2 [(0, .ref (bF 0)), (1, .int x1)] := hl
  have htu : ∀ w ∈ UW, w.before _ s = true := fun w h => hts w (List.mem_cons_of_mem _ h)
  have k_2_12 := htu _ mw_2_12
  have k_1_150 := htu _ mw_1_150
  have k_1_128 := htu _ mw_1_128
  unfold f_X7_checkTest at hf
  obtain ⟨H, hH⟩ : ∃ z, z = s.heap := ⟨_, rfl⟩
  obtain ⟨locs, hlo⟩ : ∃ z : List Loc, z = [] := ⟨_, rfl⟩
  have hS : va_S A s.heap H locs := by rw [hH, hlo]; exact hS
  rw [← hH] at hP
  have hW : W p l e (headSpec wsX7_checkTest rmX7_checkTest).room s m ([.ref (bF 0), .int x1] : List Value).toArray below meth c H locs 0 0 (MQ below (qV g A (cF g bF qF0 (bS 0) qF2 qF3 qF4 vF ++ (cS g bS qS0 (bT 0) ++ (cT g bT vT)))) ([.ref (bF 0), .int x1] : List Value).toArray s 0 0 A) (F0 m 0 ls []) := by
    refine lv_iload_n hx hb dX7_checkTest_0 rfl (lv_at hl 1 rfl) ?_
    obtain ⟨k1, hk3, hf⟩ := jn_at hf
    have hJ2 : k1 = some 0 → ∀ (H : Heap) (locs : List Loc), va_P g.1 vwCl (cF g bF qF0 (bS 0) qF2 qF3 qF4 vF ++ (cS g bS qS0 (bT 0) ++ (cT g bT vT))) H → va_D A (cF g bF qF0 (bS 0) qF2 qF3 qF4 vF ++ (cS g bS qS0 (bT 0) ++ (cT g bT vT))) → va_S A s.heap H locs → ∀ ls : Array Slot, lv_has ls 2 [] → W p l e (headSpec wsX7_checkTest rmX7_checkTest).room s m ([.ref (bF 0), .int x1] : List Value).toArray below meth c H locs 0 0 (MQ below (qV g A (cF g bF qF0 (bS 0) qF2 qF3 qF4 vF ++ (cS g bS qS0 (bT 0) ++ (cT g bT vT)))) ([.ref (bF 0), .int x1] : List Value).toArray s 0 0 A) (F0 m 18 ls []) := by
      intro hf H locs hP hD hS ls hl
      rw [hk3] at hf
      clear hk3
      exact absurd (Option.some.inj hf) (by decide)
    refine lv_if_lt (tgt := 18) hx hb dX7_checkTest_1 (by decide) (fun c4 => ?_) (fun c4 => ?_)
    · have hf := it_t hf c4
      exact hJ2 hf H locs hP hD hS _ (lv_sub hl [] rfl)
    · have hf := it_f hf c4
      refine lv_iload_n hx hb dX7_checkTest_4 rfl (lv_at hl 1 rfl) ?_
      refine lv_aload_n hx hb dX7_checkTest_5 rfl (lv_at hl 0 rfl) ?_
      refine va_get (D := g.1) (ci := 7) (fs := fcF bF qF0 (bS 0) qF2 qF3 qF4 vF) (v := .ref (bS 0)) (C := RX7) (T := TX7) (N := 12) hx hb htu hinX7 hown hK hP 0 rfl rfl 1 (by decide) k_2_12 (fun _ h9 => h9) rfl dX7_checkTest_6 ?_
      refine va_get (D := g.1) (ci := 4) (fs := fcS bS qS0 (bT 0)) (v := .ref (bT 0)) (C := RX4) (T := TX4) (N := 2) hx hb htu hinX4 hown hK hP 6 rfl rfl 1 (by decide) k_1_150 (fun _ h9 => h9) rfl dX7_checkTest_9 ?_
      refine va_get (D := g.1) (ci := 6) (fs := fcT bT vT) (v := .int (vT.1 0)) (C := RX6) (T := TX6) (N := 5) hx hb htu hinX6 hown hK hP 7 rfl rfl 0 (by decide) k_1_128 (fun _ h9 => h9) rfl dX7_checkTest_12 ?_
      refine lv_icmp_lt (tgt := 29) hx hb dX7_checkTest_15 (by decide) (fun c5 => ?_) (fun c5 => ?_)
      · have hf := it_t hf c5
        have e6 := Option.some.inj hf
        exact k_vret hx hb hr hlocks hK hP hD hS dX7_checkTest_29
      · have hf := it_f hf c5
        exact hJ2 hf H locs hP hD hS _ (lv_sub hl [] rfl)
  rw [hH, hlo] at hW
  exact hW
def f_X7_checkFault (vF : Vs) (vC : Vs) (x1 : Int32) : Option (Nat) :=
  jn (some (2)) (fun k1 => if x1 < 0 then k1 else o1 (f_X0_faultCount vC) (fun (r5 : Int32) => if x1 < r5 then some (0) else k1))
abbrev wsX7_checkFault : List Cond := .code yX7_checkFault cX7_checkFault 2 none :: UW
abbrev rmX7_checkFault : Room := { frames := 1, cells := 0, slots := 0, locals := 20 }
set_option maxHeartbeats 4000000 in
set_option maxRecDepth 100000 in
theorem c_X7_checkFault (l : Launch) (g : Gx) (bF : Nat → Nat) (qF0 : Nat) (qF2 : Nat) (qF3 : Nat) (qF4 : Nat) (vF : Vs) (bS : Nat → Nat) (qS1 : Nat) (bC : Nat → Nat) (vC : Vs) (x1 : Int32) (hf : f_X7_checkFault vF vC x1 = some 0) : CtV l yX7_checkFault wsX7_checkFault rmX7_checkFault g [.ref (bF 0), .int x1] (cF g bF qF0 (bS 0) qF2 qF3 qF4 vF ++ (cS g bS (bC 0) qS1 ++ (cC g bC vC))) (cF g bF qF0 (bS 0) qF2 qF3 qF4 vF ++ (cS g bS (bC 0) qS1 ++ (cC g bC vC))) 0 0 := by
  unfold CtV
  intro sz
  refine Met.ofW (cc := cX7_checkFault) (maxL := 2) (ret := none) (by decide) rfl ?_
  intro p e s m args below meth c s₁ B hml hv
  obtain ⟨rfl, hsz, hP, hK, hD0, hG⟩ := hv
  have hx := B.exec
  have hb := B.bytes
  have hr := B.returns
  have hts := atoms_spec (ws := wsX7_checkFault) B.pre
  have hown : s.vm.findClass RX7 = some m.cls := findClass_of_methodNamed B.named
  have hlocks := B.notSynchronized
  subst hsz
  have hD := hD0.self (sz := s.heap.size)
  generalize hAe : va_A (cF g bF qF0 (bS 0) qF2 qF3 qF4 vF ++ (cS g bS (bC 0) qS1 ++ (cC g bC vC))) s.heap.size = A at hD hG ⊢
  have hA : ∀ q : Nat, s.heap.size ≤ q → A q := fun q h => by rw [← hAe]; exact Or.inr h
  clear hAe hD0
  have hS : va_S A s.heap s.heap [] := va_S.rf
  have hl := lv_entry ([.ref (bF 0), .int x1]) (n := 2) (Nat.le_of_ble_eq_true rfl)
  rw [lg_entry_eq]
  generalize (lg_sl ([.ref (bF 0), .int x1]) ++ List.replicate (2 - (lg_sl ([.ref (bF 0), .int x1])).length) Slot.unset).toArray = ls at hl ⊢
  have hl : lv_has ls 2 [(0, .ref (bF 0)), (1, .int x1)] := hl
  have htu : ∀ w ∈ UW, w.before _ s = true := fun w h => hts w (List.mem_cons_of_mem _ h)
  have k_2_12 := htu _ mw_2_12
  have k_1_147 := htu _ mw_1_147
  unfold f_X7_checkFault at hf
  obtain ⟨H, hH⟩ : ∃ z, z = s.heap := ⟨_, rfl⟩
  obtain ⟨locs, hlo⟩ : ∃ z : List Loc, z = [] := ⟨_, rfl⟩
  have hS : va_S A s.heap H locs := by rw [hH, hlo]; exact hS
  rw [← hH] at hP
  have hW : W p l e (headSpec wsX7_checkFault rmX7_checkFault).room s m ([.ref (bF 0), .int x1] : List Value).toArray below meth c H locs 0 0 (MQ below (qV g A (cF g bF qF0 (bS 0) qF2 qF3 qF4 vF ++ (cS g bS (bC 0) qS1 ++ (cC g bC vC)))) ([.ref (bF 0), .int x1] : List Value).toArray s 0 0 A) (F0 m 0 ls []) := by
    refine lv_iload_n hx hb dX7_checkFault_0 rfl (lv_at hl 1 rfl) ?_
    obtain ⟨k1, hk3, hf⟩ := jn_at hf
    have hJ2 : k1 = some 0 → ∀ (H : Heap) (locs : List Loc), va_P g.1 vwCl (cF g bF qF0 (bS 0) qF2 qF3 qF4 vF ++ (cS g bS (bC 0) qS1 ++ (cC g bC vC))) H → va_D A (cF g bF qF0 (bS 0) qF2 qF3 qF4 vF ++ (cS g bS (bC 0) qS1 ++ (cC g bC vC))) → va_S A s.heap H locs → ∀ ls : Array Slot, lv_has ls 2 [] → W p l e (headSpec wsX7_checkFault rmX7_checkFault).room s m ([.ref (bF 0), .int x1] : List Value).toArray below meth c H locs 0 0 (MQ below (qV g A (cF g bF qF0 (bS 0) qF2 qF3 qF4 vF ++ (cS g bS (bC 0) qS1 ++ (cC g bC vC)))) ([.ref (bF 0), .int x1] : List Value).toArray s 0 0 A) (F0 m 18 ls []) := by
      intro hf H locs hP hD hS ls hl
      rw [hk3] at hf
      clear hk3
      exact absurd (Option.some.inj hf) (by decide)
    refine lv_if_lt (tgt := 18) hx hb dX7_checkFault_1 (by decide) (fun c4 => ?_) (fun c4 => ?_)
    · have hf := it_t hf c4
      exact hJ2 hf H locs hP hD hS _ (lv_sub hl [] rfl)
    · have hf := it_f hf c4
      refine lv_iload_n hx hb dX7_checkFault_4 rfl (lv_at hl 1 rfl) ?_
      refine lv_aload_n hx hb dX7_checkFault_5 rfl (lv_at hl 0 rfl) ?_
      refine va_get (D := g.1) (ci := 7) (fs := fcF bF qF0 (bS 0) qF2 qF3 qF4 vF) (v := .ref (bS 0)) (C := RX7) (T := TX7) (N := 12) hx hb htu hinX7 hown hK hP 0 rfl rfl 1 (by decide) k_2_12 (fun _ h9 => h9) rfl dX7_checkFault_6 ?_
      refine va_get (D := g.1) (ci := 4) (fs := fcS bS (bC 0) qS1) (v := .ref (bC 0)) (C := RX4) (T := TX4) (N := 2) hx hb htu hinX4 hown hK hP 6 rfl rfl 0 (by decide) k_1_147 (fun _ h9 => h9) rfl dX7_checkFault_9 ?_
      obtain ⟨r5, hg6, hf⟩ := o1_at hf
      refine k_viP ⟨hx, hb, hml, hown, htu⟩ hK hP hD hS hA hG (c_X0_faultCount l g bC vC r5 hg6) (cwV 0 htu (gU_V mw_2_52 hcX0_faultCount) rfl rfl rfl hdX0_faultCount ⟨Nat.le_of_ble_eq_true rfl, Nat.le_of_ble_eq_true rfl⟩) (q0 := 7) (ci := 0) (fs := fcC bC vC) (q := (RX0, TX0, 14)) rfl rfl rfl (wr := (cF g bF qF0 (bS 0) qF2 qF3 qF4 vF ++ (cS g bS (bC 0) qS1))) (w2 := cF g bF qF0 (bS 0) qF2 qF3 qF4 vF ++ (cS g bS (bC 0) qS1 ++ (cC g bC vC))) [7, 8, 9, 10, 11, 12, 13, 14, 15, 16, 17] [0, 1, 2, 3, 4, 5, 6] [0, 1, 2, 3, 4, 5, 6, 7, 8, 9, 10, 11, 12, 13, 14, 15, 16, 17] rfl rfl (by decide) (by decide) (by decide) rfl rfl (by decide) (As := []) (rest := [.int x1]) rfl rfl hl.1 (Nat.le_of_ble_eq_true rfl) dX7_checkFault_12 (k1 := 0) (n1 := 0) rfl rfl ⟨Nat.zero_le _, Nat.zero_le _⟩ (fun H locs hP hD hS => ?_)
      refine lv_icmp_lt (tgt := 29) hx hb dX7_checkFault_15 (by decide) (fun c7 => ?_) (fun c7 => ?_)
      · have hf := it_t hf c7
        have e8 := Option.some.inj hf
        exact k_vret hx hb hr hlocks hK hP hD hS dX7_checkFault_29
      · have hf := it_f hf c7
        exact hJ2 hf H locs hP hD hS _ (lv_sub hl [] rfl)
  rw [hH, hlo] at hW
  exact hW
def f_X7_areInputs (vF : Vs) (vC : Vs) (x1 : Int32) : Option (Int32) :=
  jn (fun (t1 : Int32) => gd (isB t1) (some (t1))) (fun k2 => if (x1 >>> ((vC.1 0) &&& 31)) = 0 then k2 (1 : Int32) else k2 (0 : Int32))
abbrev wsX7_areInputs : List Cond := .code yX7_areInputs cX7_areInputs 2 (some .boolean) :: UW
abbrev rmX7_areInputs : Room := { frames := 0, cells := 0, slots := 0, locals := 0 }
set_option maxHeartbeats 4000000 in
set_option maxRecDepth 100000 in
theorem c_X7_areInputs (l : Launch) (g : Gx) (bF : Nat → Nat) (qF0 : Nat) (qF2 : Nat) (qF3 : Nat) (qF4 : Nat) (vF : Vs) (bS : Nat → Nat) (qS1 : Nat) (bC : Nat → Nat) (vC : Vs) (x1 : Int32) (r : Int32) (hf : f_X7_areInputs vF vC x1 = some r) : CtI l yX7_areInputs wsX7_areInputs rmX7_areInputs g [.ref (bF 0), .int x1] (cF g bF qF0 (bS 0) qF2 qF3 qF4 vF ++ (cS g bS (bC 0) qS1 ++ (cC g bC vC))) (cF g bF qF0 (bS 0) qF2 qF3 qF4 vF ++ (cS g bS (bC 0) qS1 ++ (cC g bC vC))) r 0 0 := by
  unfold CtI
  intro sz
  refine Met.ofW (cc := cX7_areInputs) (maxL := 2) (ret := (some .boolean)) (by decide) rfl ?_
  intro p e s m args below meth c s₁ B hml hv
  obtain ⟨rfl, hsz, hP, hK, hD0, hG⟩ := hv
  have hx := B.exec
  have hb := B.bytes
  have hr := B.returns
  have hts := atoms_spec (ws := wsX7_areInputs) B.pre
  have hown : s.vm.findClass RX7 = some m.cls := findClass_of_methodNamed B.named
  have hlocks := B.notSynchronized
  subst hsz
  have hD := hD0.self (sz := s.heap.size)
  generalize hAe : va_A (cF g bF qF0 (bS 0) qF2 qF3 qF4 vF ++ (cS g bS (bC 0) qS1 ++ (cC g bC vC))) s.heap.size = A at hD hG ⊢
  have hA : ∀ q : Nat, s.heap.size ≤ q → A q := fun q h => by rw [← hAe]; exact Or.inr h
  clear hAe hD0
  have hS : va_S A s.heap s.heap [] := va_S.rf
  have hl := lv_entry ([.ref (bF 0), .int x1]) (n := 2) (Nat.le_of_ble_eq_true rfl)
  rw [lg_entry_eq]
  generalize (lg_sl ([.ref (bF 0), .int x1]) ++ List.replicate (2 - (lg_sl ([.ref (bF 0), .int x1])).length) Slot.unset).toArray = ls at hl ⊢
  have hl : lv_has ls 2 [(0, .ref (bF 0)), (1, .int x1)] := hl
  have htu : ∀ w ∈ UW, w.before _ s = true := fun w h => hts w (List.mem_cons_of_mem _ h)
  have k_2_12 := htu _ mw_2_12
  have k_1_147 := htu _ mw_1_147
  have k_1_61 := htu _ mw_1_61
  unfold f_X7_areInputs at hf
  obtain ⟨H, hH⟩ : ∃ z, z = s.heap := ⟨_, rfl⟩
  obtain ⟨locs, hlo⟩ : ∃ z : List Loc, z = [] := ⟨_, rfl⟩
  have hS : va_S A s.heap H locs := by rw [hH, hlo]; exact hS
  rw [← hH] at hP
  have hW : W p l e (headSpec wsX7_areInputs rmX7_areInputs).room s m ([.ref (bF 0), .int x1] : List Value).toArray below meth c H locs 0 0 (MQ below (qI g A (cF g bF qF0 (bS 0) qF2 qF3 qF4 vF ++ (cS g bS (bC 0) qS1 ++ (cC g bC vC))) r) ([.ref (bF 0), .int x1] : List Value).toArray s 0 0 A) (F0 m 0 ls []) := by
    refine lv_iload_n hx hb dX7_areInputs_0 rfl (lv_at hl 1 rfl) ?_
    refine lv_aload_n hx hb dX7_areInputs_1 rfl (lv_at hl 0 rfl) ?_
    refine va_get (D := g.1) (ci := 7) (fs := fcF bF qF0 (bS 0) qF2 qF3 qF4 vF) (v := .ref (bS 0)) (C := RX7) (T := TX7) (N := 12) hx hb htu hinX7 hown hK hP 0 rfl rfl 1 (by decide) k_2_12 (fun _ h9 => h9) rfl dX7_areInputs_2 ?_
    refine va_get (D := g.1) (ci := 4) (fs := fcS bS (bC 0) qS1) (v := .ref (bC 0)) (C := RX4) (T := TX4) (N := 2) hx hb htu hinX4 hown hK hP 6 rfl rfl 0 (by decide) k_1_147 (fun _ h9 => h9) rfl dX7_areInputs_5 ?_
    refine va_get (D := g.1) (ci := 0) (fs := fcC bC vC) (v := .int (vC.1 0)) (C := RX0) (T := TX0) (N := 14) hx hb htu hinX0 hown hK hP 7 rfl rfl 0 (by decide) k_1_61 (fun _ h9 => h9) rfl dX7_areInputs_8 ?_
    refine lv_ishr hx hb dX7_areInputs_11 ?_
    obtain ⟨k2, hk6, hf⟩ := jn_at hf
    have hJ3 : ∀ (t1 : Int32), k2 t1 = some r → ∀ (H : Heap) (locs : List Loc), va_P g.1 vwCl (cF g bF qF0 (bS 0) qF2 qF3 qF4 vF ++ (cS g bS (bC 0) qS1 ++ (cC g bC vC))) H → va_D A (cF g bF qF0 (bS 0) qF2 qF3 qF4 vF ++ (cS g bS (bC 0) qS1 ++ (cC g bC vC))) → va_S A s.heap H locs → ∀ ls : Array Slot, lv_has ls 2 [] → W p l e (headSpec wsX7_areInputs rmX7_areInputs).room s m ([.ref (bF 0), .int x1] : List Value).toArray below meth c H locs 0 0 (MQ below (qI g A (cF g bF qF0 (bS 0) qF2 qF3 qF4 vF ++ (cS g bS (bC 0) qS1 ++ (cC g bC vC))) r) ([.ref (bF 0), .int x1] : List Value).toArray s 0 0 A) (F0 m 20 ls [.int t1]) := by
      intro t1 hf H locs hP hD hS ls hl
      rw [hk6] at hf
      dsimp only at hf
      clear hk6
      obtain ⟨h4, hf⟩ := gd_isB hf
      have e5 := Option.some.inj hf
      exact k_zret hx hb hr hlocks hK hP hD hS e5 h4 dX7_areInputs_20
    refine lv_if_ne (tgt := 19) hx hb dX7_areInputs_12 (by decide) (fun c7 => ?_) (fun c7 => ?_)
    · have hf := it_f hf c7
      refine lv_iconst (v := (0 : Int32)) hx hb dX7_areInputs_19 (by decide) ?_
      exact hJ3 (0 : Int32) hf H locs hP hD hS _ (lv_sub hl [] rfl)
    · have hf := it_t hf c7
      refine lv_iconst (v := (1 : Int32)) hx hb dX7_areInputs_15 (by decide) ?_
      refine lv_goto (tgt := 20) hx hb dX7_areInputs_16 (by decide) ?_
      exact hJ3 (1 : Int32) hf H locs hP hD hS _ (lv_sub hl [] rfl)
  rw [hH, hlo] at hW
  exact hW
def f_X7_forgetRows (vF : Vs) : Option (Vs) :=
  bn (sF vF 5 (0 : Int32)) (fun (vF_1 : Vs) => bn (sF vF_1 6 (0 : Int32)) (fun (vF_2 : Vs) => some (vF_2)))
abbrev wsX7_forgetRows : List Cond := .code yX7_forgetRows cX7_forgetRows 1 none :: UW
abbrev rmX7_forgetRows : Room := { frames := 0, cells := 0, slots := 0, locals := 0 }
set_option maxHeartbeats 4000000 in
set_option maxRecDepth 100000 in
theorem c_X7_forgetRows (l : Launch) (g : Gx) (bF : Nat → Nat) (qF0 : Nat) (qF1 : Nat) (qF2 : Nat) (qF3 : Nat) (qF4 : Nat) (vF : Vs) (vF1 : Vs) (hf : f_X7_forgetRows vF = some vF1) : CtV l yX7_forgetRows wsX7_forgetRows rmX7_forgetRows g [.ref (bF 0)] (cF g bF qF0 qF1 qF2 qF3 qF4 vF) (cF g bF qF0 qF1 qF2 qF3 qF4 vF1) 0 0 := by
  unfold CtV
  intro sz
  refine Met.ofW (cc := cX7_forgetRows) (maxL := 1) (ret := none) (by decide) rfl ?_
  intro p e s m args below meth c s₁ B hml hv
  obtain ⟨rfl, hsz, hP, hK, hD0, hG⟩ := hv
  have hx := B.exec
  have hb := B.bytes
  have hr := B.returns
  have hts := atoms_spec (ws := wsX7_forgetRows) B.pre
  have hown : s.vm.findClass RX7 = some m.cls := findClass_of_methodNamed B.named
  have hlocks := B.notSynchronized
  subst hsz
  have hD := hD0.self (sz := s.heap.size)
  generalize hAe : va_A (cF g bF qF0 qF1 qF2 qF3 qF4 vF) s.heap.size = A at hD hG ⊢
  have hA : ∀ q : Nat, s.heap.size ≤ q → A q := fun q h => by rw [← hAe]; exact Or.inr h
  clear hAe hD0
  have hS : va_S A s.heap s.heap [] := va_S.rf
  have hl := lv_entry ([.ref (bF 0)]) (n := 1) (Nat.le_of_ble_eq_true rfl)
  rw [lg_entry_eq]
  generalize (lg_sl ([.ref (bF 0)]) ++ List.replicate (1 - (lg_sl ([.ref (bF 0)])).length) Slot.unset).toArray = ls at hl ⊢
  have hl : lv_has ls 1 [(0, .ref (bF 0))] := hl
  have htu : ∀ w ∈ UW, w.before _ s = true := fun w h => hts w (List.mem_cons_of_mem _ h)
  have k_2_16 := htu _ mw_2_16
  have k_2_17 := htu _ mw_2_17
  unfold f_X7_forgetRows at hf
  obtain ⟨H, hH⟩ : ∃ z, z = s.heap := ⟨_, rfl⟩
  obtain ⟨locs, hlo⟩ : ∃ z : List Loc, z = [] := ⟨_, rfl⟩
  have hS : va_S A s.heap H locs := by rw [hH, hlo]; exact hS
  rw [← hH] at hP
  have hW : W p l e (headSpec wsX7_forgetRows rmX7_forgetRows).room s m ([.ref (bF 0)] : List Value).toArray below meth c H locs 0 0 (MQ below (qV g A (cF g bF qF0 qF1 qF2 qF3 qF4 vF1)) ([.ref (bF 0)] : List Value).toArray s 0 0 A) (F0 m 0 ls []) := by
    refine lv_aload_n hx hb dX7_forgetRows_0 rfl (lv_at hl 0 rfl) ?_
    refine lv_iconst (v := (0 : Int32)) hx hb dX7_forgetRows_1 (by decide) ?_
    refine va_put (D := g.1) (ci := 7) (fs := fcF bF qF0 qF1 qF2 qF3 qF4 vF) (v := .int (0 : Int32)) (ty := .boolean) (C := RX7) (T := TX7) (N := 12) hx hb htu hinX7 tyX7 tyX7_ok nmX7 hown hK hP hD hS 0 rfl rfl 5 (by decide) k_2_16 (fun _ h9 => h9) rfl (by decide +kernel) rfl rfl (Nat.le_of_ble_eq_true rfl) dX7_forgetRows_2 (fun H locs hP hD hS => ?_)
    obtain ⟨vF_1, evF_1⟩ : ∃ z, z = sF vF 5 (0 : Int32) := ⟨_, rfl⟩
    have hf := bn_at hf evF_1
    have hP : va_P g.1 vwCl (cF g bF qF0 qF1 qF2 qF3 qF4 vF_1) H := by rw [evF_1]; exact hP
    have hD : va_D A (cF g bF qF0 qF1 qF2 qF3 qF4 vF_1) := by rw [evF_1]; exact hD
    refine lv_aload_n hx hb dX7_forgetRows_5 rfl (lv_at hl 0 rfl) ?_
    refine lv_iconst (v := (0 : Int32)) hx hb dX7_forgetRows_6 (by decide) ?_
    refine va_put (D := g.1) (ci := 7) (fs := fcF bF qF0 qF1 qF2 qF3 qF4 vF_1) (v := .int (0 : Int32)) (ty := .boolean) (C := RX7) (T := TX7) (N := 12) hx hb htu hinX7 tyX7 tyX7_ok nmX7 hown hK hP hD hS 0 rfl rfl 6 (by decide) k_2_17 (fun _ h9 => h9) rfl (by decide +kernel) rfl rfl (Nat.le_of_ble_eq_true rfl) dX7_forgetRows_7 (fun H locs hP hD hS => ?_)
    obtain ⟨vF_2, evF_2⟩ : ∃ z, z = sF vF_1 6 (0 : Int32) := ⟨_, rfl⟩
    have hf := bn_at hf evF_2
    have hP : va_P g.1 vwCl (cF g bF qF0 qF1 qF2 qF3 qF4 vF_2) H := by rw [evF_2]; exact hP
    have hD : va_D A (cF g bF qF0 qF1 qF2 qF3 qF4 vF_2) := by rw [evF_2]; exact hD
    have e3 := Option.some.inj hf
    rw [e3] at hP hD
    exact k_vret hx hb hr hlocks hK hP hD hS dX7_forgetRows_10
  rw [hH, hlo] at hW
  exact hW
def f_X7_refreshTestRows (vF : Vs) (vC : Vs) (vT : Vs) (nRT : Nat) (vRT : Vs) (vG : Vs) (vB : Vs) : Option (Vs × Vs × Vs × Vs) :=
  if (vF.1 6) = 0 then o1 (f_X2_setTestInputs vG vT (vC.1 0)) (fun (vG_2 : Vs) => o3 (f_X3_work nRT vRT vG_2 vB vC (0 : Int32)) (fun (vRT_4 : Vs) (vG_5 : Vs) (vB_6 : Vs) => bn (sF vF 6 (1 : Int32)) (fun (vF_8 : Vs) => some (vF_8, vRT_4, vG_5, vB_6)))) else some (vF, vRT, vG, vB)
abbrev wsX7_refreshTestRows : List Cond := .code yX7_refreshTestRows cX7_refreshTestRows 1 none :: UW
abbrev rmX7_refreshTestRows : Room := { frames := 3, cells := 0, slots := 0, locals := 84 }
set_option maxHeartbeats 4000000 in
set_option maxRecDepth 100000 in
theorem c_X7_refreshTestRows (l : Launch) (g : Gx) (bF : Nat → Nat) (qF0 : Nat) (qF2 : Nat) (qF3 : Nat) (vF : Vs) (bS : Nat → Nat) (bC : Nat → Nat) (vC : Vs) (bT : Nat → Nat) (vT : Vs) (bRT : Nat → Nat) (nRT : Nat) (vRT : Vs) (bG : Nat → Nat) (vG : Vs) (bB : Nat → Nat) (vB : Vs) (vF1 : Vs) (vRT1 : Vs) (vG1 : Vs) (vB1 : Vs) (hf : f_X7_refreshTestRows vF vC vT nRT vRT vG vB = some (vF1, vRT1, vG1, vB1)) : CtV l yX7_refreshTestRows wsX7_refreshTestRows rmX7_refreshTestRows g [.ref (bF 0)] (cF g bF qF0 (bS 0) qF2 qF3 (bRT 0) vF ++ (cS g bS (bC 0) (bT 0) ++ (cC g bC vC ++ (cT g bT vT ++ (cR g bRT nRT (bG 0) (bB 0) vRT ++ (cL g bG vG ++ (cL g bB vB))))))) (cF g bF qF0 (bS 0) qF2 qF3 (bRT 0) vF1 ++ (cS g bS (bC 0) (bT 0) ++ (cC g bC vC ++ (cT g bT vT ++ (cR g bRT nRT (bG 0) (bB 0) vRT1 ++ (cL g bG vG1 ++ (cL g bB vB1))))))) 0 0 := by
  unfold CtV
  intro sz
  refine Met.ofW (cc := cX7_refreshTestRows) (maxL := 1) (ret := none) (by decide) rfl ?_
  intro p e s m args below meth c s₁ B hml hv
  obtain ⟨rfl, hsz, hP, hK, hD0, hG⟩ := hv
  have hx := B.exec
  have hb := B.bytes
  have hr := B.returns
  have hts := atoms_spec (ws := wsX7_refreshTestRows) B.pre
  have hown : s.vm.findClass RX7 = some m.cls := findClass_of_methodNamed B.named
  have hlocks := B.notSynchronized
  subst hsz
  have hD := hD0.self (sz := s.heap.size)
  generalize hAe : va_A (cF g bF qF0 (bS 0) qF2 qF3 (bRT 0) vF ++ (cS g bS (bC 0) (bT 0) ++ (cC g bC vC ++ (cT g bT vT ++ (cR g bRT nRT (bG 0) (bB 0) vRT ++ (cL g bG vG ++ (cL g bB vB))))))) s.heap.size = A at hD hG ⊢
  have hA : ∀ q : Nat, s.heap.size ≤ q → A q := fun q h => by rw [← hAe]; exact Or.inr h
  clear hAe hD0
  have hS : va_S A s.heap s.heap [] := va_S.rf
  have hl := lv_entry ([.ref (bF 0)]) (n := 1) (Nat.le_of_ble_eq_true rfl)
  rw [lg_entry_eq]
  generalize (lg_sl ([.ref (bF 0)]) ++ List.replicate (1 - (lg_sl ([.ref (bF 0)])).length) Slot.unset).toArray = ls at hl ⊢
  have hl : lv_has ls 1 [(0, .ref (bF 0))] := hl
  have htu : ∀ w ∈ UW, w.before _ s = true := fun w h => hts w (List.mem_cons_of_mem _ h)
  have k_2_17 := htu _ mw_2_17
  have k_2_15 := htu _ mw_2_15
  have k_1_234 := htu _ mw_1_234
  have k_2_12 := htu _ mw_2_12
  have k_1_147 := htu _ mw_1_147
  have k_1_61 := htu _ mw_1_61
  have k_1_150 := htu _ mw_1_150
  unfold f_X7_refreshTestRows at hf
  obtain ⟨H, hH⟩ : ∃ z, z = s.heap := ⟨_, rfl⟩
  obtain ⟨locs, hlo⟩ : ∃ z : List Loc, z = [] := ⟨_, rfl⟩
  have hS : va_S A s.heap H locs := by rw [hH, hlo]; exact hS
  rw [← hH] at hP
  have hW : W p l e (headSpec wsX7_refreshTestRows rmX7_refreshTestRows).room s m ([.ref (bF 0)] : List Value).toArray below meth c H locs 0 0 (MQ below (qV g A (cF g bF qF0 (bS 0) qF2 qF3 (bRT 0) vF1 ++ (cS g bS (bC 0) (bT 0) ++ (cC g bC vC ++ (cT g bT vT ++ (cR g bRT nRT (bG 0) (bB 0) vRT1 ++ (cL g bG vG1 ++ (cL g bB vB1)))))))) ([.ref (bF 0)] : List Value).toArray s 0 0 A) (F0 m 0 ls []) := by
    refine lv_aload_n hx hb dX7_refreshTestRows_0 rfl (lv_at hl 0 rfl) ?_
    refine va_get (D := g.1) (ci := 7) (fs := fcF bF qF0 (bS 0) qF2 qF3 (bRT 0) vF) (v := .int (vF.1 6)) (C := RX7) (T := TX7) (N := 12) hx hb htu hinX7 hown hK hP 0 rfl rfl 6 (by decide) k_2_17 (fun _ h9 => h9) rfl dX7_refreshTestRows_1 ?_
    refine lv_if_eq (tgt := 8) hx hb dX7_refreshTestRows_4 (by decide) (fun c1 => ?_) (fun c1 => ?_)
    · have hf := it_t hf c1
      refine lv_aload_n hx hb dX7_refreshTestRows_8 rfl (lv_at hl 0 rfl) ?_
      refine va_get (D := g.1) (ci := 7) (fs := fcF bF qF0 (bS 0) qF2 qF3 (bRT 0) vF) (v := .ref (bRT 0)) (C := RX7) (T := TX7) (N := 12) hx hb htu hinX7 hown hK hP 0 rfl rfl 4 (by decide) k_2_15 (fun _ h9 => h9) rfl dX7_refreshTestRows_9 ?_
      refine va_get (D := g.1) (ci := 3) (fs := fcR bRT (bG 0) (bB 0) vRT) (v := .ref (bG 0)) (C := RX3) (T := TX3) (N := 5) hx hb htu hinX3 hown hK hP 23 rfl rfl 0 (by decide) k_1_234 (fun _ h9 => h9) rfl dX7_refreshTestRows_12 ?_
      refine lv_aload_n hx hb dX7_refreshTestRows_15 rfl (lv_at hl 0 rfl) ?_
      refine va_get (D := g.1) (ci := 7) (fs := fcF bF qF0 (bS 0) qF2 qF3 (bRT 0) vF) (v := .ref (bS 0)) (C := RX7) (T := TX7) (N := 12) hx hb htu hinX7 hown hK hP 0 rfl rfl 1 (by decide) k_2_12 (fun _ h9 => h9) rfl dX7_refreshTestRows_16 ?_
      refine va_get (D := g.1) (ci := 4) (fs := fcS bS (bC 0) (bT 0)) (v := .ref (bC 0)) (C := RX4) (T := TX4) (N := 2) hx hb htu hinX4 hown hK hP 6 rfl rfl 0 (by decide) k_1_147 (fun _ h9 => h9) rfl dX7_refreshTestRows_19 ?_
      refine va_get (D := g.1) (ci := 0) (fs := fcC bC vC) (v := .int (vC.1 0)) (C := RX0) (T := TX0) (N := 14) hx hb htu hinX0 hown hK hP 7 rfl rfl 0 (by decide) k_1_61 (fun _ h9 => h9) rfl dX7_refreshTestRows_22 ?_
      refine lv_aload_n hx hb dX7_refreshTestRows_25 rfl (lv_at hl 0 rfl) ?_
      refine va_get (D := g.1) (ci := 7) (fs := fcF bF qF0 (bS 0) qF2 qF3 (bRT 0) vF) (v := .ref (bS 0)) (C := RX7) (T := TX7) (N := 12) hx hb htu hinX7 hown hK hP 0 rfl rfl 1 (by decide) k_2_12 (fun _ h9 => h9) rfl dX7_refreshTestRows_26 ?_
      refine va_get (D := g.1) (ci := 4) (fs := fcS bS (bC 0) (bT 0)) (v := .ref (bT 0)) (C := RX4) (T := TX4) (N := 2) hx hb htu hinX4 hown hK hP 6 rfl rfl 1 (by decide) k_1_150 (fun _ h9 => h9) rfl dX7_refreshTestRows_29 ?_
      obtain ⟨vG_2, hg3, hf⟩ := o1_at hf
      refine k_vvP ⟨hx, hb, hml, hown, htu⟩ hK hP hD hS hA hG (c_X2_setTestInputs l g bG vG bT vT (vC.1 0) vG_2 hg3) (cwV 2 htu (gU_V mw_2_74 hcX2_setTestInputs) rfl rfl rfl hdX2_setTestInputs ⟨Nat.le_of_ble_eq_true rfl, Nat.le_of_ble_eq_true rfl⟩) (q0 := 26) (ci := 2) (fs := fcL bG vG) (q := (RX2, TX2, 2)) rfl rfl rfl (wr := (cF g bF qF0 (bS 0) qF2 qF3 (bRT 0) vF ++ (cS g bS (bC 0) (bT 0) ++ (cC g bC vC ++ (cR g bRT nRT (bG 0) (bB 0) vRT ++ (cL g bB vB)))))) (w2 := cF g bF qF0 (bS 0) qF2 qF3 (bRT 0) vF ++ (cS g bS (bC 0) (bT 0) ++ (cC g bC vC ++ (cT g bT vT ++ (cR g bRT nRT (bG 0) (bB 0) vRT ++ (cL g bG vG_2 ++ (cL g bB vB))))))) [26, 27, 28, 18, 19, 20, 21, 22] [0, 1, 2, 3, 4, 5, 6, 7, 8, 9, 10, 11, 12, 13, 14, 15, 16, 17, 23, 24, 25, 29, 30, 31] [0, 1, 2, 3, 4, 5, 6, 7, 8, 9, 10, 11, 12, 13, 14, 15, 16, 17, 27, 28, 29, 30, 31, 18, 19, 20, 24, 25, 26, 21, 22, 23] rfl rfl (by decide) (by decide) (by decide) rfl rfl (by decide) (As := [.int (vC.1 0), .ref (bT 0)]) (rest := []) rfl rfl hl.1 (Nat.le_of_ble_eq_true rfl) dX7_refreshTestRows_32 (k1 := 0) (n1 := 0) rfl rfl ⟨Nat.zero_le _, Nat.zero_le _⟩ (fun H locs hP hD hS => ?_)
      refine lv_aload_n hx hb dX7_refreshTestRows_35 rfl (lv_at hl 0 rfl) ?_
      refine va_get (D := g.1) (ci := 7) (fs := fcF bF qF0 (bS 0) qF2 qF3 (bRT 0) vF) (v := .ref (bRT 0)) (C := RX7) (T := TX7) (N := 12) hx hb htu hinX7 hown hK hP 0 rfl rfl 4 (by decide) k_2_15 (fun _ h9 => h9) rfl dX7_refreshTestRows_36 ?_
      refine lv_aload_n hx hb dX7_refreshTestRows_39 rfl (lv_at hl 0 rfl) ?_
      refine va_get (D := g.1) (ci := 7) (fs := fcF bF qF0 (bS 0) qF2 qF3 (bRT 0) vF) (v := .ref (bS 0)) (C := RX7) (T := TX7) (N := 12) hx hb htu hinX7 hown hK hP 0 rfl rfl 1 (by decide) k_2_12 (fun _ h9 => h9) rfl dX7_refreshTestRows_40 ?_
      refine va_get (D := g.1) (ci := 4) (fs := fcS bS (bC 0) (bT 0)) (v := .ref (bC 0)) (C := RX4) (T := TX4) (N := 2) hx hb htu hinX4 hown hK hP 6 rfl rfl 0 (by decide) k_1_147 (fun _ h9 => h9) rfl dX7_refreshTestRows_43 ?_
      refine lv_iconst (v := (0 : Int32)) hx hb dX7_refreshTestRows_46 (by decide) ?_
      obtain ⟨vRT_4, vG_5, vB_6, hg7, hf⟩ := o3_at hf
      refine k_vvP ⟨hx, hb, hml, hown, htu⟩ hK hP hD hS hA hG (c_X3_work l g bRT nRT vRT bG vG_2 bB vB bC vC (0 : Int32) vRT_4 vG_5 vB_6 hg7) (cwV 2 htu (gU_V mw_2_81 hcX3_work) rfl rfl rfl hdX3_work ⟨Nat.le_of_ble_eq_true rfl, Nat.le_of_ble_eq_true rfl⟩) (q0 := 23) (ci := 3) (fs := fcR bRT (bG 0) (bB 0) vRT) (q := (RX3, TX3, 5)) rfl rfl rfl (wr := (cF g bF qF0 (bS 0) qF2 qF3 (bRT 0) vF ++ (cS g bS (bC 0) (bT 0) ++ (cT g bT vT)))) (w2 := cF g bF qF0 (bS 0) qF2 qF3 (bRT 0) vF ++ (cS g bS (bC 0) (bT 0) ++ (cC g bC vC ++ (cT g bT vT ++ (cR g bRT nRT (bG 0) (bB 0) vRT_4 ++ (cL g bG vG_5 ++ (cL g bB vB_6))))))) [23, 24, 25, 26, 27, 28, 29, 30, 31, 7, 8, 9, 10, 11, 12, 13, 14, 15, 16, 17] [0, 1, 2, 3, 4, 5, 6, 18, 19, 20, 21, 22] [0, 1, 2, 3, 4, 5, 6, 21, 22, 23, 24, 25, 26, 27, 28, 29, 30, 31, 7, 8, 9, 10, 11, 12, 13, 14, 15, 16, 17, 18, 19, 20] rfl rfl (by decide) (by decide) (by decide) rfl rfl (by decide) (As := [.ref (bC 0), .int (0 : Int32)]) (rest := []) rfl rfl hl.1 (Nat.le_of_ble_eq_true rfl) dX7_refreshTestRows_47 (k1 := 0) (n1 := 0) rfl rfl ⟨Nat.zero_le _, Nat.zero_le _⟩ (fun H locs hP hD hS => ?_)
      refine lv_aload_n hx hb dX7_refreshTestRows_50 rfl (lv_at hl 0 rfl) ?_
      refine lv_iconst (v := (1 : Int32)) hx hb dX7_refreshTestRows_51 (by decide) ?_
      refine va_put (D := g.1) (ci := 7) (fs := fcF bF qF0 (bS 0) qF2 qF3 (bRT 0) vF) (v := .int (1 : Int32)) (ty := .boolean) (C := RX7) (T := TX7) (N := 12) hx hb htu hinX7 tyX7 tyX7_ok nmX7 hown hK hP hD hS 0 rfl rfl 6 (by decide) k_2_17 (fun _ h9 => h9) rfl (by decide +kernel) rfl rfl (Nat.le_of_ble_eq_true rfl) dX7_refreshTestRows_52 (fun H locs hP hD hS => ?_)
      obtain ⟨vF_8, evF_8⟩ : ∃ z, z = sF vF 6 (1 : Int32) := ⟨_, rfl⟩
      have hf := bn_at hf evF_8
      have hP : va_P g.1 vwCl (cF g bF qF0 (bS 0) qF2 qF3 (bRT 0) vF_8 ++ (cS g bS (bC 0) (bT 0) ++ (cC g bC vC ++ (cT g bT vT ++ (cR g bRT nRT (bG 0) (bB 0) vRT_4 ++ (cL g bG vG_5 ++ (cL g bB vB_6))))))) H := by rw [evF_8]; exact hP
      have hD : va_D A (cF g bF qF0 (bS 0) qF2 qF3 (bRT 0) vF_8 ++ (cS g bS (bC 0) (bT 0) ++ (cC g bC vC ++ (cT g bT vT ++ (cR g bRT nRT (bG 0) (bB 0) vRT_4 ++ (cL g bG vG_5 ++ (cL g bB vB_6))))))) := by rw [evF_8]; exact hD
      obtain ⟨e9, e10, e11, e12⟩ := kp_4 hf
      rw [e9] at hP hD
      rw [e10] at hP hD
      rw [e11] at hP hD
      rw [e12] at hP hD
      exact k_vret hx hb hr hlocks hK hP hD hS dX7_refreshTestRows_55
    · have hf := it_f hf c1
      obtain ⟨e13, e14, e15, e16⟩ := kp_4 hf
      rw [e13] at hP hD
      rw [e14] at hP hD
      rw [e15] at hP hD
      rw [e16] at hP hD
      exact k_vret hx hb hr hlocks hK hP hD hS dX7_refreshTestRows_7
  rw [hH, hlo] at hW
  exact hW
def f_X7_refreshFullRows_L21 (vF : Vs) (vC : Vs) (nRF : Nat) (r2 : Int32) (self8 : Int32 → Vs → Vs → Vs → Option (Vs × Vs × Vs × Vs)) (x2_4 : Int32) (vRF_5 : Vs) (vGF_6 : Vs) (vBF_7 : Vs) : Option (Vs × Vs × Vs × Vs) :=
  if r2 ≤ x2_4 then bn (sF vF 5 (1 : Int32)) (fun (vF_12 : Vs) => some (vF_12, vRF_5, vGF_6, vBF_7)) else o1 (f_X2_setFullInputs vGF_6 (vC.1 0) x2_4) (fun (vGF_17 : Vs) => o3 (f_X3_work nRF vRF_5 vGF_17 vBF_7 vC x2_4) (fun (vRF_19 : Vs) (vGF_20 : Vs) (vBF_21 : Vs) => self8 (x2_4 + (1 : Int32)) vRF_19 vGF_20 vBF_21))
def f_X7_refreshFullRows (vF : Vs) (vC : Vs) (nRF : Nat) (vRF : Vs) (vGF : Vs) (vBF : Vs) : Option (Vs × Vs × Vs × Vs) :=
  if (vF.1 5) = 0 then o1 (f_X0_fullWords vC) (fun (r2 : Int32) => lp (f_X7_refreshFullRows_L21 vF vC nRF r2) (fun _ _ _ _ => none) FU (0 : Int32) vRF vGF vBF) else some (vF, vRF, vGF, vBF)
abbrev wsX7_refreshFullRows : List Cond := .code yX7_refreshFullRows cX7_refreshFullRows 3 none :: UW
abbrev rmX7_refreshFullRows : Room := { frames := 3, cells := 0, slots := 0, locals := 84 }
set_option maxHeartbeats 4000000 in
set_option maxRecDepth 100000 in
theorem c_X7_refreshFullRows (l : Launch) (g : Gx) (bF : Nat → Nat) (qF0 : Nat) (qF2 : Nat) (qF4 : Nat) (vF : Vs) (bS : Nat → Nat) (qS1 : Nat) (bC : Nat → Nat) (vC : Vs) (bRF : Nat → Nat) (nRF : Nat) (vRF : Vs) (bGF : Nat → Nat) (vGF : Vs) (bBF : Nat → Nat) (vBF : Vs) (vF1 : Vs) (vRF1 : Vs) (vGF1 : Vs) (vBF1 : Vs) (hf : f_X7_refreshFullRows vF vC nRF vRF vGF vBF = some (vF1, vRF1, vGF1, vBF1)) : CtV l yX7_refreshFullRows wsX7_refreshFullRows rmX7_refreshFullRows g [.ref (bF 0)] (cF g bF qF0 (bS 0) qF2 (bRF 0) qF4 vF ++ (cS g bS (bC 0) qS1 ++ (cC g bC vC ++ (cR g bRF nRF (bGF 0) (bBF 0) vRF ++ (cL g bGF vGF ++ (cL g bBF vBF)))))) (cF g bF qF0 (bS 0) qF2 (bRF 0) qF4 vF1 ++ (cS g bS (bC 0) qS1 ++ (cC g bC vC ++ (cR g bRF nRF (bGF 0) (bBF 0) vRF1 ++ (cL g bGF vGF1 ++ (cL g bBF vBF1)))))) 0 0 := by
  unfold CtV
  intro sz
  refine Met.ofW (cc := cX7_refreshFullRows) (maxL := 3) (ret := none) (by decide) rfl ?_
  intro p e s m args below meth c s₁ B hml hv
  obtain ⟨rfl, hsz, hP, hK, hD0, hG⟩ := hv
  have hx := B.exec
  have hb := B.bytes
  have hr := B.returns
  have hts := atoms_spec (ws := wsX7_refreshFullRows) B.pre
  have hown : s.vm.findClass RX7 = some m.cls := findClass_of_methodNamed B.named
  have hlocks := B.notSynchronized
  subst hsz
  have hD := hD0.self (sz := s.heap.size)
  generalize hAe : va_A (cF g bF qF0 (bS 0) qF2 (bRF 0) qF4 vF ++ (cS g bS (bC 0) qS1 ++ (cC g bC vC ++ (cR g bRF nRF (bGF 0) (bBF 0) vRF ++ (cL g bGF vGF ++ (cL g bBF vBF)))))) s.heap.size = A at hD hG ⊢
  have hA : ∀ q : Nat, s.heap.size ≤ q → A q := fun q h => by rw [← hAe]; exact Or.inr h
  clear hAe hD0
  have hS : va_S A s.heap s.heap [] := va_S.rf
  have hl := lv_entry ([.ref (bF 0)]) (n := 3) (Nat.le_of_ble_eq_true rfl)
  rw [lg_entry_eq]
  generalize (lg_sl ([.ref (bF 0)]) ++ List.replicate (3 - (lg_sl ([.ref (bF 0)])).length) Slot.unset).toArray = ls at hl ⊢
  have hl : lv_has ls 3 [(0, .ref (bF 0))] := hl
  have htu : ∀ w ∈ UW, w.before _ s = true := fun w h => hts w (List.mem_cons_of_mem _ h)
  have k_2_16 := htu _ mw_2_16
  have k_2_12 := htu _ mw_2_12
  have k_1_147 := htu _ mw_1_147
  have k_2_14 := htu _ mw_2_14
  have k_1_234 := htu _ mw_1_234
  have k_1_61 := htu _ mw_1_61
  unfold f_X7_refreshFullRows at hf
  obtain ⟨H, hH⟩ : ∃ z, z = s.heap := ⟨_, rfl⟩
  obtain ⟨locs, hlo⟩ : ∃ z : List Loc, z = [] := ⟨_, rfl⟩
  have hS : va_S A s.heap H locs := by rw [hH, hlo]; exact hS
  rw [← hH] at hP
  have hW : W p l e (headSpec wsX7_refreshFullRows rmX7_refreshFullRows).room s m ([.ref (bF 0)] : List Value).toArray below meth c H locs 0 0 (MQ below (qV g A (cF g bF qF0 (bS 0) qF2 (bRF 0) qF4 vF1 ++ (cS g bS (bC 0) qS1 ++ (cC g bC vC ++ (cR g bRF nRF (bGF 0) (bBF 0) vRF1 ++ (cL g bGF vGF1 ++ (cL g bBF vBF1))))))) ([.ref (bF 0)] : List Value).toArray s 0 0 A) (F0 m 0 ls []) := by
    refine lv_aload_n hx hb dX7_refreshFullRows_0 rfl (lv_at hl 0 rfl) ?_
    refine va_get (D := g.1) (ci := 7) (fs := fcF bF qF0 (bS 0) qF2 (bRF 0) qF4 vF) (v := .int (vF.1 5)) (C := RX7) (T := TX7) (N := 12) hx hb htu hinX7 hown hK hP 0 rfl rfl 5 (by decide) k_2_16 (fun _ h9 => h9) rfl dX7_refreshFullRows_1 ?_
    refine lv_if_eq (tgt := 8) hx hb dX7_refreshFullRows_4 (by decide) (fun c1 => ?_) (fun c1 => ?_)
    · have hf := it_t hf c1
      refine lv_aload_n hx hb dX7_refreshFullRows_8 rfl (lv_at hl 0 rfl) ?_
      refine va_get (D := g.1) (ci := 7) (fs := fcF bF qF0 (bS 0) qF2 (bRF 0) qF4 vF) (v := .ref (bS 0)) (C := RX7) (T := TX7) (N := 12) hx hb htu hinX7 hown hK hP 0 rfl rfl 1 (by decide) k_2_12 (fun _ h9 => h9) rfl dX7_refreshFullRows_9 ?_
      refine va_get (D := g.1) (ci := 4) (fs := fcS bS (bC 0) qS1) (v := .ref (bC 0)) (C := RX4) (T := TX4) (N := 2) hx hb htu hinX4 hown hK hP 6 rfl rfl 0 (by decide) k_1_147 (fun _ h9 => h9) rfl dX7_refreshFullRows_12 ?_
      obtain ⟨r2, hg3, hf⟩ := o1_at hf
      refine k_viP ⟨hx, hb, hml, hown, htu⟩ hK hP hD hS hA hG (c_X0_fullWords l g bC vC r2 hg3) (cwV 0 htu (gU_V mw_2_231 hcX0_fullWords) rfl rfl rfl hdX0_fullWords ⟨Nat.le_of_ble_eq_true rfl, Nat.le_of_ble_eq_true rfl⟩) (q0 := 7) (ci := 0) (fs := fcC bC vC) (q := (RX0, TX0, 14)) rfl rfl rfl (wr := (cF g bF qF0 (bS 0) qF2 (bRF 0) qF4 vF ++ (cS g bS (bC 0) qS1 ++ (cR g bRF nRF (bGF 0) (bBF 0) vRF ++ (cL g bGF vGF ++ (cL g bBF vBF)))))) (w2 := cF g bF qF0 (bS 0) qF2 (bRF 0) qF4 vF ++ (cS g bS (bC 0) qS1 ++ (cC g bC vC ++ (cR g bRF nRF (bGF 0) (bBF 0) vRF ++ (cL g bGF vGF ++ (cL g bBF vBF)))))) [7, 8, 9, 10, 11, 12, 13, 14, 15, 16, 17] [0, 1, 2, 3, 4, 5, 6, 18, 19, 20, 21, 22, 23, 24, 25, 26] [0, 1, 2, 3, 4, 5, 6, 16, 17, 18, 19, 20, 21, 22, 23, 24, 25, 26, 7, 8, 9, 10, 11, 12, 13, 14, 15] rfl rfl (by decide) (by decide) (by decide) rfl rfl (by decide) (As := []) (rest := []) rfl rfl hl.1 (Nat.le_of_ble_eq_true rfl) dX7_refreshFullRows_15 (k1 := 0) (n1 := 0) rfl rfl ⟨Nat.zero_le _, Nat.zero_le _⟩ (fun H locs hP hD hS => ?_)
      refine lv_istore_n (lv' := [(1, .int r2), (0, .ref (bF 0))]) hx hb dX7_refreshFullRows_18 rfl hl (by decide) rfl (fun ls hl => ?_)
      refine lv_iconst (v := (0 : Int32)) hx hb dX7_refreshFullRows_19 (by decide) ?_
      refine lv_istore_n (lv' := [(2, .int (0 : Int32)), (1, .int r2), (0, .ref (bF 0))]) hx hb dX7_refreshFullRows_20 rfl hl (by decide) rfl (fun ls hl => ?_)
      have hL9 : ∀ (x2_4 : Int32) (vRF_5 : Vs) (vGF_6 : Vs) (vBF_7 : Vs), lp (f_X7_refreshFullRows_L21 vF vC nRF r2) (fun _ _ _ _ => none) FU x2_4 vRF_5 vGF_6 vBF_7 = some (vF1, vRF1, vGF1, vBF1) → ∀ (H : Heap) (locs : List Loc), va_P g.1 vwCl (cF g bF qF0 (bS 0) qF2 (bRF 0) qF4 vF ++ (cS g bS (bC 0) qS1 ++ (cC g bC vC ++ (cR g bRF nRF (bGF 0) (bBF 0) vRF_5 ++ (cL g bGF vGF_6 ++ (cL g bBF vBF_7)))))) H → va_D A (cF g bF qF0 (bS 0) qF2 (bRF 0) qF4 vF ++ (cS g bS (bC 0) qS1 ++ (cC g bC vC ++ (cR g bRF nRF (bGF 0) (bBF 0) vRF_5 ++ (cL g bGF vGF_6 ++ (cL g bBF vBF_7)))))) → va_S A s.heap H locs → ∀ ls : Array Slot, lv_has ls 3 [(0, .ref (bF 0)), (1, .int r2), (2, .int x2_4)] → W p l e (headSpec wsX7_refreshFullRows rmX7_refreshFullRows).room s m ([.ref (bF 0)] : List Value).toArray below meth c H locs 0 0 (MQ below (qV g A (cF g bF qF0 (bS 0) qF2 (bRF 0) qF4 vF1 ++ (cS g bS (bC 0) qS1 ++ (cC g bC vC ++ (cR g bRF nRF (bGF 0) (bBF 0) vRF1 ++ (cL g bGF vGF1 ++ (cL g bBF vBF1))))))) ([.ref (bF 0)] : List Value).toArray s 0 0 A) (F0 m 21 ls []) := by
        refine lp_ind (T := Int32 → Vs → Vs → Vs → Option (Vs × Vs × Vs × Vs)) (fun self8 => ∀ (x2_4 : Int32) (vRF_5 : Vs) (vGF_6 : Vs) (vBF_7 : Vs), self8 x2_4 vRF_5 vGF_6 vBF_7 = some (vF1, vRF1, vGF1, vBF1) → ∀ (H : Heap) (locs : List Loc), va_P g.1 vwCl (cF g bF qF0 (bS 0) qF2 (bRF 0) qF4 vF ++ (cS g bS (bC 0) qS1 ++ (cC g bC vC ++ (cR g bRF nRF (bGF 0) (bBF 0) vRF_5 ++ (cL g bGF vGF_6 ++ (cL g bBF vBF_7)))))) H → va_D A (cF g bF qF0 (bS 0) qF2 (bRF 0) qF4 vF ++ (cS g bS (bC 0) qS1 ++ (cC g bC vC ++ (cR g bRF nRF (bGF 0) (bBF 0) vRF_5 ++ (cL g bGF vGF_6 ++ (cL g bBF vBF_7)))))) → va_S A s.heap H locs → ∀ ls : Array Slot, lv_has ls 3 [(0, .ref (bF 0)), (1, .int r2), (2, .int x2_4)] → W p l e (headSpec wsX7_refreshFullRows rmX7_refreshFullRows).room s m ([.ref (bF 0)] : List Value).toArray below meth c H locs 0 0 (MQ below (qV g A (cF g bF qF0 (bS 0) qF2 (bRF 0) qF4 vF1 ++ (cS g bS (bC 0) qS1 ++ (cC g bC vC ++ (cR g bRF nRF (bGF 0) (bBF 0) vRF1 ++ (cL g bGF vGF1 ++ (cL g bBF vBF1))))))) ([.ref (bF 0)] : List Value).toArray s 0 0 A) (F0 m 21 ls [])) ?_ ?_ FU
        · intro x2_4 vRF_5 vGF_6 vBF_7 hf; cases hf
        · intro self8 ih10 x2_4 vRF_5 vGF_6 vBF_7 hf H locs hP hD hS ls hl
          unfold f_X7_refreshFullRows_L21 at hf
          refine lv_iload_n hx hb dX7_refreshFullRows_21 rfl (lv_at hl 2 rfl) ?_
          refine lv_iload_n hx hb dX7_refreshFullRows_22 rfl (lv_at hl 1 rfl) ?_
          refine lv_icmp_ge (tgt := 68) hx hb dX7_refreshFullRows_23 (by decide) (fun c11 => ?_) (fun c11 => ?_)
          · have hf := it_t hf c11
            refine lv_aload_n hx hb dX7_refreshFullRows_68 rfl (lv_at hl 0 rfl) ?_
            refine lv_iconst (v := (1 : Int32)) hx hb dX7_refreshFullRows_69 (by decide) ?_
            refine va_put (D := g.1) (ci := 7) (fs := fcF bF qF0 (bS 0) qF2 (bRF 0) qF4 vF) (v := .int (1 : Int32)) (ty := .boolean) (C := RX7) (T := TX7) (N := 12) hx hb htu hinX7 tyX7 tyX7_ok nmX7 hown hK hP hD hS 0 rfl rfl 5 (by decide) k_2_16 (fun _ h9 => h9) rfl (by decide +kernel) rfl rfl (Nat.le_of_ble_eq_true rfl) dX7_refreshFullRows_70 (fun H locs hP hD hS => ?_)
            obtain ⟨vF_12, evF_12⟩ : ∃ z, z = sF vF 5 (1 : Int32) := ⟨_, rfl⟩
            have hf := bn_at hf evF_12
            have hP : va_P g.1 vwCl (cF g bF qF0 (bS 0) qF2 (bRF 0) qF4 vF_12 ++ (cS g bS (bC 0) qS1 ++ (cC g bC vC ++ (cR g bRF nRF (bGF 0) (bBF 0) vRF_5 ++ (cL g bGF vGF_6 ++ (cL g bBF vBF_7)))))) H := by rw [evF_12]; exact hP
            have hD : va_D A (cF g bF qF0 (bS 0) qF2 (bRF 0) qF4 vF_12 ++ (cS g bS (bC 0) qS1 ++ (cC g bC vC ++ (cR g bRF nRF (bGF 0) (bBF 0) vRF_5 ++ (cL g bGF vGF_6 ++ (cL g bBF vBF_7)))))) := by rw [evF_12]; exact hD
            obtain ⟨e13, e14, e15, e16⟩ := kp_4 hf
            rw [e13] at hP hD
            rw [e14] at hP hD
            rw [e15] at hP hD
            rw [e16] at hP hD
            exact k_vret hx hb hr hlocks hK hP hD hS dX7_refreshFullRows_73
          · have hf := it_f hf c11
            refine lv_aload_n hx hb dX7_refreshFullRows_26 rfl (lv_at hl 0 rfl) ?_
            refine va_get (D := g.1) (ci := 7) (fs := fcF bF qF0 (bS 0) qF2 (bRF 0) qF4 vF) (v := .ref (bRF 0)) (C := RX7) (T := TX7) (N := 12) hx hb htu hinX7 hown hK hP 0 rfl rfl 3 (by decide) k_2_14 (fun _ h9 => h9) rfl dX7_refreshFullRows_27 ?_
            refine va_get (D := g.1) (ci := 3) (fs := fcR bRF (bGF 0) (bBF 0) vRF_5) (v := .ref (bGF 0)) (C := RX3) (T := TX3) (N := 5) hx hb htu hinX3 hown hK hP 18 rfl rfl 0 (by decide) k_1_234 (fun _ h9 => h9) rfl dX7_refreshFullRows_30 ?_
            refine lv_aload_n hx hb dX7_refreshFullRows_33 rfl (lv_at hl 0 rfl) ?_
            refine va_get (D := g.1) (ci := 7) (fs := fcF bF qF0 (bS 0) qF2 (bRF 0) qF4 vF) (v := .ref (bS 0)) (C := RX7) (T := TX7) (N := 12) hx hb htu hinX7 hown hK hP 0 rfl rfl 1 (by decide) k_2_12 (fun _ h9 => h9) rfl dX7_refreshFullRows_34 ?_
            refine va_get (D := g.1) (ci := 4) (fs := fcS bS (bC 0) qS1) (v := .ref (bC 0)) (C := RX4) (T := TX4) (N := 2) hx hb htu hinX4 hown hK hP 6 rfl rfl 0 (by decide) k_1_147 (fun _ h9 => h9) rfl dX7_refreshFullRows_37 ?_
            refine va_get (D := g.1) (ci := 0) (fs := fcC bC vC) (v := .int (vC.1 0)) (C := RX0) (T := TX0) (N := 14) hx hb htu hinX0 hown hK hP 7 rfl rfl 0 (by decide) k_1_61 (fun _ h9 => h9) rfl dX7_refreshFullRows_40 ?_
            refine lv_iload_n hx hb dX7_refreshFullRows_43 rfl (lv_at hl 2 rfl) ?_
            obtain ⟨vGF_17, hg18, hf⟩ := o1_at hf
            refine k_vvP ⟨hx, hb, hml, hown, htu⟩ hK hP hD hS hA hG (c_X2_setFullInputs l g bGF vGF_6 (vC.1 0) x2_4 vGF_17 hg18) (cwV 2 htu (gU_V mw_2_235 hcX2_setFullInputs) rfl rfl rfl hdX2_setFullInputs ⟨Nat.le_of_ble_eq_true rfl, Nat.le_of_ble_eq_true rfl⟩) (q0 := 21) (ci := 2) (fs := fcL bGF vGF_6) (q := (RX2, TX2, 2)) rfl rfl rfl (wr := (cF g bF qF0 (bS 0) qF2 (bRF 0) qF4 vF ++ (cS g bS (bC 0) qS1 ++ (cC g bC vC ++ (cR g bRF nRF (bGF 0) (bBF 0) vRF_5 ++ (cL g bBF vBF_7)))))) (w2 := cF g bF qF0 (bS 0) qF2 (bRF 0) qF4 vF ++ (cS g bS (bC 0) qS1 ++ (cC g bC vC ++ (cR g bRF nRF (bGF 0) (bBF 0) vRF_5 ++ (cL g bGF vGF_17 ++ (cL g bBF vBF_7)))))) [21, 22, 23] [0, 1, 2, 3, 4, 5, 6, 7, 8, 9, 10, 11, 12, 13, 14, 15, 16, 17, 18, 19, 20, 24, 25, 26] [0, 1, 2, 3, 4, 5, 6, 7, 8, 9, 10, 11, 12, 13, 14, 15, 16, 17, 18, 19, 20, 24, 25, 26, 21, 22, 23] rfl rfl (by decide) (by decide) (by decide) rfl rfl (by decide) (As := [.int (vC.1 0), .int x2_4]) (rest := []) rfl rfl hl.1 (Nat.le_of_ble_eq_true rfl) dX7_refreshFullRows_44 (k1 := 0) (n1 := 0) rfl rfl ⟨Nat.zero_le _, Nat.zero_le _⟩ (fun H locs hP hD hS => ?_)
            refine lv_aload_n hx hb dX7_refreshFullRows_47 rfl (lv_at hl 0 rfl) ?_
            refine va_get (D := g.1) (ci := 7) (fs := fcF bF qF0 (bS 0) qF2 (bRF 0) qF4 vF) (v := .ref (bRF 0)) (C := RX7) (T := TX7) (N := 12) hx hb htu hinX7 hown hK hP 0 rfl rfl 3 (by decide) k_2_14 (fun _ h9 => h9) rfl dX7_refreshFullRows_48 ?_
            refine lv_aload_n hx hb dX7_refreshFullRows_51 rfl (lv_at hl 0 rfl) ?_
            refine va_get (D := g.1) (ci := 7) (fs := fcF bF qF0 (bS 0) qF2 (bRF 0) qF4 vF) (v := .ref (bS 0)) (C := RX7) (T := TX7) (N := 12) hx hb htu hinX7 hown hK hP 0 rfl rfl 1 (by decide) k_2_12 (fun _ h9 => h9) rfl dX7_refreshFullRows_52 ?_
            refine va_get (D := g.1) (ci := 4) (fs := fcS bS (bC 0) qS1) (v := .ref (bC 0)) (C := RX4) (T := TX4) (N := 2) hx hb htu hinX4 hown hK hP 6 rfl rfl 0 (by decide) k_1_147 (fun _ h9 => h9) rfl dX7_refreshFullRows_55 ?_
            refine lv_iload_n hx hb dX7_refreshFullRows_58 rfl (lv_at hl 2 rfl) ?_
            obtain ⟨vRF_19, vGF_20, vBF_21, hg22, hf⟩ := o3_at hf
            refine k_vvP ⟨hx, hb, hml, hown, htu⟩ hK hP hD hS hA hG (c_X3_work l g bRF nRF vRF_5 bGF vGF_17 bBF vBF_7 bC vC x2_4 vRF_19 vGF_20 vBF_21 hg22) (cwV 2 htu (gU_V mw_2_81 hcX3_work) rfl rfl rfl hdX3_work ⟨Nat.le_of_ble_eq_true rfl, Nat.le_of_ble_eq_true rfl⟩) (q0 := 18) (ci := 3) (fs := fcR bRF (bGF 0) (bBF 0) vRF_5) (q := (RX3, TX3, 5)) rfl rfl rfl (wr := (cF g bF qF0 (bS 0) qF2 (bRF 0) qF4 vF ++ (cS g bS (bC 0) qS1))) (w2 := cF g bF qF0 (bS 0) qF2 (bRF 0) qF4 vF ++ (cS g bS (bC 0) qS1 ++ (cC g bC vC ++ (cR g bRF nRF (bGF 0) (bBF 0) vRF_19 ++ (cL g bGF vGF_20 ++ (cL g bBF vBF_21)))))) [18, 19, 20, 21, 22, 23, 24, 25, 26, 7, 8, 9, 10, 11, 12, 13, 14, 15, 16, 17] [0, 1, 2, 3, 4, 5, 6] [0, 1, 2, 3, 4, 5, 6, 16, 17, 18, 19, 20, 21, 22, 23, 24, 25, 26, 7, 8, 9, 10, 11, 12, 13, 14, 15] rfl rfl (by decide) (by decide) (by decide) rfl rfl (by decide) (As := [.ref (bC 0), .int x2_4]) (rest := []) rfl rfl hl.1 (Nat.le_of_ble_eq_true rfl) dX7_refreshFullRows_59 (k1 := 0) (n1 := 0) rfl rfl ⟨Nat.zero_le _, Nat.zero_le _⟩ (fun H locs hP hD hS => ?_)
            refine lv_iinc (v := (x2_4 + (1 : Int32))) (lv' := [(2, .int (x2_4 + (1 : Int32))), (0, .ref (bF 0)), (1, .int r2)]) hx hb dX7_refreshFullRows_62 hl (k := 2) rfl rfl (by decide) rfl (fun ls hl => ?_)
            refine lv_goto (tgt := 21) hx hb dX7_refreshFullRows_65 (by decide) ?_
            exact ih10 (x2_4 + (1 : Int32)) vRF_19 vGF_20 vBF_21 hf H locs hP hD hS _ (lv_sub hl [1, 2, 0] rfl)
      exact hL9 (0 : Int32) vRF vGF vBF hf H locs hP hD hS _ (lv_sub hl [2, 1, 0] rfl)
    · have hf := it_f hf c1
      obtain ⟨e23, e24, e25, e26⟩ := kp_4 hf
      rw [e23] at hP hD
      rw [e24] at hP hD
      rw [e25] at hP hD
      rw [e26] at hP hD
      exact k_vret hx hb hr hlocks hK hP hD hS dX7_refreshFullRows_7
  rw [hH, hlo] at hW
  exact hW
def f_X7_listFound_t_L89 (x7_10 : Int32) (y18 : Int32) (x9_20 : Int32) (self22 : Int64 → Int32 → Vs → Option (Int64 × Vs)) (r27 : Int64) (self32 : Int64 → Int32 → Vs → Option (Int64 × Vs)) (x5_29 : Int64) (x12_30 : Int32) (vF_31 : Vs) : Option (Int64 × Vs) :=
  if y18 ≤ x12_30 then self22 x5_29 (x9_20 + (1 : Int32)) vF_31 else bn ((((lus r27 x12_30) &&& (1 : Int64)) <<< ((x9_20).toInt64 &&& 63))) (fun (y36 : Int64) => gd (inb (x7_10 + x12_30) 16) (gd (inb (x7_10 + x12_30) 16) (bn (sJ vF_31 9 ((x7_10 + x12_30)).toNatClampNeg ((vF_31.2.2 9 ((x7_10 + x12_30)).toNatClampNeg) ||| y36)) (fun (vF_39 : Vs) => self32 (x5_29 ||| y36) (x12_30 + (1 : Int32)) vF_39))))
def f_X7_listFound_t_L58 (vC : Vs) (nRT : Nat) (vRT : Vs) (r1 : Int32) (x7_10 : Int32) (self12 : Int64 → Int32 → Vs → Option (Int64 × Vs)) (y18 : Int32) (self22 : Int64 → Int32 → Vs → Option (Int64 × Vs)) (x5_19 : Int64) (x9_20 : Int32) (vF_21 : Vs) : Option (Int64 × Vs) :=
  if r1 ≤ x9_20 then self12 x5_19 (x7_10 + (64 : Int32)) vF_21 else gd (nz (64 : Int32)) (o1 (f_X3_apart nRT vRT vC (-1 : Int32) x9_20 (x7_10 / (64 : Int32))) (fun (r27 : Int64) => lp (f_X7_listFound_t_L89 x7_10 y18 x9_20 self22 r27) (fun _ _ _ => none) FU x5_19 (0 : Int32) vF_21))
def f_X7_listFound_t_L38 (vC : Vs) (nRT : Nat) (vRT : Vs) (x2 : Int32) (r1 : Int32) (self12 : Int64 → Int32 → Vs → Option (Int64 × Vs)) (x5_9 : Int64) (x7_10 : Int32) (vF_11 : Vs) : Option (Int64 × Vs) :=
  if x2 ≤ x7_10 then some (x5_9, vF_11) else bn ((if (64 : Int32) < (x2 - x7_10) then (64 : Int32) else (x2 - x7_10))) (fun (y18 : Int32) => lp (f_X7_listFound_t_L58 vC nRT vRT r1 x7_10 self12 y18) (fun _ _ _ => none) FU x5_9 (0 : Int32) vF_11)
def f_X7_listFound_t_L18 (vC : Vs) (nRT : Nat) (vRT : Vs) (x2 : Int32) (r1 : Int32) (self5 : Int32 → Vs → Option (Int64 × Vs)) (x7_3 : Int32) (vF_4 : Vs) : Option (Int64 × Vs) :=
  if x2 ≤ x7_3 then lp (f_X7_listFound_t_L38 vC nRT vRT x2 r1) (fun _ _ _ => none) FU (0 : Int64) (0 : Int32) vF_4 else gd (inb x7_3 16) (bn (sJ vF_4 9 (x7_3).toNatClampNeg (0 : Int64)) (fun (vF_41 : Vs) => self5 (x7_3 + (1 : Int32)) vF_41))
def f_X7_listFound_t (vF : Vs) (vC : Vs) (nRT : Nat) (vRT : Vs) (x2 : Int32) : Option (Int64 × Vs) :=
  o1 (f_X0_faultCount vC) (fun (r1 : Int32) => lp (f_X7_listFound_t_L18 vC nRT vRT x2 r1) (fun _ _ => none) FU (0 : Int32) vF)
abbrev wsX7_listFound : List Cond := .code yX7_listFound cX7_listFound 15 (some .long) :: UW
abbrev rmX7_listFound_t : Room := { frames := 2, cells := 0, slots := 0, locals := 52 }
set_option maxHeartbeats 4000000 in
set_option maxRecDepth 100000 in
theorem c_X7_listFound_t (l : Launch) (g : Gx) (bF : Nat → Nat) (qF0 : Nat) (qF2 : Nat) (qF3 : Nat) (vF : Vs) (bS : Nat → Nat) (qS1 : Nat) (bC : Nat → Nat) (vC : Vs) (bRT : Nat → Nat) (nRT : Nat) (qRT0 : Nat) (qRT1 : Nat) (vRT : Vs) (x2 : Int32) (r : Int64) (vF1 : Vs) (hf : f_X7_listFound_t vF vC nRT vRT x2 = some (r, vF1)) : CtJ l yX7_listFound wsX7_listFound rmX7_listFound_t g [.ref (bF 0), .ref (bRT 0), .int x2, .ref (bF 10)] (cF g bF qF0 (bS 0) qF2 qF3 (bRT 0) vF ++ (cS g bS (bC 0) qS1 ++ (cC g bC vC ++ (cR g bRT nRT qRT0 qRT1 vRT)))) (cF g bF qF0 (bS 0) qF2 qF3 (bRT 0) vF1 ++ (cS g bS (bC 0) qS1 ++ (cC g bC vC ++ (cR g bRT nRT qRT0 qRT1 vRT)))) r 0 0 := by
  unfold CtJ
  intro sz
  refine Met.ofW (cc := cX7_listFound) (maxL := 15) (ret := (some .long)) (by decide) rfl ?_
  intro p e s m args below meth c s₁ B hml hv
  obtain ⟨rfl, hsz, hP, hK, hD0, hG⟩ := hv
  have hx := B.exec
  have hb := B.bytes
  have hr := B.returns
  have hts := atoms_spec (ws := wsX7_listFound) B.pre
  have hown : s.vm.findClass RX7 = some m.cls := findClass_of_methodNamed B.named
  have hlocks := B.notSynchronized
  subst hsz
  have hD := hD0.self (sz := s.heap.size)
  generalize hAe : va_A (cF g bF qF0 (bS 0) qF2 qF3 (bRT 0) vF ++ (cS g bS (bC 0) qS1 ++ (cC g bC vC ++ (cR g bRT nRT qRT0 qRT1 vRT)))) s.heap.size = A at hD hG ⊢
  have hA : ∀ q : Nat, s.heap.size ≤ q → A q := fun q h => by rw [← hAe]; exact Or.inr h
  clear hAe hD0
  have hS : va_S A s.heap s.heap [] := va_S.rf
  have hl := lv_entry ([.ref (bF 0), .ref (bRT 0), .int x2, .ref (bF 10)]) (n := 15) (Nat.le_of_ble_eq_true rfl)
  rw [lg_entry_eq]
  generalize (lg_sl ([.ref (bF 0), .ref (bRT 0), .int x2, .ref (bF 10)]) ++ List.replicate (15 - (lg_sl ([.ref (bF 0), .ref (bRT 0), .int x2, .ref (bF 10)])).length) Slot.unset).toArray = ls at hl ⊢
  have hl : lv_has ls 15 [(0, .ref (bF 0)), (1, .ref (bRT 0)), (2, .int x2), (3, .ref (bF 10))] := hl
  have htu : ∀ w ∈ UW, w.before _ s = true := fun w h => hts w (List.mem_cons_of_mem _ h)
  have k_2_12 := htu _ mw_2_12
  have k_1_147 := htu _ mw_1_147
  have k_2_115 := htu _ mw_2_115
  have k_2_116 := htu _ mw_2_116
  have k_1_7 := htu _ mw_1_7
  have k_2_117 := htu _ mw_2_117
  unfold f_X7_listFound_t at hf
  obtain ⟨H, hH⟩ : ∃ z, z = s.heap := ⟨_, rfl⟩
  obtain ⟨locs, hlo⟩ : ∃ z : List Loc, z = [] := ⟨_, rfl⟩
  have hS : va_S A s.heap H locs := by rw [hH, hlo]; exact hS
  rw [← hH] at hP
  have hW : W p l e (headSpec wsX7_listFound rmX7_listFound_t).room s m ([.ref (bF 0), .ref (bRT 0), .int x2, .ref (bF 10)] : List Value).toArray below meth c H locs 0 0 (MQ below (qJ g A (cF g bF qF0 (bS 0) qF2 qF3 (bRT 0) vF1 ++ (cS g bS (bC 0) qS1 ++ (cC g bC vC ++ (cR g bRT nRT qRT0 qRT1 vRT)))) r) ([.ref (bF 0), .ref (bRT 0), .int x2, .ref (bF 10)] : List Value).toArray s 0 0 A) (F0 m 0 ls []) := by
    refine lv_aload_n hx hb dX7_listFound_0 rfl (lv_at hl 0 rfl) ?_
    refine va_get (D := g.1) (ci := 7) (fs := fcF bF qF0 (bS 0) qF2 qF3 (bRT 0) vF) (v := .ref (bS 0)) (C := RX7) (T := TX7) (N := 12) hx hb htu hinX7 hown hK hP 0 rfl rfl 1 (by decide) k_2_12 (fun _ h9 => h9) rfl dX7_listFound_1 ?_
    refine va_get (D := g.1) (ci := 4) (fs := fcS bS (bC 0) qS1) (v := .ref (bC 0)) (C := RX4) (T := TX4) (N := 2) hx hb htu hinX4 hown hK hP 6 rfl rfl 0 (by decide) k_1_147 (fun _ h9 => h9) rfl dX7_listFound_4 ?_
    obtain ⟨r1, hg2, hf⟩ := o1_at hf
    refine k_viP ⟨hx, hb, hml, hown, htu⟩ hK hP hD hS hA hG (c_X0_faultCount l g bC vC r1 hg2) (cwV 0 htu (gU_V mw_2_52 hcX0_faultCount) rfl rfl rfl hdX0_faultCount ⟨Nat.le_of_ble_eq_true rfl, Nat.le_of_ble_eq_true rfl⟩) (q0 := 7) (ci := 0) (fs := fcC bC vC) (q := (RX0, TX0, 14)) rfl rfl rfl (wr := (cF g bF qF0 (bS 0) qF2 qF3 (bRT 0) vF ++ (cS g bS (bC 0) qS1 ++ (cR g bRT nRT qRT0 qRT1 vRT)))) (w2 := cF g bF qF0 (bS 0) qF2 qF3 (bRT 0) vF ++ (cS g bS (bC 0) qS1 ++ (cC g bC vC ++ (cR g bRT nRT qRT0 qRT1 vRT)))) [7, 8, 9, 10, 11, 12, 13, 14, 15, 16, 17] [0, 1, 2, 3, 4, 5, 6, 18, 19, 20] [0, 1, 2, 3, 4, 5, 6, 10, 11, 12, 13, 14, 15, 16, 17, 18, 19, 20, 7, 8, 9] rfl rfl (by decide) (by decide) (by decide) rfl rfl (by decide) (As := []) (rest := []) rfl rfl hl.1 (Nat.le_of_ble_eq_true rfl) dX7_listFound_7 (k1 := 0) (n1 := 0) rfl rfl ⟨Nat.zero_le _, Nat.zero_le _⟩ (fun H locs hP hD hS => ?_)
    refine lv_istore (lv' := [(4, .int r1), (0, .ref (bF 0)), (1, .ref (bRT 0)), (2, .int x2), (3, .ref (bF 10))]) hx hb dX7_listFound_10 hl (by decide) rfl (fun ls hl => ?_)
    refine lv_lconst (v := (0 : Int64)) hx hb dX7_listFound_12 (by decide) ?_
    refine lv_lstore (lv' := [(5, .long (0 : Int64)), (4, .int r1), (0, .ref (bF 0)), (1, .ref (bRT 0)), (2, .int x2), (3, .ref (bF 10))]) hx hb dX7_listFound_13 hl (by decide) rfl (fun ls hl => ?_)
    refine lv_iconst (v := (0 : Int32)) hx hb dX7_listFound_15 (by decide) ?_
    refine lv_istore (lv' := [(7, .int (0 : Int32)), (5, .long (0 : Int64)), (4, .int r1), (0, .ref (bF 0)), (1, .ref (bRT 0)), (2, .int x2), (3, .ref (bF 10))]) hx hb dX7_listFound_16 hl (by decide) rfl (fun ls hl => ?_)
    have hL6 : ∀ (x7_3 : Int32) (vF_4 : Vs), lp (f_X7_listFound_t_L18 vC nRT vRT x2 r1) (fun _ _ => none) FU x7_3 vF_4 = some (r, vF1) → ∀ (H : Heap) (locs : List Loc), va_P g.1 vwCl (cF g bF qF0 (bS 0) qF2 qF3 (bRT 0) vF_4 ++ (cS g bS (bC 0) qS1 ++ (cC g bC vC ++ (cR g bRT nRT qRT0 qRT1 vRT)))) H → va_D A (cF g bF qF0 (bS 0) qF2 qF3 (bRT 0) vF_4 ++ (cS g bS (bC 0) qS1 ++ (cC g bC vC ++ (cR g bRT nRT qRT0 qRT1 vRT)))) → va_S A s.heap H locs → ∀ ls : Array Slot, lv_has ls 15 [(0, .ref (bF 0)), (1, .ref (bRT 0)), (2, .int x2), (3, .ref (bF 10)), (4, .int r1), (5, .long (0 : Int64)), (7, .int x7_3)] → W p l e (headSpec wsX7_listFound rmX7_listFound_t).room s m ([.ref (bF 0), .ref (bRT 0), .int x2, .ref (bF 10)] : List Value).toArray below meth c H locs 0 0 (MQ below (qJ g A (cF g bF qF0 (bS 0) qF2 qF3 (bRT 0) vF1 ++ (cS g bS (bC 0) qS1 ++ (cC g bC vC ++ (cR g bRT nRT qRT0 qRT1 vRT)))) r) ([.ref (bF 0), .ref (bRT 0), .int x2, .ref (bF 10)] : List Value).toArray s 0 0 A) (F0 m 18 ls []) := by
      refine lp_ind (T := Int32 → Vs → Option (Int64 × Vs)) (fun self5 => ∀ (x7_3 : Int32) (vF_4 : Vs), self5 x7_3 vF_4 = some (r, vF1) → ∀ (H : Heap) (locs : List Loc), va_P g.1 vwCl (cF g bF qF0 (bS 0) qF2 qF3 (bRT 0) vF_4 ++ (cS g bS (bC 0) qS1 ++ (cC g bC vC ++ (cR g bRT nRT qRT0 qRT1 vRT)))) H → va_D A (cF g bF qF0 (bS 0) qF2 qF3 (bRT 0) vF_4 ++ (cS g bS (bC 0) qS1 ++ (cC g bC vC ++ (cR g bRT nRT qRT0 qRT1 vRT)))) → va_S A s.heap H locs → ∀ ls : Array Slot, lv_has ls 15 [(0, .ref (bF 0)), (1, .ref (bRT 0)), (2, .int x2), (3, .ref (bF 10)), (4, .int r1), (5, .long (0 : Int64)), (7, .int x7_3)] → W p l e (headSpec wsX7_listFound rmX7_listFound_t).room s m ([.ref (bF 0), .ref (bRT 0), .int x2, .ref (bF 10)] : List Value).toArray below meth c H locs 0 0 (MQ below (qJ g A (cF g bF qF0 (bS 0) qF2 qF3 (bRT 0) vF1 ++ (cS g bS (bC 0) qS1 ++ (cC g bC vC ++ (cR g bRT nRT qRT0 qRT1 vRT)))) r) ([.ref (bF 0), .ref (bRT 0), .int x2, .ref (bF 10)] : List Value).toArray s 0 0 A) (F0 m 18 ls [])) ?_ ?_ FU
      · intro x7_3 vF_4 hf; cases hf
      · intro self5 ih7 x7_3 vF_4 hf H locs hP hD hS ls hl
        unfold f_X7_listFound_t_L18 at hf
        refine lv_iload hx hb dX7_listFound_18 (lv_at hl 6 rfl) ?_
        refine lv_iload_n hx hb dX7_listFound_20 rfl (lv_at hl 2 rfl) ?_
        refine lv_icmp_ge (tgt := 35) hx hb dX7_listFound_21 (by decide) (fun c8 => ?_) (fun c8 => ?_)
        · have hf := it_t hf c8
          refine lv_iconst (v := (0 : Int32)) hx hb dX7_listFound_35 (by decide) ?_
          refine lv_istore (lv' := [(7, .int (0 : Int32)), (0, .ref (bF 0)), (1, .ref (bRT 0)), (2, .int x2), (3, .ref (bF 10)), (4, .int r1), (5, .long (0 : Int64))]) hx hb dX7_listFound_36 hl (by decide) rfl (fun ls hl => ?_)
          have hL13 : ∀ (x5_9 : Int64) (x7_10 : Int32) (vF_11 : Vs), lp (f_X7_listFound_t_L38 vC nRT vRT x2 r1) (fun _ _ _ => none) FU x5_9 x7_10 vF_11 = some (r, vF1) → ∀ (H : Heap) (locs : List Loc), va_P g.1 vwCl (cF g bF qF0 (bS 0) qF2 qF3 (bRT 0) vF_11 ++ (cS g bS (bC 0) qS1 ++ (cC g bC vC ++ (cR g bRT nRT qRT0 qRT1 vRT)))) H → va_D A (cF g bF qF0 (bS 0) qF2 qF3 (bRT 0) vF_11 ++ (cS g bS (bC 0) qS1 ++ (cC g bC vC ++ (cR g bRT nRT qRT0 qRT1 vRT)))) → va_S A s.heap H locs → ∀ ls : Array Slot, lv_has ls 15 [(0, .ref (bF 0)), (1, .ref (bRT 0)), (2, .int x2), (3, .ref (bF 10)), (4, .int r1), (5, .long x5_9), (7, .int x7_10)] → W p l e (headSpec wsX7_listFound rmX7_listFound_t).room s m ([.ref (bF 0), .ref (bRT 0), .int x2, .ref (bF 10)] : List Value).toArray below meth c H locs 0 0 (MQ below (qJ g A (cF g bF qF0 (bS 0) qF2 qF3 (bRT 0) vF1 ++ (cS g bS (bC 0) qS1 ++ (cC g bC vC ++ (cR g bRT nRT qRT0 qRT1 vRT)))) r) ([.ref (bF 0), .ref (bRT 0), .int x2, .ref (bF 10)] : List Value).toArray s 0 0 A) (F0 m 38 ls []) := by
            refine lp_ind (T := Int64 → Int32 → Vs → Option (Int64 × Vs)) (fun self12 => ∀ (x5_9 : Int64) (x7_10 : Int32) (vF_11 : Vs), self12 x5_9 x7_10 vF_11 = some (r, vF1) → ∀ (H : Heap) (locs : List Loc), va_P g.1 vwCl (cF g bF qF0 (bS 0) qF2 qF3 (bRT 0) vF_11 ++ (cS g bS (bC 0) qS1 ++ (cC g bC vC ++ (cR g bRT nRT qRT0 qRT1 vRT)))) H → va_D A (cF g bF qF0 (bS 0) qF2 qF3 (bRT 0) vF_11 ++ (cS g bS (bC 0) qS1 ++ (cC g bC vC ++ (cR g bRT nRT qRT0 qRT1 vRT)))) → va_S A s.heap H locs → ∀ ls : Array Slot, lv_has ls 15 [(0, .ref (bF 0)), (1, .ref (bRT 0)), (2, .int x2), (3, .ref (bF 10)), (4, .int r1), (5, .long x5_9), (7, .int x7_10)] → W p l e (headSpec wsX7_listFound rmX7_listFound_t).room s m ([.ref (bF 0), .ref (bRT 0), .int x2, .ref (bF 10)] : List Value).toArray below meth c H locs 0 0 (MQ below (qJ g A (cF g bF qF0 (bS 0) qF2 qF3 (bRT 0) vF1 ++ (cS g bS (bC 0) qS1 ++ (cC g bC vC ++ (cR g bRT nRT qRT0 qRT1 vRT)))) r) ([.ref (bF 0), .ref (bRT 0), .int x2, .ref (bF 10)] : List Value).toArray s 0 0 A) (F0 m 38 ls [])) ?_ ?_ FU
            · intro x5_9 x7_10 vF_11 hf; cases hf
            · intro self12 ih14 x5_9 x7_10 vF_11 hf H locs hP hD hS ls hl
              unfold f_X7_listFound_t_L38 at hf
              refine lv_iload hx hb dX7_listFound_38 (lv_at hl 6 rfl) ?_
              refine lv_iload_n hx hb dX7_listFound_40 rfl (lv_at hl 2 rfl) ?_
              refine lv_icmp_ge (tgt := 145) hx hb dX7_listFound_41 (by decide) (fun c15 => ?_) (fun c15 => ?_)
              · have hf := it_t hf c15
                refine lv_lload hx hb dX7_listFound_145 (lv_at hl 5 rfl) ?_
                obtain ⟨e16, e17⟩ := kp_2 hf
                rw [e17] at hP hD
                exact k_lret hx hb hr hlocks hK hP hD hS e16 dX7_listFound_147
              · have hf := it_f hf c15
                refine lv_iload_n hx hb dX7_listFound_44 rfl (lv_at hl 2 rfl) ?_
                refine lv_iload hx hb dX7_listFound_45 (lv_at hl 6 rfl) ?_
                refine lv_isub hx hb dX7_listFound_47 ?_
                refine lv_bipush (v := (64 : Int32)) hx hb dX7_listFound_48 (by decide) ?_
                refine va_mmin hx hb (hml.trans hl.1.symm) hown k_2_115 k_2_116 k_1_7 k_2_117 (Nat.le_of_ble_eq_true rfl) (Nat.le_of_ble_eq_true rfl) (Nat.zero_le _) (Nat.zero_le _) dX7_listFound_50 ?_
                refine lv_topi (fun y18 ey18 => ?_)
                have hf := bn_at hf ey18
                refine lv_istore (lv' := [(8, .int y18), (0, .ref (bF 0)), (1, .ref (bRT 0)), (2, .int x2), (3, .ref (bF 10)), (4, .int r1), (5, .long x5_9), (7, .int x7_10)]) hx hb dX7_listFound_53 hl (by decide) rfl (fun ls hl => ?_)
                refine lv_iconst (v := (0 : Int32)) hx hb dX7_listFound_55 (by decide) ?_
                refine lv_istore (lv' := [(9, .int (0 : Int32)), (8, .int y18), (0, .ref (bF 0)), (1, .ref (bRT 0)), (2, .int x2), (3, .ref (bF 10)), (4, .int r1), (5, .long x5_9), (7, .int x7_10)]) hx hb dX7_listFound_56 hl (by decide) rfl (fun ls hl => ?_)
                have hL23 : ∀ (x5_19 : Int64) (x9_20 : Int32) (vF_21 : Vs), lp (f_X7_listFound_t_L58 vC nRT vRT r1 x7_10 self12 y18) (fun _ _ _ => none) FU x5_19 x9_20 vF_21 = some (r, vF1) → ∀ (H : Heap) (locs : List Loc), va_P g.1 vwCl (cF g bF qF0 (bS 0) qF2 qF3 (bRT 0) vF_21 ++ (cS g bS (bC 0) qS1 ++ (cC g bC vC ++ (cR g bRT nRT qRT0 qRT1 vRT)))) H → va_D A (cF g bF qF0 (bS 0) qF2 qF3 (bRT 0) vF_21 ++ (cS g bS (bC 0) qS1 ++ (cC g bC vC ++ (cR g bRT nRT qRT0 qRT1 vRT)))) → va_S A s.heap H locs → ∀ ls : Array Slot, lv_has ls 15 [(0, .ref (bF 0)), (1, .ref (bRT 0)), (2, .int x2), (3, .ref (bF 10)), (4, .int r1), (5, .long x5_19), (7, .int x7_10), (8, .int y18), (9, .int x9_20)] → W p l e (headSpec wsX7_listFound rmX7_listFound_t).room s m ([.ref (bF 0), .ref (bRT 0), .int x2, .ref (bF 10)] : List Value).toArray below meth c H locs 0 0 (MQ below (qJ g A (cF g bF qF0 (bS 0) qF2 qF3 (bRT 0) vF1 ++ (cS g bS (bC 0) qS1 ++ (cC g bC vC ++ (cR g bRT nRT qRT0 qRT1 vRT)))) r) ([.ref (bF 0), .ref (bRT 0), .int x2, .ref (bF 10)] : List Value).toArray s 0 0 A) (F0 m 58 ls []) := by
                  refine lp_ind (T := Int64 → Int32 → Vs → Option (Int64 × Vs)) (fun self22 => ∀ (x5_19 : Int64) (x9_20 : Int32) (vF_21 : Vs), self22 x5_19 x9_20 vF_21 = some (r, vF1) → ∀ (H : Heap) (locs : List Loc), va_P g.1 vwCl (cF g bF qF0 (bS 0) qF2 qF3 (bRT 0) vF_21 ++ (cS g bS (bC 0) qS1 ++ (cC g bC vC ++ (cR g bRT nRT qRT0 qRT1 vRT)))) H → va_D A (cF g bF qF0 (bS 0) qF2 qF3 (bRT 0) vF_21 ++ (cS g bS (bC 0) qS1 ++ (cC g bC vC ++ (cR g bRT nRT qRT0 qRT1 vRT)))) → va_S A s.heap H locs → ∀ ls : Array Slot, lv_has ls 15 [(0, .ref (bF 0)), (1, .ref (bRT 0)), (2, .int x2), (3, .ref (bF 10)), (4, .int r1), (5, .long x5_19), (7, .int x7_10), (8, .int y18), (9, .int x9_20)] → W p l e (headSpec wsX7_listFound rmX7_listFound_t).room s m ([.ref (bF 0), .ref (bRT 0), .int x2, .ref (bF 10)] : List Value).toArray below meth c H locs 0 0 (MQ below (qJ g A (cF g bF qF0 (bS 0) qF2 qF3 (bRT 0) vF1 ++ (cS g bS (bC 0) qS1 ++ (cC g bC vC ++ (cR g bRT nRT qRT0 qRT1 vRT)))) r) ([.ref (bF 0), .ref (bRT 0), .int x2, .ref (bF 10)] : List Value).toArray s 0 0 A) (F0 m 58 ls [])) ?_ ?_ FU
                  · intro x5_19 x9_20 vF_21 hf; cases hf
                  · intro self22 ih24 x5_19 x9_20 vF_21 hf H locs hP hD hS ls hl
                    unfold f_X7_listFound_t_L58 at hf
                    refine lv_iload hx hb dX7_listFound_58 (lv_at hl 8 rfl) ?_
                    refine lv_iload hx hb dX7_listFound_60 (lv_at hl 4 rfl) ?_
                    refine lv_icmp_ge (tgt := 139) hx hb dX7_listFound_62 (by decide) (fun c25 => ?_) (fun c25 => ?_)
                    · have hf := it_t hf c25
                      refine lv_iinc (v := (x7_10 + (64 : Int32))) (lv' := [(7, .int (x7_10 + (64 : Int32))), (0, .ref (bF 0)), (1, .ref (bRT 0)), (2, .int x2), (3, .ref (bF 10)), (4, .int r1), (5, .long x5_19), (8, .int y18), (9, .int x9_20)]) hx hb dX7_listFound_139 hl (k := 6) rfl rfl (by decide) rfl (fun ls hl => ?_)
                      refine lv_goto (tgt := 38) hx hb dX7_listFound_142 (by decide) ?_
                      exact ih14 x5_19 (x7_10 + (64 : Int32)) vF_21 hf H locs hP hD hS _ (lv_sub hl [1, 2, 3, 4, 5, 6, 0] rfl)
                    · have hf := it_f hf c25
                      refine lv_aload_n hx hb dX7_listFound_65 rfl (lv_at hl 1 rfl) ?_
                      refine lv_aload_n hx hb dX7_listFound_66 rfl (lv_at hl 0 rfl) ?_
                      refine va_get (D := g.1) (ci := 7) (fs := fcF bF qF0 (bS 0) qF2 qF3 (bRT 0) vF_21) (v := .ref (bS 0)) (C := RX7) (T := TX7) (N := 12) hx hb htu hinX7 hown hK hP 0 rfl rfl 1 (by decide) k_2_12 (fun _ h9 => h9) rfl dX7_listFound_67 ?_
                      refine va_get (D := g.1) (ci := 4) (fs := fcS bS (bC 0) qS1) (v := .ref (bC 0)) (C := RX4) (T := TX4) (N := 2) hx hb htu hinX4 hown hK hP 6 rfl rfl 0 (by decide) k_1_147 (fun _ h9 => h9) rfl dX7_listFound_70 ?_
                      refine lv_iconst (v := (-1 : Int32)) hx hb dX7_listFound_73 (by decide) ?_
                      refine lv_iload hx hb dX7_listFound_74 (lv_at hl 8 rfl) ?_
                      refine lv_iload hx hb dX7_listFound_76 (lv_at hl 6 rfl) ?_
                      refine lv_bipush (v := (64 : Int32)) hx hb dX7_listFound_78 (by decide) ?_
                      obtain ⟨h26, hf⟩ := gd_nz hf
                      refine lv_idiv hx hb dX7_listFound_80 h26 ?_
                      obtain ⟨r27, hg28, hf⟩ := o1_at hf
                      refine k_vlP ⟨hx, hb, hml, hown, htu⟩ hK hP hD hS hA hG (c_X3_apart l g bRT nRT qRT0 qRT1 vRT bC vC (-1 : Int32) x9_20 (x7_10 / (64 : Int32)) r27 hg28) (cwV 4 htu (gU_V mw_2_118 hcX3_apart) rfl rfl rfl hdX3_apart ⟨Nat.le_of_ble_eq_true rfl, Nat.le_of_ble_eq_true rfl⟩) (q0 := 18) (ci := 3) (fs := fcR bRT qRT0 qRT1 vRT) (q := (RX3, TX3, 5)) rfl rfl rfl (wr := (cF g bF qF0 (bS 0) qF2 qF3 (bRT 0) vF_21 ++ (cS g bS (bC 0) qS1))) (w2 := cF g bF qF0 (bS 0) qF2 qF3 (bRT 0) vF_21 ++ (cS g bS (bC 0) qS1 ++ (cC g bC vC ++ (cR g bRT nRT qRT0 qRT1 vRT)))) [18, 19, 20, 7, 8, 9, 10, 11, 12, 13, 14, 15, 16, 17] [0, 1, 2, 3, 4, 5, 6] [0, 1, 2, 3, 4, 5, 6, 10, 11, 12, 13, 14, 15, 16, 17, 18, 19, 20, 7, 8, 9] rfl rfl (by decide) (by decide) (by decide) rfl rfl (by decide) (As := [.ref (bC 0), .int (-1 : Int32), .int x9_20, .int (x7_10 / (64 : Int32))]) (rest := []) rfl rfl hl.1 (Nat.le_of_ble_eq_true rfl) dX7_listFound_81 (k1 := 0) (n1 := 0) rfl rfl ⟨Nat.zero_le _, Nat.zero_le _⟩ (fun H locs hP hD hS => ?_)
                      refine lv_lstore (lv' := [(10, .long r27), (0, .ref (bF 0)), (1, .ref (bRT 0)), (2, .int x2), (3, .ref (bF 10)), (4, .int r1), (5, .long x5_19), (7, .int x7_10), (8, .int y18), (9, .int x9_20)]) hx hb dX7_listFound_84 hl (by decide) rfl (fun ls hl => ?_)
                      refine lv_iconst (v := (0 : Int32)) hx hb dX7_listFound_86 (by decide) ?_
                      refine lv_istore (lv' := [(12, .int (0 : Int32)), (10, .long r27), (0, .ref (bF 0)), (1, .ref (bRT 0)), (2, .int x2), (3, .ref (bF 10)), (4, .int r1), (5, .long x5_19), (7, .int x7_10), (8, .int y18), (9, .int x9_20)]) hx hb dX7_listFound_87 hl (by decide) rfl (fun ls hl => ?_)
                      have hL33 : ∀ (x5_29 : Int64) (x12_30 : Int32) (vF_31 : Vs), lp (f_X7_listFound_t_L89 x7_10 y18 x9_20 self22 r27) (fun _ _ _ => none) FU x5_29 x12_30 vF_31 = some (r, vF1) → ∀ (H : Heap) (locs : List Loc), va_P g.1 vwCl (cF g bF qF0 (bS 0) qF2 qF3 (bRT 0) vF_31 ++ (cS g bS (bC 0) qS1 ++ (cC g bC vC ++ (cR g bRT nRT qRT0 qRT1 vRT)))) H → va_D A (cF g bF qF0 (bS 0) qF2 qF3 (bRT 0) vF_31 ++ (cS g bS (bC 0) qS1 ++ (cC g bC vC ++ (cR g bRT nRT qRT0 qRT1 vRT)))) → va_S A s.heap H locs → ∀ ls : Array Slot, lv_has ls 15 [(0, .ref (bF 0)), (1, .ref (bRT 0)), (2, .int x2), (3, .ref (bF 10)), (4, .int r1), (5, .long x5_29), (7, .int x7_10), (8, .int y18), (9, .int x9_20), (10, .long r27), (12, .int x12_30)] → W p l e (headSpec wsX7_listFound rmX7_listFound_t).room s m ([.ref (bF 0), .ref (bRT 0), .int x2, .ref (bF 10)] : List Value).toArray below meth c H locs 0 0 (MQ below (qJ g A (cF g bF qF0 (bS 0) qF2 qF3 (bRT 0) vF1 ++ (cS g bS (bC 0) qS1 ++ (cC g bC vC ++ (cR g bRT nRT qRT0 qRT1 vRT)))) r) ([.ref (bF 0), .ref (bRT 0), .int x2, .ref (bF 10)] : List Value).toArray s 0 0 A) (F0 m 89 ls []) := by
                        refine lp_ind (T := Int64 → Int32 → Vs → Option (Int64 × Vs)) (fun self32 => ∀ (x5_29 : Int64) (x12_30 : Int32) (vF_31 : Vs), self32 x5_29 x12_30 vF_31 = some (r, vF1) → ∀ (H : Heap) (locs : List Loc), va_P g.1 vwCl (cF g bF qF0 (bS 0) qF2 qF3 (bRT 0) vF_31 ++ (cS g bS (bC 0) qS1 ++ (cC g bC vC ++ (cR g bRT nRT qRT0 qRT1 vRT)))) H → va_D A (cF g bF qF0 (bS 0) qF2 qF3 (bRT 0) vF_31 ++ (cS g bS (bC 0) qS1 ++ (cC g bC vC ++ (cR g bRT nRT qRT0 qRT1 vRT)))) → va_S A s.heap H locs → ∀ ls : Array Slot, lv_has ls 15 [(0, .ref (bF 0)), (1, .ref (bRT 0)), (2, .int x2), (3, .ref (bF 10)), (4, .int r1), (5, .long x5_29), (7, .int x7_10), (8, .int y18), (9, .int x9_20), (10, .long r27), (12, .int x12_30)] → W p l e (headSpec wsX7_listFound rmX7_listFound_t).room s m ([.ref (bF 0), .ref (bRT 0), .int x2, .ref (bF 10)] : List Value).toArray below meth c H locs 0 0 (MQ below (qJ g A (cF g bF qF0 (bS 0) qF2 qF3 (bRT 0) vF1 ++ (cS g bS (bC 0) qS1 ++ (cC g bC vC ++ (cR g bRT nRT qRT0 qRT1 vRT)))) r) ([.ref (bF 0), .ref (bRT 0), .int x2, .ref (bF 10)] : List Value).toArray s 0 0 A) (F0 m 89 ls [])) ?_ ?_ FU
                        · intro x5_29 x12_30 vF_31 hf; cases hf
                        · intro self32 ih34 x5_29 x12_30 vF_31 hf H locs hP hD hS ls hl
                          unfold f_X7_listFound_t_L89 at hf
                          refine lv_iload hx hb dX7_listFound_89 (lv_at hl 10 rfl) ?_
                          refine lv_iload hx hb dX7_listFound_91 (lv_at hl 7 rfl) ?_
                          refine lv_icmp_ge (tgt := 133) hx hb dX7_listFound_93 (by decide) (fun c35 => ?_) (fun c35 => ?_)
                          · have hf := it_t hf c35
                            refine lv_iinc (v := (x9_20 + (1 : Int32))) (lv' := [(9, .int (x9_20 + (1 : Int32))), (0, .ref (bF 0)), (1, .ref (bRT 0)), (2, .int x2), (3, .ref (bF 10)), (4, .int r1), (5, .long x5_29), (7, .int x7_10), (8, .int y18), (10, .long r27), (12, .int x12_30)]) hx hb dX7_listFound_133 hl (k := 8) rfl rfl (by decide) rfl (fun ls hl => ?_)
                            refine lv_goto (tgt := 58) hx hb dX7_listFound_136 (by decide) ?_
                            exact ih24 x5_29 (x9_20 + (1 : Int32)) vF_31 hf H locs hP hD hS _ (lv_sub hl [1, 2, 3, 4, 5, 6, 7, 8, 0] rfl)
                          · have hf := it_f hf c35
                            refine lv_lload hx hb dX7_listFound_96 (lv_at hl 9 rfl) ?_
                            refine lv_iload hx hb dX7_listFound_98 (lv_at hl 10 rfl) ?_
                            refine lv_lushr (v := (lus r27 x12_30)) hx hb dX7_listFound_100 rfl ?_
                            refine lv_lconst (v := (1 : Int64)) hx hb dX7_listFound_101 (by decide) ?_
                            refine lv_land hx hb dX7_listFound_102 ?_
                            refine lv_iload hx hb dX7_listFound_103 (lv_at hl 8 rfl) ?_
                            refine lv_lshl (v := (((lus r27 x12_30) &&& (1 : Int64)) <<< ((x9_20).toInt64 &&& 63))) hx hb dX7_listFound_105 rfl ?_
                            refine lv_topl (fun y36 ey36 => ?_)
                            have hf := bn_at hf ey36
                            refine lv_lstore (lv' := [(13, .long y36), (0, .ref (bF 0)), (1, .ref (bRT 0)), (2, .int x2), (3, .ref (bF 10)), (4, .int r1), (5, .long x5_29), (7, .int x7_10), (8, .int y18), (9, .int x9_20), (10, .long r27), (12, .int x12_30)]) hx hb dX7_listFound_106 hl (by decide) rfl (fun ls hl => ?_)
                            refine lv_aload_n hx hb dX7_listFound_108 rfl (lv_at hl 4 rfl) ?_
                            refine lv_iload hx hb dX7_listFound_109 (lv_at hl 7 rfl) ?_
                            refine lv_iload hx hb dX7_listFound_111 (lv_at hl 11 rfl) ?_
                            refine lv_iadd hx hb dX7_listFound_113 ?_
                            refine lv_dup2_11 hx hb dX7_listFound_114 rfl rfl ?_
                            obtain ⟨h37, hf⟩ := gd_in hf
                            refine va_lald (D := g.1) (f := (vF_31.2.2 9)) hx hb hK hP 3 1 rfl rfl h37 dX7_listFound_115 ?_
                            refine lv_lload hx hb dX7_listFound_116 (lv_at hl 0 rfl) ?_
                            refine lv_lor hx hb dX7_listFound_118 ?_
                            obtain ⟨h38, hf⟩ := gd_in hf
                            refine va_last (D := g.1) (f := (vF_31.2.2 9)) hx hb hK hP hD hS 3 1 rfl rfl h38 dX7_listFound_119 (fun H locs hP hD hS => ?_)
                            obtain ⟨vF_39, evF_39⟩ : ∃ z, z = sJ vF_31 9 ((x7_10 + x12_30)).toNatClampNeg ((vF_31.2.2 9 ((x7_10 + x12_30)).toNatClampNeg) ||| y36) := ⟨_, rfl⟩
                            have hf := bn_at hf evF_39
                            have hP : va_P g.1 vwCl (cF g bF qF0 (bS 0) qF2 qF3 (bRT 0) vF_39 ++ (cS g bS (bC 0) qS1 ++ (cC g bC vC ++ (cR g bRT nRT qRT0 qRT1 vRT)))) H := by rw [evF_39]; exact hP
                            have hD : va_D A (cF g bF qF0 (bS 0) qF2 qF3 (bRT 0) vF_39 ++ (cS g bS (bC 0) qS1 ++ (cC g bC vC ++ (cR g bRT nRT qRT0 qRT1 vRT)))) := by rw [evF_39]; exact hD
                            refine lv_lload hx hb dX7_listFound_120 (lv_at hl 6 rfl) ?_
                            refine lv_lload hx hb dX7_listFound_122 (lv_at hl 0 rfl) ?_
                            refine lv_lor hx hb dX7_listFound_124 ?_
                            refine lv_lstore (lv' := [(5, .long (x5_29 ||| y36)), (13, .long y36), (0, .ref (bF 0)), (1, .ref (bRT 0)), (2, .int x2), (3, .ref (bF 10)), (4, .int r1), (7, .int x7_10), (8, .int y18), (9, .int x9_20), (10, .long r27), (12, .int x12_30)]) hx hb dX7_listFound_125 hl (by decide) rfl (fun ls hl => ?_)
                            refine lv_iinc (v := (x12_30 + (1 : Int32))) (lv' := [(12, .int (x12_30 + (1 : Int32))), (5, .long (x5_29 ||| y36)), (13, .long y36), (0, .ref (bF 0)), (1, .ref (bRT 0)), (2, .int x2), (3, .ref (bF 10)), (4, .int r1), (7, .int x7_10), (8, .int y18), (9, .int x9_20), (10, .long r27)]) hx hb dX7_listFound_127 hl (k := 11) rfl rfl (by decide) rfl (fun ls hl => ?_)
                            refine lv_goto (tgt := 89) hx hb dX7_listFound_130 (by decide) ?_
                            exact ih34 (x5_29 ||| y36) (x12_30 + (1 : Int32)) vF_39 hf H locs hP hD hS _ (lv_sub hl [3, 4, 5, 6, 7, 1, 8, 9, 10, 11, 0] rfl)
                      exact hL33 x5_19 (0 : Int32) vF_21 hf H locs hP hD hS _ (lv_sub hl [2, 3, 4, 5, 6, 7, 8, 9, 10, 1, 0] rfl)
                exact hL23 x5_9 (0 : Int32) vF_11 hf H locs hP hD hS _ (lv_sub hl [2, 3, 4, 5, 6, 7, 8, 1, 0] rfl)
          exact hL13 (0 : Int64) (0 : Int32) vF_4 hf H locs hP hD hS _ (lv_sub hl [1, 2, 3, 4, 5, 6, 0] rfl)
        · have hf := it_f hf c8
          refine lv_aload_n hx hb dX7_listFound_24 rfl (lv_at hl 3 rfl) ?_
          refine lv_iload hx hb dX7_listFound_25 (lv_at hl 6 rfl) ?_
          refine lv_lconst (v := (0 : Int64)) hx hb dX7_listFound_27 (by decide) ?_
          obtain ⟨h40, hf⟩ := gd_in hf
          refine va_last (D := g.1) (f := (vF_4.2.2 9)) hx hb hK hP hD hS 3 1 rfl rfl h40 dX7_listFound_28 (fun H locs hP hD hS => ?_)
          obtain ⟨vF_41, evF_41⟩ : ∃ z, z = sJ vF_4 9 (x7_3).toNatClampNeg (0 : Int64) := ⟨_, rfl⟩
          have hf := bn_at hf evF_41
          have hP : va_P g.1 vwCl (cF g bF qF0 (bS 0) qF2 qF3 (bRT 0) vF_41 ++ (cS g bS (bC 0) qS1 ++ (cC g bC vC ++ (cR g bRT nRT qRT0 qRT1 vRT)))) H := by rw [evF_41]; exact hP
          have hD : va_D A (cF g bF qF0 (bS 0) qF2 qF3 (bRT 0) vF_41 ++ (cS g bS (bC 0) qS1 ++ (cC g bC vC ++ (cR g bRT nRT qRT0 qRT1 vRT)))) := by rw [evF_41]; exact hD
          refine lv_iinc (v := (x7_3 + (1 : Int32))) (lv' := [(7, .int (x7_3 + (1 : Int32))), (0, .ref (bF 0)), (1, .ref (bRT 0)), (2, .int x2), (3, .ref (bF 10)), (4, .int r1), (5, .long (0 : Int64))]) hx hb dX7_listFound_29 hl (k := 6) rfl rfl (by decide) rfl (fun ls hl => ?_)
          refine lv_goto (tgt := 18) hx hb dX7_listFound_32 (by decide) ?_
          exact ih7 (x7_3 + (1 : Int32)) vF_41 hf H locs hP hD hS _ (lv_sub hl [1, 2, 3, 4, 5, 6, 0] rfl)
    exact hL6 (0 : Int32) vF hf H locs hP hD hS _ (lv_sub hl [3, 4, 5, 6, 2, 1, 0] rfl)
  rw [hH, hlo] at hW
  exact hW
