def f_X7_addTest (vF : Vs) (vC : Vs) (vT : Vs) (vH : Hv) (x1 : Int32) (x2 : Int32) : Option (Nat × Int32 × Vs × Vs × Hv) :=
  o1 (f_X7_areInputs vF vC x1) (fun (r1 : Int32) => jn (some (1, (0 : Int32), vF, vT, vH)) (fun k3 => if r1 = 0 then k3 else o1 (f_X7_areInputs vF vC x2) (fun (r7 : Int32) => if r7 = 0 then k3 else if (x1 &&& x2) = 0 then if (vT.1 0) < (16 : Int32) then o1 (f_X1_push vC vT vH) (fun (vH_12 : Hv) => o1 (f_X6_put vT x1 x2) (fun (vT_14 : Vs) => bn (sF vF 6 (0 : Int32)) (fun (vF_16 : Vs) => some (0, ((vT_14.1 0) - (1 : Int32)), vF_16, vT_14, vH_12)))) else some (4, (0 : Int32), vF, vT, vH) else k3)))
abbrev wsX7_addTest : List Cond := .code yX7_addTest cX7_addTest 3 (some .int) :: UW
abbrev rmX7_addTest : Room := { frames := 4, cells := 0, slots := 0, locals := 123 }
set_option maxHeartbeats 4000000 in
set_option maxRecDepth 100000 in
theorem c_X7_addTest (l : Launch) (g : Gx) (bF : Nat → Nat) (qF0 : Nat) (qF3 : Nat) (qF4 : Nat) (vF : Vs) (bS : Nat → Nat) (bC : Nat → Nat) (vC : Vs) (bT : Nat → Nat) (vT : Vs) (bH : Nat → Nat → Nat) (vH : Hv) (x1 : Int32) (x2 : Int32) (r : Int32) (vF1 : Vs) (vT1 : Vs) (vH1 : Hv) (hf : f_X7_addTest vF vC vT vH x1 x2 = some (0, r, vF1, vT1, vH1)) : CtI l yX7_addTest wsX7_addTest rmX7_addTest g [.ref (bF 0), .int x1, .int x2] (cF g bF qF0 (bS 0) (bH 0 0) qF3 qF4 vF ++ (cS g bS (bC 0) (bT 0) ++ (cC g bC vC ++ (cT g bT vT ++ (cH g bH vH))))) (cF g bF qF0 (bS 0) (bH 0 0) qF3 qF4 vF1 ++ (cS g bS (bC 0) (bT 0) ++ (cC g bC vC ++ (cT g bT vT1 ++ (cH g bH vH1))))) r 0 0 := by
  unfold CtI
  intro sz
  refine Met.ofW (cc := cX7_addTest) (maxL := 3) (ret := (some .int)) (by decide) rfl ?_
  intro p e s m args below meth c s₁ B hml hv
  obtain ⟨rfl, hsz, hP, hK, hD0, hG⟩ := hv
  have hx := B.exec
  have hb := B.bytes
  have hr := B.returns
  have hts := atoms_spec (ws := wsX7_addTest) B.pre
  have hown : s.vm.findClass RX7 = some m.cls := findClass_of_methodNamed B.named
  have hlocks := B.notSynchronized
  subst hsz
  have hD := hD0.self (sz := s.heap.size)
  generalize hAe : va_A (cF g bF qF0 (bS 0) (bH 0 0) qF3 qF4 vF ++ (cS g bS (bC 0) (bT 0) ++ (cC g bC vC ++ (cT g bT vT ++ (cH g bH vH))))) s.heap.size = A at hD hG ⊢
  have hA : ∀ q : Nat, s.heap.size ≤ q → A q := fun q h => by rw [← hAe]; exact Or.inr h
  clear hAe hD0
  have hS : va_S A s.heap s.heap [] := va_S.rf
  have hl := lv_entry ([.ref (bF 0), .int x1, .int x2]) (n := 3) (Nat.le_of_ble_eq_true rfl)
  rw [lg_entry_eq]
  generalize (lg_sl ([.ref (bF 0), .int x1, .int x2]) ++ List.replicate (3 - (lg_sl ([.ref (bF 0), .int x1, .int x2])).length) Slot.unset).toArray = ls at hl ⊢
  have hl : lv_has ls 3 [(0, .ref (bF 0)), (1, .int x1), (2, .int x2)] := hl
  have htu : ∀ w ∈ UW, w.before _ s = true := fun w h => hts w (List.mem_cons_of_mem _ h)
  have k_2_19 := htu _ mw_2_19
  have k_1_153 := htu _ mw_1_153
  have k_1_129 := htu _ mw_1_129
  have k_2_20 := htu _ mw_2_20
  have k_2_24 := htu _ mw_2_24
  unfold f_X7_addTest at hf
  obtain ⟨H, hH⟩ : ∃ z, z = s.heap := ⟨_, rfl⟩
  obtain ⟨locs, hlo⟩ : ∃ z : List Loc, z = [] := ⟨_, rfl⟩
  have hS : va_S A s.heap H locs := by rw [hH, hlo]; exact hS
  rw [← hH] at hP
  have hW : W p l e (headSpec wsX7_addTest rmX7_addTest).room s m ([.ref (bF 0), .int x1, .int x2] : List Value).toArray below meth c H locs 0 0 (MQ below (qI g A (cF g bF qF0 (bS 0) (bH 0 0) qF3 qF4 vF1 ++ (cS g bS (bC 0) (bT 0) ++ (cC g bC vC ++ (cT g bT vT1 ++ (cH g bH vH1))))) r) ([.ref (bF 0), .int x1, .int x2] : List Value).toArray s 0 0 A) (F0 m 0 ls []) := by
    refine lv_aload_n hx hb dX7_addTest_0 rfl (lv_at hl 0 rfl) ?_
    refine lv_iload_n hx hb dX7_addTest_1 rfl (lv_at hl 1 rfl) ?_
    obtain ⟨r1, hg2, hf⟩ := o1_at hf
    refine k_viQ ⟨hx, hb, hml, hown, htu⟩ hK hP hD hS hA hG (c_X7_areInputs l g bF qF0 (bH 0 0) qF3 qF4 vF bS (bT 0) bC vC x1 r1 hg2) (cwV 1 htu (gU_V mw_4_239 hcX7_areInputs) rfl rfl rfl hdX7_areInputs ⟨Nat.le_of_ble_eq_true rfl, Nat.le_of_ble_eq_true rfl⟩) (q0 := 0) (ci := 7) (fs := fcF bF qF0 (bS 0) (bH 0 0) qF3 qF4 vF) (q := (RX7, TX7, 12)) rfl rfl rfl (wr := (cT g bT vT ++ (cH g bH vH))) (w2 := cF g bF qF0 (bS 0) (bH 0 0) qF3 qF4 vF ++ (cS g bS (bC 0) (bT 0) ++ (cC g bC vC ++ (cT g bT vT ++ (cH g bH vH))))) (kpc (fun P => by simp only [List.countP_append] <;> omega)) (kpc (fun P => by simp only [List.countP_append] <;> omega)) (As := [.int x1]) (rest := []) rfl rfl hl.1 (Nat.le_of_ble_eq_true rfl) dX7_addTest_2 (k1 := 0) (n1 := 0) rfl rfl ⟨Nat.zero_le _, Nat.zero_le _⟩ (fun H locs hP hD hS => ?_)
    obtain ⟨k3, hk5, hf⟩ := jn_at hf
    have hJ4 : k3 = some (0, r, vF1, vT1, vH1) → ∀ (H : Heap) (locs : List Loc), va_P g.1 vwCl (cF g bF qF0 (bS 0) (bH 0 0) qF3 qF4 vF ++ (cS g bS (bC 0) (bT 0) ++ (cC g bC vC ++ (cT g bT vT ++ (cH g bH vH))))) H → va_D A (cF g bF qF0 (bS 0) (bH 0 0) qF3 qF4 vF ++ (cS g bS (bC 0) (bT 0) ++ (cC g bC vC ++ (cT g bT vT ++ (cH g bH vH))))) → va_S A s.heap H locs → ∀ ls : Array Slot, lv_has ls 3 [] → W p l e (headSpec wsX7_addTest rmX7_addTest).room s m ([.ref (bF 0), .int x1, .int x2] : List Value).toArray below meth c H locs 0 0 (MQ below (qI g A (cF g bF qF0 (bS 0) (bH 0 0) qF3 qF4 vF1 ++ (cS g bS (bC 0) (bT 0) ++ (cC g bC vC ++ (cT g bT vT1 ++ (cH g bH vH1))))) r) ([.ref (bF 0), .int x1, .int x2] : List Value).toArray s 0 0 A) (F0 m 22 ls []) := by
      intro hf H locs hP hD hS ls hl
      rw [hk5] at hf
      clear hk5
      exact absurd (kp_5 hf).1 (by decide)
    refine lv_if_eq (tgt := 22) hx hb dX7_addTest_5 (by decide) (fun c6 => ?_) (fun c6 => ?_)
    · have hf := it_t hf c6
      exact hJ4 hf H locs hP hD hS _ (lv_sub hl [] rfl)
    · have hf := it_f hf c6
      refine lv_aload_n hx hb dX7_addTest_8 rfl (lv_at hl 0 rfl) ?_
      refine lv_iload_n hx hb dX7_addTest_9 rfl (lv_at hl 2 rfl) ?_
      obtain ⟨r7, hg8, hf⟩ := o1_at hf
      refine k_viQ ⟨hx, hb, hml, hown, htu⟩ hK hP hD hS hA hG (c_X7_areInputs l g bF qF0 (bH 0 0) qF3 qF4 vF bS (bT 0) bC vC x2 r7 hg8) (cwV 1 htu (gU_V mw_4_239 hcX7_areInputs) rfl rfl rfl hdX7_areInputs ⟨Nat.le_of_ble_eq_true rfl, Nat.le_of_ble_eq_true rfl⟩) (q0 := 0) (ci := 7) (fs := fcF bF qF0 (bS 0) (bH 0 0) qF3 qF4 vF) (q := (RX7, TX7, 12)) rfl rfl rfl (wr := (cT g bT vT ++ (cH g bH vH))) (w2 := cF g bF qF0 (bS 0) (bH 0 0) qF3 qF4 vF ++ (cS g bS (bC 0) (bT 0) ++ (cC g bC vC ++ (cT g bT vT ++ (cH g bH vH))))) (kpc (fun P => by simp only [List.countP_append] <;> omega)) (kpc (fun P => by simp only [List.countP_append] <;> omega)) (As := [.int x2]) (rest := []) rfl rfl hl.1 (Nat.le_of_ble_eq_true rfl) dX7_addTest_10 (k1 := 0) (n1 := 0) rfl rfl ⟨Nat.zero_le _, Nat.zero_le _⟩ (fun H locs hP hD hS => ?_)
      refine lv_if_eq (tgt := 22) hx hb dX7_addTest_13 (by decide) (fun c9 => ?_) (fun c9 => ?_)
      · have hf := it_t hf c9
        exact hJ4 hf H locs hP hD hS _ (lv_sub hl [] rfl)
      · have hf := it_f hf c9
        refine lv_iload_n hx hb dX7_addTest_16 rfl (lv_at hl 1 rfl) ?_
        refine lv_iload_n hx hb dX7_addTest_17 rfl (lv_at hl 2 rfl) ?_
        refine lv_iand hx hb dX7_addTest_18 ?_
        refine lv_if_eq (tgt := 32) hx hb dX7_addTest_19 (by decide) (fun c10 => ?_) (fun c10 => ?_)
        · have hf := it_t hf c10
          refine lv_aload_n hx hb dX7_addTest_32 rfl (lv_at hl 0 rfl) ?_
          refine va_get (D := g.1) (ci := 7) (fs := fcF bF qF0 (bS 0) (bH 0 0) qF3 qF4 vF) (v := .ref (bS 0)) (C := RX7) (T := TX7) (N := 12) hx hb htu hinX7 hown hK hP 0 rfl rfl 1 (by decide) k_2_19 (fun _ h9 => h9) rfl dX7_addTest_33 ?_
          refine va_get (D := g.1) (ci := 4) (fs := fcS bS (bC 0) (bT 0)) (v := .ref (bT 0)) (C := RX4) (T := TX4) (N := 2) hx hb htu hinX4 hown hK hP 6 rfl rfl 1 (by decide) k_1_153 (fun _ h9 => h9) rfl dX7_addTest_36 ?_
          refine va_get (D := g.1) (ci := 6) (fs := fcT bT vT) (v := .int (vT.1 0)) (C := RX6) (T := TX6) (N := 5) hx hb htu hinX6 hown hK hP 18 rfl rfl 0 (by decide) k_1_129 (fun _ h9 => h9) rfl dX7_addTest_39 ?_
          refine lv_bipush (v := (16 : Int32)) hx hb dX7_addTest_42 (by decide) ?_
          refine lv_icmp_lt (tgt := 57) hx hb dX7_addTest_44 (by decide) (fun c11 => ?_) (fun c11 => ?_)
          · have hf := it_t hf c11
            refine lv_aload_n hx hb dX7_addTest_57 rfl (lv_at hl 0 rfl) ?_
            refine va_get (D := g.1) (ci := 7) (fs := fcF bF qF0 (bS 0) (bH 0 0) qF3 qF4 vF) (v := .ref (bH 0 0)) (C := RX7) (T := TX7) (N := 12) hx hb htu hinX7 hown hK hP 0 rfl rfl 2 (by decide) k_2_20 (fun _ h9 => h9) rfl dX7_addTest_58 ?_
            refine lv_aload_n hx hb dX7_addTest_61 rfl (lv_at hl 0 rfl) ?_
            refine va_get (D := g.1) (ci := 7) (fs := fcF bF qF0 (bS 0) (bH 0 0) qF3 qF4 vF) (v := .ref (bS 0)) (C := RX7) (T := TX7) (N := 12) hx hb htu hinX7 hown hK hP 0 rfl rfl 1 (by decide) k_2_19 (fun _ h9 => h9) rfl dX7_addTest_62 ?_
            obtain ⟨vH_12, hg13, hf⟩ := o1_at hf
            refine k_vvQ ⟨hx, hb, hml, hown, htu⟩ hK hP hD hS hA hG (c_X1_push l g bS bC vC bT vT bH vH vH_12 hg13) (cwV 1 htu (gU_V mw_2_215 hcX1_push) rfl rfl rfl hdX1_push ⟨Nat.le_of_ble_eq_true rfl, Nat.le_of_ble_eq_true rfl⟩) (q0 := 23) (ci := 1) (fs := fcH bH vH) (q := (RX1, TX1, 3)) rfl rfl rfl (wr := (cF g bF qF0 (bS 0) (bH 0 0) qF3 qF4 vF)) (w2 := cF g bF qF0 (bS 0) (bH 0 0) qF3 qF4 vF ++ (cS g bS (bC 0) (bT 0) ++ (cC g bC vC ++ (cT g bT vT ++ (cH g bH vH_12))))) (kpc (fun P => by simp only [List.countP_append] <;> omega)) (kpc (fun P => by simp only [List.countP_append] <;> omega)) (As := [.ref (bS 0)]) (rest := []) rfl rfl hl.1 (Nat.le_of_ble_eq_true rfl) dX7_addTest_65 (k1 := 0) (n1 := 0) rfl rfl ⟨Nat.zero_le _, Nat.zero_le _⟩ (fun H locs hP hD hS => ?_)
            refine lv_aload_n hx hb dX7_addTest_68 rfl (lv_at hl 0 rfl) ?_
            refine va_get (D := g.1) (ci := 7) (fs := fcF bF qF0 (bS 0) (bH 0 0) qF3 qF4 vF) (v := .ref (bS 0)) (C := RX7) (T := TX7) (N := 12) hx hb htu hinX7 hown hK hP 0 rfl rfl 1 (by decide) k_2_19 (fun _ h9 => h9) rfl dX7_addTest_69 ?_
            refine va_get (D := g.1) (ci := 4) (fs := fcS bS (bC 0) (bT 0)) (v := .ref (bT 0)) (C := RX4) (T := TX4) (N := 2) hx hb htu hinX4 hown hK hP 6 rfl rfl 1 (by decide) k_1_153 (fun _ h9 => h9) rfl dX7_addTest_72 ?_
            refine lv_iload_n hx hb dX7_addTest_75 rfl (lv_at hl 1 rfl) ?_
            refine lv_iload_n hx hb dX7_addTest_76 rfl (lv_at hl 2 rfl) ?_
            obtain ⟨vT_14, hg15, hf⟩ := o1_at hf
            refine k_vvQ ⟨hx, hb, hml, hown, htu⟩ hK hP hD hS hA hG (c_X6_put l g bT vT x1 x2 vT_14 hg15) (cwV 2 htu (gU_V mw_3_22 hcX6_put) rfl rfl rfl hdX6_put ⟨Nat.le_of_ble_eq_true rfl, Nat.le_of_ble_eq_true rfl⟩) (q0 := 18) (ci := 6) (fs := fcT bT vT) (q := (RX6, TX6, 5)) rfl rfl rfl (wr := (cF g bF qF0 (bS 0) (bH 0 0) qF3 qF4 vF ++ (cS g bS (bC 0) (bT 0) ++ (cC g bC vC ++ (cH g bH vH_12))))) (w2 := cF g bF qF0 (bS 0) (bH 0 0) qF3 qF4 vF ++ (cS g bS (bC 0) (bT 0) ++ (cC g bC vC ++ (cT g bT vT_14 ++ (cH g bH vH_12))))) (kpc (fun P => by simp only [List.countP_append] <;> omega)) (kpc (fun P => by simp only [List.countP_append] <;> omega)) (As := [.int x1, .int x2]) (rest := []) rfl rfl hl.1 (Nat.le_of_ble_eq_true rfl) dX7_addTest_77 (k1 := 0) (n1 := 0) rfl rfl ⟨Nat.zero_le _, Nat.zero_le _⟩ (fun H locs hP hD hS => ?_)
            refine lv_aload_n hx hb dX7_addTest_80 rfl (lv_at hl 0 rfl) ?_
            refine lv_iconst (v := (0 : Int32)) hx hb dX7_addTest_81 (by decide) ?_
            refine va_put (D := g.1) (ci := 7) (fs := fcF bF qF0 (bS 0) (bH 0 0) qF3 qF4 vF) (v := .int (0 : Int32)) (ty := .boolean) (C := RX7) (T := TX7) (N := 12) hx hb htu hinX7 tyX7 tyX7_ok nmX7 hown hK hP hD hS 0 rfl rfl 6 (by decide) k_2_24 (fun _ h9 => h9) rfl (by decide +kernel) rfl rfl (Nat.le_of_ble_eq_true rfl) dX7_addTest_82 (fun H locs hP hD hS => ?_)
            obtain ⟨vF_16, evF_16⟩ : ∃ z, z = sF vF 6 (0 : Int32) := ⟨_, rfl⟩
            have hf := bn_at hf evF_16
            have hP : va_P g.1 vwCl (cF g bF qF0 (bS 0) (bH 0 0) qF3 qF4 vF_16 ++ (cS g bS (bC 0) (bT 0) ++ (cC g bC vC ++ (cT g bT vT_14 ++ (cH g bH vH_12))))) H := by rw [evF_16]; exact hP
            have hD : va_D A (cF g bF qF0 (bS 0) (bH 0 0) qF3 qF4 vF_16 ++ (cS g bS (bC 0) (bT 0) ++ (cC g bC vC ++ (cT g bT vT_14 ++ (cH g bH vH_12))))) := by rw [evF_16]; exact hD
            refine lv_aload_n hx hb dX7_addTest_85 rfl (lv_at hl 0 rfl) ?_
            refine va_get (D := g.1) (ci := 7) (fs := fcF bF qF0 (bS 0) (bH 0 0) qF3 qF4 vF_16) (v := .ref (bS 0)) (C := RX7) (T := TX7) (N := 12) hx hb htu hinX7 hown hK hP 0 rfl rfl 1 (by decide) k_2_19 (fun _ h9 => h9) rfl dX7_addTest_86 ?_
            refine va_get (D := g.1) (ci := 4) (fs := fcS bS (bC 0) (bT 0)) (v := .ref (bT 0)) (C := RX4) (T := TX4) (N := 2) hx hb htu hinX4 hown hK hP 6 rfl rfl 1 (by decide) k_1_153 (fun _ h9 => h9) rfl dX7_addTest_89 ?_
            refine va_get (D := g.1) (ci := 6) (fs := fcT bT vT_14) (v := .int (vT_14.1 0)) (C := RX6) (T := TX6) (N := 5) hx hb htu hinX6 hown hK hP 18 rfl rfl 0 (by decide) k_1_129 (fun _ h9 => h9) rfl dX7_addTest_92 ?_
            refine lv_iconst (v := (1 : Int32)) hx hb dX7_addTest_95 (by decide) ?_
            refine lv_isub hx hb dX7_addTest_96 ?_
            obtain ⟨e17, e18, e19, e20, e21⟩ := kp_5 hf
            rw [e19] at hP hD
            rw [e20] at hP hD
            rw [e21] at hP hD
            exact k_iret hx hb hr hlocks hK hP hD hS e18 dX7_addTest_97
          · have hf := it_f hf c11
            exact absurd (kp_5 hf).1 (by decide)
        · have hf := it_f hf c10
          exact hJ4 hf H locs hP hD hS _ (lv_sub hl [] rfl)
  rw [hH, hlo] at hW
  exact hW
abbrev rtX7_addTest : Room := { frames := 8, cells := 1, slots := 6, locals := 123 }
set_option maxHeartbeats 4000000 in
set_option maxRecDepth 100000 in
theorem t_X7_addTest (l : Launch) (hst : l.stackTraces = false) (g : Gx) (bF : Nat → Nat) (qF0 : Nat) (qF3 : Nat) (qF4 : Nat) (vF : Vs) (bS : Nat → Nat) (bC : Nat → Nat) (vC : Vs) (bT : Nat → Nat) (vT : Vs) (bH : Nat → Nat → Nat) (vH : Hv) (x1 : Int32) (x2 : Int32) (r : Int32) (vF1 : Vs) (vT1 : Vs) (vH1 : Hv) (ek : Nat) (hf : f_X7_addTest vF vC vT vH x1 x2 = some (ek, r, vF1, vT1, vH1)) (hek : ¬ ek = 0) : CtXI l yX7_addTest wsX7_addTest rtX7_addTest g [.ref (bF 0), .int x1, .int x2] (cF g bF qF0 (bS 0) (bH 0 0) qF3 qF4 vF ++ (cS g bS (bC 0) (bT 0) ++ (cC g bC vC ++ (cT g bT vT ++ (cH g bH vH))))) (cF g bF qF0 (bS 0) (bH 0 0) qF3 qF4 vF1 ++ (cS g bS (bC 0) (bT 0) ++ (cC g bC vC ++ (cT g bT vT1 ++ (cH g bH vH1))))) (exN ek) 1 6 := by
  unfold CtXI
  intro sz
  refine vx_ofW (cc := cX7_addTest) (maxL := 3) (ret := (some .int)) (by decide) rfl ?_
  intro p e s m args below meth c s₁ B hml hT hv
  obtain ⟨rfl, hsz, hP, hK, hD0, hG⟩ := hv
  have hx := B.exec
  have hb := B.bytes
  have hr := B.returns
  have hts := atoms_spec (ws := wsX7_addTest) B.pre
  have hown : s.vm.findClass RX7 = some m.cls := findClass_of_methodNamed B.named
  have hlocks := B.notSynchronized
  subst hsz
  have hD := hD0.self (sz := s.heap.size)
  generalize hAe : va_A (cF g bF qF0 (bS 0) (bH 0 0) qF3 qF4 vF ++ (cS g bS (bC 0) (bT 0) ++ (cC g bC vC ++ (cT g bT vT ++ (cH g bH vH))))) s.heap.size = A at hD hG ⊢
  have hA : ∀ q : Nat, s.heap.size ≤ q → A q := fun q h => by rw [← hAe]; exact Or.inr h
  clear hAe hD0
  have hS : va_S A s.heap s.heap [] := va_S.rf
  have hl := lv_entry ([.ref (bF 0), .int x1, .int x2]) (n := 3) (Nat.le_of_ble_eq_true rfl)
  rw [lg_entry_eq]
  generalize (lg_sl ([.ref (bF 0), .int x1, .int x2]) ++ List.replicate (3 - (lg_sl ([.ref (bF 0), .int x1, .int x2])).length) Slot.unset).toArray = ls at hl ⊢
  have hl : lv_has ls 3 [(0, .ref (bF 0)), (1, .int x1), (2, .int x2)] := hl
  have htu : ∀ w ∈ UW, w.before _ s = true := fun w h => hts w (List.mem_cons_of_mem _ h)
  have k_3_52 := htu _ mw_3_52
  have k_1_13 := htu _ mw_1_13
  have k_2_19 := htu _ mw_2_19
  have k_1_153 := htu _ mw_1_153
  have k_1_129 := htu _ mw_1_129
  have k_2_20 := htu _ mw_2_20
  have k_2_24 := htu _ mw_2_24
  have k_5_4 := htu _ mw_5_4
  have k_1_24 := htu _ mw_1_24
  unfold f_X7_addTest at hf
  obtain ⟨H, hH⟩ : ∃ z, z = s.heap := ⟨_, rfl⟩
  obtain ⟨locs, hlo⟩ : ∃ z : List Loc, z = [] := ⟨_, rfl⟩
  have hS : va_S A s.heap H locs := by rw [hH, hlo]; exact hS
  rw [← hH] at hP
  have hW : W p l e (headSpec wsX7_addTest rtX7_addTest).room s m ([.ref (bF 0), .int x1, .int x2] : List Value).toArray below meth c H locs 0 0 (vx_MQ below (nI0 A) (xE g A (cF g bF qF0 (bS 0) (bH 0 0) qF3 qF4 vF1 ++ (cS g bS (bC 0) (bT 0) ++ (cC g bC vC ++ (cT g bT vT1 ++ (cH g bH vH1))))) (exN ek)) ([.ref (bF 0), .int x1, .int x2] : List Value).toArray s 1 6 A) (F0 m 0 ls []) := by
    refine lv_aload_n hx hb dX7_addTest_0 rfl (lv_at hl 0 rfl) ?_
    refine lv_iload_n hx hb dX7_addTest_1 rfl (lv_at hl 1 rfl) ?_
    obtain ⟨r1, hg2, hf⟩ := o1_at hf
    refine k_viQ ⟨hx, hb, hml, hown, htu⟩ hK hP hD hS hA hG (c_X7_areInputs l g bF qF0 (bH 0 0) qF3 qF4 vF bS (bT 0) bC vC x1 r1 hg2) (cwV 1 htu (gU_V mw_4_239 hcX7_areInputs) rfl rfl rfl hdX7_areInputs ⟨Nat.le_of_ble_eq_true rfl, Nat.le_of_ble_eq_true rfl⟩) (q0 := 0) (ci := 7) (fs := fcF bF qF0 (bS 0) (bH 0 0) qF3 qF4 vF) (q := (RX7, TX7, 12)) rfl rfl rfl (wr := (cT g bT vT ++ (cH g bH vH))) (w2 := cF g bF qF0 (bS 0) (bH 0 0) qF3 qF4 vF ++ (cS g bS (bC 0) (bT 0) ++ (cC g bC vC ++ (cT g bT vT ++ (cH g bH vH))))) (kpc (fun P => by simp only [List.countP_append] <;> omega)) (kpc (fun P => by simp only [List.countP_append] <;> omega)) (As := [.int x1]) (rest := []) rfl rfl hl.1 (Nat.le_of_ble_eq_true rfl) dX7_addTest_2 (k1 := 0) (n1 := 0) rfl rfl ⟨Nat.zero_le _, Nat.zero_le _⟩ (fun H locs hP hD hS => ?_)
    obtain ⟨k3, hk5, hf⟩ := jn_at hf
    have hJ4 : k3 = some (ek, r, vF1, vT1, vH1) → ∀ (H : Heap) (locs : List Loc), va_P g.1 vwCl (cF g bF qF0 (bS 0) (bH 0 0) qF3 qF4 vF ++ (cS g bS (bC 0) (bT 0) ++ (cC g bC vC ++ (cT g bT vT ++ (cH g bH vH))))) H → va_D A (cF g bF qF0 (bS 0) (bH 0 0) qF3 qF4 vF ++ (cS g bS (bC 0) (bT 0) ++ (cC g bC vC ++ (cT g bT vT ++ (cH g bH vH))))) → va_S A s.heap H locs → ∀ ls : Array Slot, lv_has ls 3 [] → W p l e (headSpec wsX7_addTest rtX7_addTest).room s m ([.ref (bF 0), .int x1, .int x2] : List Value).toArray below meth c H locs 0 0 (vx_MQ below (nI0 A) (xE g A (cF g bF qF0 (bS 0) (bH 0 0) qF3 qF4 vF1 ++ (cS g bS (bC 0) (bT 0) ++ (cC g bC vC ++ (cT g bT vT1 ++ (cH g bH vH1))))) (exN ek)) ([.ref (bF 0), .int x1, .int x2] : List Value).toArray s 1 6 A) (F0 m 22 ls []) := by
      intro hf H locs hP hD hS ls hl
      rw [hk5] at hf
      clear hk5
      obtain ⟨rfl, rfl, rfl, rfl, rfl⟩ := kp_5 hf
      exact vx_throwS (own := RX7) (cls := "java/lang/IllegalArgumentException") (text := "ones or unknowns") (names := ["java/lang/RuntimeException", "java/lang/Exception"]) (ic := 77) (sa := adK g 13) (A := A) hx hb hst hown (by decide +kernel) (by decide +kernel) k_3_52 k_1_13 (hG.1.1 ("FaultTests", 241, "ones or unknowns", 13) (List.mem_of_getElem? (i := 3) rfl)) (fun w h => (xw_77 w h).elim (htu w) (hG.1.bad w)) xo_77 hG.2.1.1 hG.2.1.2 hS (hl.1.trans hml.symm) dX7_addTest_22 dX7_addTest_25 dX7_addTest_26 dX7_addTest_28 dX7_addTest_31 (fun z hz => (hT z hz).elim) (Nat.le_of_ble_eq_true rfl) (Nat.le_of_ble_eq_true rfl) (Nat.le_refl _) (Nat.le_refl _) hlocks (fun t hv hz hq => ⟨(), trivial, ⟨rfl, hP.kept (fun k q h9 => hq q.1 (k_lt hP h9)), va_K.moved hv hK, hD⟩, ⟨Nat.le_trans hS.1 hz, fun q h1 h2 => (hq q (Nat.lt_of_lt_of_le h1 hS.1)).trans (hS.2.1 q h1 h2)⟩⟩) hS.2.2 (Nat.le_refl _) (Nat.le_refl _)
    refine lv_if_eq (tgt := 22) hx hb dX7_addTest_5 (by decide) (fun c6 => ?_) (fun c6 => ?_)
    · have hf := it_t hf c6
      exact hJ4 hf H locs hP hD hS _ (lv_sub hl [] rfl)
    · have hf := it_f hf c6
      refine lv_aload_n hx hb dX7_addTest_8 rfl (lv_at hl 0 rfl) ?_
      refine lv_iload_n hx hb dX7_addTest_9 rfl (lv_at hl 2 rfl) ?_
      obtain ⟨r7, hg8, hf⟩ := o1_at hf
      refine k_viQ ⟨hx, hb, hml, hown, htu⟩ hK hP hD hS hA hG (c_X7_areInputs l g bF qF0 (bH 0 0) qF3 qF4 vF bS (bT 0) bC vC x2 r7 hg8) (cwV 1 htu (gU_V mw_4_239 hcX7_areInputs) rfl rfl rfl hdX7_areInputs ⟨Nat.le_of_ble_eq_true rfl, Nat.le_of_ble_eq_true rfl⟩) (q0 := 0) (ci := 7) (fs := fcF bF qF0 (bS 0) (bH 0 0) qF3 qF4 vF) (q := (RX7, TX7, 12)) rfl rfl rfl (wr := (cT g bT vT ++ (cH g bH vH))) (w2 := cF g bF qF0 (bS 0) (bH 0 0) qF3 qF4 vF ++ (cS g bS (bC 0) (bT 0) ++ (cC g bC vC ++ (cT g bT vT ++ (cH g bH vH))))) (kpc (fun P => by simp only [List.countP_append] <;> omega)) (kpc (fun P => by simp only [List.countP_append] <;> omega)) (As := [.int x2]) (rest := []) rfl rfl hl.1 (Nat.le_of_ble_eq_true rfl) dX7_addTest_10 (k1 := 0) (n1 := 0) rfl rfl ⟨Nat.zero_le _, Nat.zero_le _⟩ (fun H locs hP hD hS => ?_)
      refine lv_if_eq (tgt := 22) hx hb dX7_addTest_13 (by decide) (fun c9 => ?_) (fun c9 => ?_)
      · have hf := it_t hf c9
        exact hJ4 hf H locs hP hD hS _ (lv_sub hl [] rfl)
      · have hf := it_f hf c9
        refine lv_iload_n hx hb dX7_addTest_16 rfl (lv_at hl 1 rfl) ?_
        refine lv_iload_n hx hb dX7_addTest_17 rfl (lv_at hl 2 rfl) ?_
        refine lv_iand hx hb dX7_addTest_18 ?_
        refine lv_if_eq (tgt := 32) hx hb dX7_addTest_19 (by decide) (fun c10 => ?_) (fun c10 => ?_)
        · have hf := it_t hf c10
          refine lv_aload_n hx hb dX7_addTest_32 rfl (lv_at hl 0 rfl) ?_
          refine va_get (D := g.1) (ci := 7) (fs := fcF bF qF0 (bS 0) (bH 0 0) qF3 qF4 vF) (v := .ref (bS 0)) (C := RX7) (T := TX7) (N := 12) hx hb htu hinX7 hown hK hP 0 rfl rfl 1 (by decide) k_2_19 (fun _ h9 => h9) rfl dX7_addTest_33 ?_
          refine va_get (D := g.1) (ci := 4) (fs := fcS bS (bC 0) (bT 0)) (v := .ref (bT 0)) (C := RX4) (T := TX4) (N := 2) hx hb htu hinX4 hown hK hP 6 rfl rfl 1 (by decide) k_1_153 (fun _ h9 => h9) rfl dX7_addTest_36 ?_
          refine va_get (D := g.1) (ci := 6) (fs := fcT bT vT) (v := .int (vT.1 0)) (C := RX6) (T := TX6) (N := 5) hx hb htu hinX6 hown hK hP 18 rfl rfl 0 (by decide) k_1_129 (fun _ h9 => h9) rfl dX7_addTest_39 ?_
          refine lv_bipush (v := (16 : Int32)) hx hb dX7_addTest_42 (by decide) ?_
          refine lv_icmp_lt (tgt := 57) hx hb dX7_addTest_44 (by decide) (fun c11 => ?_) (fun c11 => ?_)
          · have hf := it_t hf c11
            refine lv_aload_n hx hb dX7_addTest_57 rfl (lv_at hl 0 rfl) ?_
            refine va_get (D := g.1) (ci := 7) (fs := fcF bF qF0 (bS 0) (bH 0 0) qF3 qF4 vF) (v := .ref (bH 0 0)) (C := RX7) (T := TX7) (N := 12) hx hb htu hinX7 hown hK hP 0 rfl rfl 2 (by decide) k_2_20 (fun _ h9 => h9) rfl dX7_addTest_58 ?_
            refine lv_aload_n hx hb dX7_addTest_61 rfl (lv_at hl 0 rfl) ?_
            refine va_get (D := g.1) (ci := 7) (fs := fcF bF qF0 (bS 0) (bH 0 0) qF3 qF4 vF) (v := .ref (bS 0)) (C := RX7) (T := TX7) (N := 12) hx hb htu hinX7 hown hK hP 0 rfl rfl 1 (by decide) k_2_19 (fun _ h9 => h9) rfl dX7_addTest_62 ?_
            obtain ⟨vH_12, hg13, hf⟩ := o1_at hf
            refine k_vvQ ⟨hx, hb, hml, hown, htu⟩ hK hP hD hS hA hG (c_X1_push l g bS bC vC bT vT bH vH vH_12 hg13) (cwV 1 htu (gU_V mw_2_215 hcX1_push) rfl rfl rfl hdX1_push ⟨Nat.le_of_ble_eq_true rfl, Nat.le_of_ble_eq_true rfl⟩) (q0 := 23) (ci := 1) (fs := fcH bH vH) (q := (RX1, TX1, 3)) rfl rfl rfl (wr := (cF g bF qF0 (bS 0) (bH 0 0) qF3 qF4 vF)) (w2 := cF g bF qF0 (bS 0) (bH 0 0) qF3 qF4 vF ++ (cS g bS (bC 0) (bT 0) ++ (cC g bC vC ++ (cT g bT vT ++ (cH g bH vH_12))))) (kpc (fun P => by simp only [List.countP_append] <;> omega)) (kpc (fun P => by simp only [List.countP_append] <;> omega)) (As := [.ref (bS 0)]) (rest := []) rfl rfl hl.1 (Nat.le_of_ble_eq_true rfl) dX7_addTest_65 (k1 := 0) (n1 := 0) rfl rfl ⟨Nat.zero_le _, Nat.zero_le _⟩ (fun H locs hP hD hS => ?_)
            refine lv_aload_n hx hb dX7_addTest_68 rfl (lv_at hl 0 rfl) ?_
            refine va_get (D := g.1) (ci := 7) (fs := fcF bF qF0 (bS 0) (bH 0 0) qF3 qF4 vF) (v := .ref (bS 0)) (C := RX7) (T := TX7) (N := 12) hx hb htu hinX7 hown hK hP 0 rfl rfl 1 (by decide) k_2_19 (fun _ h9 => h9) rfl dX7_addTest_69 ?_
            refine va_get (D := g.1) (ci := 4) (fs := fcS bS (bC 0) (bT 0)) (v := .ref (bT 0)) (C := RX4) (T := TX4) (N := 2) hx hb htu hinX4 hown hK hP 6 rfl rfl 1 (by decide) k_1_153 (fun _ h9 => h9) rfl dX7_addTest_72 ?_
            refine lv_iload_n hx hb dX7_addTest_75 rfl (lv_at hl 1 rfl) ?_
            refine lv_iload_n hx hb dX7_addTest_76 rfl (lv_at hl 2 rfl) ?_
            obtain ⟨vT_14, hg15, hf⟩ := o1_at hf
            refine k_vvQ ⟨hx, hb, hml, hown, htu⟩ hK hP hD hS hA hG (c_X6_put l g bT vT x1 x2 vT_14 hg15) (cwV 2 htu (gU_V mw_3_22 hcX6_put) rfl rfl rfl hdX6_put ⟨Nat.le_of_ble_eq_true rfl, Nat.le_of_ble_eq_true rfl⟩) (q0 := 18) (ci := 6) (fs := fcT bT vT) (q := (RX6, TX6, 5)) rfl rfl rfl (wr := (cF g bF qF0 (bS 0) (bH 0 0) qF3 qF4 vF ++ (cS g bS (bC 0) (bT 0) ++ (cC g bC vC ++ (cH g bH vH_12))))) (w2 := cF g bF qF0 (bS 0) (bH 0 0) qF3 qF4 vF ++ (cS g bS (bC 0) (bT 0) ++ (cC g bC vC ++ (cT g bT vT_14 ++ (cH g bH vH_12))))) (kpc (fun P => by simp only [List.countP_append] <;> omega)) (kpc (fun P => by simp only [List.countP_append] <;> omega)) (As := [.int x1, .int x2]) (rest := []) rfl rfl hl.1 (Nat.le_of_ble_eq_true rfl) dX7_addTest_77 (k1 := 0) (n1 := 0) rfl rfl ⟨Nat.zero_le _, Nat.zero_le _⟩ (fun H locs hP hD hS => ?_)
            refine lv_aload_n hx hb dX7_addTest_80 rfl (lv_at hl 0 rfl) ?_
            refine lv_iconst (v := (0 : Int32)) hx hb dX7_addTest_81 (by decide) ?_
            refine va_put (D := g.1) (ci := 7) (fs := fcF bF qF0 (bS 0) (bH 0 0) qF3 qF4 vF) (v := .int (0 : Int32)) (ty := .boolean) (C := RX7) (T := TX7) (N := 12) hx hb htu hinX7 tyX7 tyX7_ok nmX7 hown hK hP hD hS 0 rfl rfl 6 (by decide) k_2_24 (fun _ h9 => h9) rfl (by decide +kernel) rfl rfl (Nat.le_of_ble_eq_true rfl) dX7_addTest_82 (fun H locs hP hD hS => ?_)
            obtain ⟨vF_16, evF_16⟩ : ∃ z, z = sF vF 6 (0 : Int32) := ⟨_, rfl⟩
            have hf := bn_at hf evF_16
            have hP : va_P g.1 vwCl (cF g bF qF0 (bS 0) (bH 0 0) qF3 qF4 vF_16 ++ (cS g bS (bC 0) (bT 0) ++ (cC g bC vC ++ (cT g bT vT_14 ++ (cH g bH vH_12))))) H := by rw [evF_16]; exact hP
            have hD : va_D A (cF g bF qF0 (bS 0) (bH 0 0) qF3 qF4 vF_16 ++ (cS g bS (bC 0) (bT 0) ++ (cC g bC vC ++ (cT g bT vT_14 ++ (cH g bH vH_12))))) := by rw [evF_16]; exact hD
            refine lv_aload_n hx hb dX7_addTest_85 rfl (lv_at hl 0 rfl) ?_
            refine va_get (D := g.1) (ci := 7) (fs := fcF bF qF0 (bS 0) (bH 0 0) qF3 qF4 vF_16) (v := .ref (bS 0)) (C := RX7) (T := TX7) (N := 12) hx hb htu hinX7 hown hK hP 0 rfl rfl 1 (by decide) k_2_19 (fun _ h9 => h9) rfl dX7_addTest_86 ?_
            refine va_get (D := g.1) (ci := 4) (fs := fcS bS (bC 0) (bT 0)) (v := .ref (bT 0)) (C := RX4) (T := TX4) (N := 2) hx hb htu hinX4 hown hK hP 6 rfl rfl 1 (by decide) k_1_153 (fun _ h9 => h9) rfl dX7_addTest_89 ?_
            refine va_get (D := g.1) (ci := 6) (fs := fcT bT vT_14) (v := .int (vT_14.1 0)) (C := RX6) (T := TX6) (N := 5) hx hb htu hinX6 hown hK hP 18 rfl rfl 0 (by decide) k_1_129 (fun _ h9 => h9) rfl dX7_addTest_92 ?_
            refine lv_iconst (v := (1 : Int32)) hx hb dX7_addTest_95 (by decide) ?_
            refine lv_isub hx hb dX7_addTest_96 ?_
            exact absurd (kp_5 hf).1.symm hek
          · have hf := it_f hf c11
            obtain ⟨rfl, rfl, rfl, rfl, rfl⟩ := kp_5 hf
            exact vx_throwS (own := RX7) (cls := "java/lang/IllegalStateException") (text := "16 tests") (names := ["java/lang/RuntimeException", "java/lang/Exception"]) (ic := 247) (sa := adK g 0) (A := A) hx hb hst hown (by decide +kernel) (by decide +kernel) k_5_4 k_1_24 (hG.1.1 ("FaultTests", 245, "16 tests", 0) (List.mem_of_getElem? (i := 4) rfl)) (fun w h => (xw_247 w h).elim (htu w) (hG.1.bad w)) xo_247 hG.2.1.1 hG.2.1.2 hS (hl.1.trans hml.symm) dX7_addTest_47 dX7_addTest_50 dX7_addTest_51 dX7_addTest_53 dX7_addTest_56 (fun z hz => (hT z hz).elim) (Nat.le_of_ble_eq_true rfl) (Nat.le_of_ble_eq_true rfl) (Nat.le_refl _) (Nat.le_refl _) hlocks (fun t hv hz hq => ⟨(), trivial, ⟨rfl, hP.kept (fun k q h9 => hq q.1 (k_lt hP h9)), va_K.moved hv hK, hD⟩, ⟨Nat.le_trans hS.1 hz, fun q h1 h2 => (hq q (Nat.lt_of_lt_of_le h1 hS.1)).trans (hS.2.1 q h1 h2)⟩⟩) hS.2.2 (Nat.le_refl _) (Nat.le_refl _)
        · have hf := it_f hf c10
          exact hJ4 hf H locs hP hD hS _ (lv_sub hl [] rfl)
  rw [hH, hlo] at hW
  exact hW
def f_X7_removeTest (vF : Vs) (vC : Vs) (vT : Vs) (vH : Hv) (x1 : Int32) : Option (Nat × Int32 × Vs × Vs × Hv) :=
  o1 (f_X7_checkTest vF vT x1) (fun (c1 : Nat) => if c1 = 0 then (o1 (f_X1_push vC vT vH) (fun (vH_3 : Hv) => o1 (f_X6_drop vT x1) (fun (vT_5 : Vs) => bn (sF vF 6 (0 : Int32)) (fun (vF_7 : Vs) => some (0, (vT_5.1 0), vF_7, vT_5, vH_3))))) else some (c1, (0 : Int32), vF, vT, vH))
abbrev wsX7_removeTest : List Cond := .code yX7_removeTest cX7_removeTest 2 (some .int) :: UW
abbrev rmX7_removeTest : Room := { frames := 4, cells := 0, slots := 0, locals := 123 }
set_option maxHeartbeats 4000000 in
set_option maxRecDepth 100000 in
theorem c_X7_removeTest (l : Launch) (g : Gx) (bF : Nat → Nat) (qF0 : Nat) (qF3 : Nat) (qF4 : Nat) (vF : Vs) (bS : Nat → Nat) (bC : Nat → Nat) (vC : Vs) (bT : Nat → Nat) (vT : Vs) (bH : Nat → Nat → Nat) (vH : Hv) (x1 : Int32) (r : Int32) (vF1 : Vs) (vT1 : Vs) (vH1 : Hv) (hf : f_X7_removeTest vF vC vT vH x1 = some (0, r, vF1, vT1, vH1)) : CtI l yX7_removeTest wsX7_removeTest rmX7_removeTest g [.ref (bF 0), .int x1] (cF g bF qF0 (bS 0) (bH 0 0) qF3 qF4 vF ++ (cS g bS (bC 0) (bT 0) ++ (cC g bC vC ++ (cT g bT vT ++ (cH g bH vH))))) (cF g bF qF0 (bS 0) (bH 0 0) qF3 qF4 vF1 ++ (cS g bS (bC 0) (bT 0) ++ (cC g bC vC ++ (cT g bT vT1 ++ (cH g bH vH1))))) r 0 0 := by
  unfold CtI
  intro sz
  refine Met.ofW (cc := cX7_removeTest) (maxL := 2) (ret := (some .int)) (by decide) rfl ?_
  intro p e s m args below meth c s₁ B hml hv
  obtain ⟨rfl, hsz, hP, hK, hD0, hG⟩ := hv
  have hx := B.exec
  have hb := B.bytes
  have hr := B.returns
  have hts := atoms_spec (ws := wsX7_removeTest) B.pre
  have hown : s.vm.findClass RX7 = some m.cls := findClass_of_methodNamed B.named
  have hlocks := B.notSynchronized
  subst hsz
  have hD := hD0.self (sz := s.heap.size)
  generalize hAe : va_A (cF g bF qF0 (bS 0) (bH 0 0) qF3 qF4 vF ++ (cS g bS (bC 0) (bT 0) ++ (cC g bC vC ++ (cT g bT vT ++ (cH g bH vH))))) s.heap.size = A at hD hG ⊢
  have hA : ∀ q : Nat, s.heap.size ≤ q → A q := fun q h => by rw [← hAe]; exact Or.inr h
  clear hAe hD0
  have hS : va_S A s.heap s.heap [] := va_S.rf
  have hl := lv_entry ([.ref (bF 0), .int x1]) (n := 2) (Nat.le_of_ble_eq_true rfl)
  rw [lg_entry_eq]
  generalize (lg_sl ([.ref (bF 0), .int x1]) ++ List.replicate (2 - (lg_sl ([.ref (bF 0), .int x1])).length) Slot.unset).toArray = ls at hl ⊢
  have hl : lv_has ls 2 [(0, .ref (bF 0)), (1, .int x1)] := hl
  have htu : ∀ w ∈ UW, w.before _ s = true := fun w h => hts w (List.mem_cons_of_mem _ h)
  have k_2_20 := htu _ mw_2_20
  have k_2_19 := htu _ mw_2_19
  have k_1_153 := htu _ mw_1_153
  have k_2_24 := htu _ mw_2_24
  have k_1_129 := htu _ mw_1_129
  unfold f_X7_removeTest at hf
  obtain ⟨H, hH⟩ : ∃ z, z = s.heap := ⟨_, rfl⟩
  obtain ⟨locs, hlo⟩ : ∃ z : List Loc, z = [] := ⟨_, rfl⟩
  have hS : va_S A s.heap H locs := by rw [hH, hlo]; exact hS
  rw [← hH] at hP
  have hW : W p l e (headSpec wsX7_removeTest rmX7_removeTest).room s m ([.ref (bF 0), .int x1] : List Value).toArray below meth c H locs 0 0 (MQ below (qI g A (cF g bF qF0 (bS 0) (bH 0 0) qF3 qF4 vF1 ++ (cS g bS (bC 0) (bT 0) ++ (cC g bC vC ++ (cT g bT vT1 ++ (cH g bH vH1))))) r) ([.ref (bF 0), .int x1] : List Value).toArray s 0 0 A) (F0 m 0 ls []) := by
    refine lv_aload_n hx hb dX7_removeTest_0 rfl (lv_at hl 0 rfl) ?_
    refine lv_iload_n hx hb dX7_removeTest_1 rfl (lv_at hl 1 rfl) ?_
    obtain ⟨c1, hg2, hf⟩ := o1_at hf
    have hc1 : c1 = 0 := Classical.byContradiction (fun h9 => h9 (kp_5 (it_f hf h9)).1)
    have hf := it_t hf hc1
    rw [hc1] at hg2
    refine k_vvQ ⟨hx, hb, hml, hown, htu⟩ hK hP hD hS hA hG (c_X7_checkTest l g bF qF0 (bH 0 0) qF3 qF4 vF bS (bC 0) bT vT x1 hg2) (cwV 1 htu (gU_V mw_4_157 hcX7_checkTest) rfl rfl rfl hdX7_checkTest ⟨Nat.le_of_ble_eq_true rfl, Nat.le_of_ble_eq_true rfl⟩) (q0 := 0) (ci := 7) (fs := fcF bF qF0 (bS 0) (bH 0 0) qF3 qF4 vF) (q := (RX7, TX7, 12)) rfl rfl rfl (wr := (cC g bC vC ++ (cH g bH vH))) (w2 := cF g bF qF0 (bS 0) (bH 0 0) qF3 qF4 vF ++ (cS g bS (bC 0) (bT 0) ++ (cC g bC vC ++ (cT g bT vT ++ (cH g bH vH))))) (kpc (fun P => by simp only [List.countP_append] <;> omega)) (kpc (fun P => by simp only [List.countP_append] <;> omega)) (As := [.int x1]) (rest := []) rfl rfl hl.1 (Nat.le_of_ble_eq_true rfl) dX7_removeTest_2 (k1 := 0) (n1 := 0) rfl rfl ⟨Nat.zero_le _, Nat.zero_le _⟩ (fun H locs hP hD hS => ?_)
    refine lv_aload_n hx hb dX7_removeTest_5 rfl (lv_at hl 0 rfl) ?_
    refine va_get (D := g.1) (ci := 7) (fs := fcF bF qF0 (bS 0) (bH 0 0) qF3 qF4 vF) (v := .ref (bH 0 0)) (C := RX7) (T := TX7) (N := 12) hx hb htu hinX7 hown hK hP 0 rfl rfl 2 (by decide) k_2_20 (fun _ h9 => h9) rfl dX7_removeTest_6 ?_
    refine lv_aload_n hx hb dX7_removeTest_9 rfl (lv_at hl 0 rfl) ?_
    refine va_get (D := g.1) (ci := 7) (fs := fcF bF qF0 (bS 0) (bH 0 0) qF3 qF4 vF) (v := .ref (bS 0)) (C := RX7) (T := TX7) (N := 12) hx hb htu hinX7 hown hK hP 0 rfl rfl 1 (by decide) k_2_19 (fun _ h9 => h9) rfl dX7_removeTest_10 ?_
    obtain ⟨vH_3, hg4, hf⟩ := o1_at hf
    refine k_vvQ ⟨hx, hb, hml, hown, htu⟩ hK hP hD hS hA hG (c_X1_push l g bS bC vC bT vT bH vH vH_3 hg4) (cwV 1 htu (gU_V mw_2_215 hcX1_push) rfl rfl rfl hdX1_push ⟨Nat.le_of_ble_eq_true rfl, Nat.le_of_ble_eq_true rfl⟩) (q0 := 23) (ci := 1) (fs := fcH bH vH) (q := (RX1, TX1, 3)) rfl rfl rfl (wr := (cF g bF qF0 (bS 0) (bH 0 0) qF3 qF4 vF)) (w2 := cF g bF qF0 (bS 0) (bH 0 0) qF3 qF4 vF ++ (cS g bS (bC 0) (bT 0) ++ (cC g bC vC ++ (cT g bT vT ++ (cH g bH vH_3))))) (kpc (fun P => by simp only [List.countP_append] <;> omega)) (kpc (fun P => by simp only [List.countP_append] <;> omega)) (As := [.ref (bS 0)]) (rest := []) rfl rfl hl.1 (Nat.le_of_ble_eq_true rfl) dX7_removeTest_13 (k1 := 0) (n1 := 0) rfl rfl ⟨Nat.zero_le _, Nat.zero_le _⟩ (fun H locs hP hD hS => ?_)
    refine lv_aload_n hx hb dX7_removeTest_16 rfl (lv_at hl 0 rfl) ?_
    refine va_get (D := g.1) (ci := 7) (fs := fcF bF qF0 (bS 0) (bH 0 0) qF3 qF4 vF) (v := .ref (bS 0)) (C := RX7) (T := TX7) (N := 12) hx hb htu hinX7 hown hK hP 0 rfl rfl 1 (by decide) k_2_19 (fun _ h9 => h9) rfl dX7_removeTest_17 ?_
    refine va_get (D := g.1) (ci := 4) (fs := fcS bS (bC 0) (bT 0)) (v := .ref (bT 0)) (C := RX4) (T := TX4) (N := 2) hx hb htu hinX4 hown hK hP 6 rfl rfl 1 (by decide) k_1_153 (fun _ h9 => h9) rfl dX7_removeTest_20 ?_
    refine lv_iload_n hx hb dX7_removeTest_23 rfl (lv_at hl 1 rfl) ?_
    obtain ⟨vT_5, hg6, hf⟩ := o1_at hf
    refine k_vvQ ⟨hx, hb, hml, hown, htu⟩ hK hP hD hS hA hG (c_X6_drop l g bT vT x1 vT_5 hg6) (cwV 1 htu (gU_V mw_5_27 hcX6_drop) rfl rfl rfl hdX6_drop ⟨Nat.le_of_ble_eq_true rfl, Nat.le_of_ble_eq_true rfl⟩) (q0 := 18) (ci := 6) (fs := fcT bT vT) (q := (RX6, TX6, 5)) rfl rfl rfl (wr := (cF g bF qF0 (bS 0) (bH 0 0) qF3 qF4 vF ++ (cS g bS (bC 0) (bT 0) ++ (cC g bC vC ++ (cH g bH vH_3))))) (w2 := cF g bF qF0 (bS 0) (bH 0 0) qF3 qF4 vF ++ (cS g bS (bC 0) (bT 0) ++ (cC g bC vC ++ (cT g bT vT_5 ++ (cH g bH vH_3))))) (kpc (fun P => by simp only [List.countP_append] <;> omega)) (kpc (fun P => by simp only [List.countP_append] <;> omega)) (As := [.int x1]) (rest := []) rfl rfl hl.1 (Nat.le_of_ble_eq_true rfl) dX7_removeTest_24 (k1 := 0) (n1 := 0) rfl rfl ⟨Nat.zero_le _, Nat.zero_le _⟩ (fun H locs hP hD hS => ?_)
    refine lv_aload_n hx hb dX7_removeTest_27 rfl (lv_at hl 0 rfl) ?_
    refine lv_iconst (v := (0 : Int32)) hx hb dX7_removeTest_28 (by decide) ?_
    refine va_put (D := g.1) (ci := 7) (fs := fcF bF qF0 (bS 0) (bH 0 0) qF3 qF4 vF) (v := .int (0 : Int32)) (ty := .boolean) (C := RX7) (T := TX7) (N := 12) hx hb htu hinX7 tyX7 tyX7_ok nmX7 hown hK hP hD hS 0 rfl rfl 6 (by decide) k_2_24 (fun _ h9 => h9) rfl (by decide +kernel) rfl rfl (Nat.le_of_ble_eq_true rfl) dX7_removeTest_29 (fun H locs hP hD hS => ?_)
    obtain ⟨vF_7, evF_7⟩ : ∃ z, z = sF vF 6 (0 : Int32) := ⟨_, rfl⟩
    have hf := bn_at hf evF_7
    have hP : va_P g.1 vwCl (cF g bF qF0 (bS 0) (bH 0 0) qF3 qF4 vF_7 ++ (cS g bS (bC 0) (bT 0) ++ (cC g bC vC ++ (cT g bT vT_5 ++ (cH g bH vH_3))))) H := by rw [evF_7]; exact hP
    have hD : va_D A (cF g bF qF0 (bS 0) (bH 0 0) qF3 qF4 vF_7 ++ (cS g bS (bC 0) (bT 0) ++ (cC g bC vC ++ (cT g bT vT_5 ++ (cH g bH vH_3))))) := by rw [evF_7]; exact hD
    refine lv_aload_n hx hb dX7_removeTest_32 rfl (lv_at hl 0 rfl) ?_
    refine va_get (D := g.1) (ci := 7) (fs := fcF bF qF0 (bS 0) (bH 0 0) qF3 qF4 vF_7) (v := .ref (bS 0)) (C := RX7) (T := TX7) (N := 12) hx hb htu hinX7 hown hK hP 0 rfl rfl 1 (by decide) k_2_19 (fun _ h9 => h9) rfl dX7_removeTest_33 ?_
    refine va_get (D := g.1) (ci := 4) (fs := fcS bS (bC 0) (bT 0)) (v := .ref (bT 0)) (C := RX4) (T := TX4) (N := 2) hx hb htu hinX4 hown hK hP 6 rfl rfl 1 (by decide) k_1_153 (fun _ h9 => h9) rfl dX7_removeTest_36 ?_
    refine va_get (D := g.1) (ci := 6) (fs := fcT bT vT_5) (v := .int (vT_5.1 0)) (C := RX6) (T := TX6) (N := 5) hx hb htu hinX6 hown hK hP 18 rfl rfl 0 (by decide) k_1_129 (fun _ h9 => h9) rfl dX7_removeTest_39 ?_
    obtain ⟨e8, e9, e10, e11, e12⟩ := kp_5 hf
    rw [e10] at hP hD
    rw [e11] at hP hD
    rw [e12] at hP hD
    exact k_iret hx hb hr hlocks hK hP hD hS e9 dX7_removeTest_42
  rw [hH, hlo] at hW
  exact hW
abbrev rtX7_removeTest : Room := { frames := 9, cells := 1, slots := 6, locals := 141 }
set_option maxHeartbeats 4000000 in
set_option maxRecDepth 100000 in
theorem t_X7_removeTest (l : Launch) (hst : l.stackTraces = false) (g : Gx) (bF : Nat → Nat) (qF0 : Nat) (qF3 : Nat) (qF4 : Nat) (vF : Vs) (bS : Nat → Nat) (bC : Nat → Nat) (vC : Vs) (bT : Nat → Nat) (vT : Vs) (bH : Nat → Nat → Nat) (vH : Hv) (x1 : Int32) (r : Int32) (vF1 : Vs) (vT1 : Vs) (vH1 : Hv) (ek : Nat) (hf : f_X7_removeTest vF vC vT vH x1 = some (ek, r, vF1, vT1, vH1)) (hek : ¬ ek = 0) : CtXI l yX7_removeTest wsX7_removeTest rtX7_removeTest g [.ref (bF 0), .int x1] (cF g bF qF0 (bS 0) (bH 0 0) qF3 qF4 vF ++ (cS g bS (bC 0) (bT 0) ++ (cC g bC vC ++ (cT g bT vT ++ (cH g bH vH))))) (cF g bF qF0 (bS 0) (bH 0 0) qF3 qF4 vF1 ++ (cS g bS (bC 0) (bT 0) ++ (cC g bC vC ++ (cT g bT vT1 ++ (cH g bH vH1))))) (exN ek) 1 6 := by
  unfold CtXI
  intro sz
  refine vx_ofW (cc := cX7_removeTest) (maxL := 2) (ret := (some .int)) (by decide) rfl ?_
  intro p e s m args below meth c s₁ B hml hT hv
  obtain ⟨rfl, hsz, hP, hK, hD0, hG⟩ := hv
  have hx := B.exec
  have hb := B.bytes
  have hr := B.returns
  have hts := atoms_spec (ws := wsX7_removeTest) B.pre
  have hown : s.vm.findClass RX7 = some m.cls := findClass_of_methodNamed B.named
  have hlocks := B.notSynchronized
  subst hsz
  have hD := hD0.self (sz := s.heap.size)
  generalize hAe : va_A (cF g bF qF0 (bS 0) (bH 0 0) qF3 qF4 vF ++ (cS g bS (bC 0) (bT 0) ++ (cC g bC vC ++ (cT g bT vT ++ (cH g bH vH))))) s.heap.size = A at hD hG ⊢
  have hA : ∀ q : Nat, s.heap.size ≤ q → A q := fun q h => by rw [← hAe]; exact Or.inr h
  clear hAe hD0
  have hS : va_S A s.heap s.heap [] := va_S.rf
  have hl := lv_entry ([.ref (bF 0), .int x1]) (n := 2) (Nat.le_of_ble_eq_true rfl)
  rw [lg_entry_eq]
  generalize (lg_sl ([.ref (bF 0), .int x1]) ++ List.replicate (2 - (lg_sl ([.ref (bF 0), .int x1])).length) Slot.unset).toArray = ls at hl ⊢
  have hl : lv_has ls 2 [(0, .ref (bF 0)), (1, .int x1)] := hl
  have htu : ∀ w ∈ UW, w.before _ s = true := fun w h => hts w (List.mem_cons_of_mem _ h)
  have k_2_20 := htu _ mw_2_20
  have k_2_19 := htu _ mw_2_19
  have k_1_153 := htu _ mw_1_153
  have k_2_24 := htu _ mw_2_24
  have k_1_129 := htu _ mw_1_129
  unfold f_X7_removeTest at hf
  obtain ⟨H, hH⟩ : ∃ z, z = s.heap := ⟨_, rfl⟩
  obtain ⟨locs, hlo⟩ : ∃ z : List Loc, z = [] := ⟨_, rfl⟩
  have hS : va_S A s.heap H locs := by rw [hH, hlo]; exact hS
  rw [← hH] at hP
  have hW : W p l e (headSpec wsX7_removeTest rtX7_removeTest).room s m ([.ref (bF 0), .int x1] : List Value).toArray below meth c H locs 0 0 (vx_MQ below (nI0 A) (xE g A (cF g bF qF0 (bS 0) (bH 0 0) qF3 qF4 vF1 ++ (cS g bS (bC 0) (bT 0) ++ (cC g bC vC ++ (cT g bT vT1 ++ (cH g bH vH1))))) (exN ek)) ([.ref (bF 0), .int x1] : List Value).toArray s 1 6 A) (F0 m 0 ls []) := by
    refine lv_aload_n hx hb dX7_removeTest_0 rfl (lv_at hl 0 rfl) ?_
    refine lv_iload_n hx hb dX7_removeTest_1 rfl (lv_at hl 1 rfl) ?_
    obtain ⟨c1, hg2, hf⟩ := o1_at hf
    rcases Classical.em (¬ c1 = 0) with hc1 | hc1
    · have hf := it_f hf hc1
      obtain ⟨rfl, rfl, rfl, rfl, rfl⟩ := kp_5 hf
      exact kx_vvQ ⟨hx, hb, hml, hown, htu⟩ hK hP hD hS hA hG (t_X7_checkTest l hst g bF qF0 (bH 0 0) qF3 qF4 vF bS (bC 0) bT vT x1 c1 hg2 hc1) (cwV 1 htu (gU_V mw_4_157 hcX7_checkTest) rfl rfl rfl hdX7_checkTest ⟨Nat.le_of_ble_eq_true rfl, Nat.le_of_ble_eq_true rfl⟩) (q0 := 0) (ci := 7) (fs := fcF bF qF0 (bS 0) (bH 0 0) qF3 qF4 vF) (q := (RX7, TX7, 12)) rfl rfl rfl (wr := (cC g bC vC ++ (cH g bH vH))) (w2 := cF g bF qF0 (bS 0) (bH 0 0) qF3 qF4 vF ++ (cS g bS (bC 0) (bT 0) ++ (cC g bC vC ++ (cT g bT vT ++ (cH g bH vH))))) (kpc (fun P => by simp only [List.countP_append] <;> omega)) (kpc (fun P => by simp only [List.countP_append] <;> omega)) (As := [.int x1]) (rest := []) rfl rfl hl.1 (Nat.le_of_ble_eq_true rfl) dX7_removeTest_2 ⟨Nat.le_refl _, Nat.le_refl _⟩ ⟨Nat.le_refl _, Nat.le_refl _⟩ hT hlocks
    have hc1 := Classical.not_not.mp hc1
    have hf := it_t hf hc1
    rw [hc1] at hg2
    refine k_vvQ ⟨hx, hb, hml, hown, htu⟩ hK hP hD hS hA hG (c_X7_checkTest l g bF qF0 (bH 0 0) qF3 qF4 vF bS (bC 0) bT vT x1 hg2) (cwV 1 htu (gU_V mw_4_157 hcX7_checkTest) rfl rfl rfl hdX7_checkTest ⟨Nat.le_of_ble_eq_true rfl, Nat.le_of_ble_eq_true rfl⟩) (q0 := 0) (ci := 7) (fs := fcF bF qF0 (bS 0) (bH 0 0) qF3 qF4 vF) (q := (RX7, TX7, 12)) rfl rfl rfl (wr := (cC g bC vC ++ (cH g bH vH))) (w2 := cF g bF qF0 (bS 0) (bH 0 0) qF3 qF4 vF ++ (cS g bS (bC 0) (bT 0) ++ (cC g bC vC ++ (cT g bT vT ++ (cH g bH vH))))) (kpc (fun P => by simp only [List.countP_append] <;> omega)) (kpc (fun P => by simp only [List.countP_append] <;> omega)) (As := [.int x1]) (rest := []) rfl rfl hl.1 (Nat.le_of_ble_eq_true rfl) dX7_removeTest_2 (k1 := 0) (n1 := 0) rfl rfl ⟨Nat.zero_le _, Nat.zero_le _⟩ (fun H locs hP hD hS => ?_)
    refine lv_aload_n hx hb dX7_removeTest_5 rfl (lv_at hl 0 rfl) ?_
    refine va_get (D := g.1) (ci := 7) (fs := fcF bF qF0 (bS 0) (bH 0 0) qF3 qF4 vF) (v := .ref (bH 0 0)) (C := RX7) (T := TX7) (N := 12) hx hb htu hinX7 hown hK hP 0 rfl rfl 2 (by decide) k_2_20 (fun _ h9 => h9) rfl dX7_removeTest_6 ?_
    refine lv_aload_n hx hb dX7_removeTest_9 rfl (lv_at hl 0 rfl) ?_
    refine va_get (D := g.1) (ci := 7) (fs := fcF bF qF0 (bS 0) (bH 0 0) qF3 qF4 vF) (v := .ref (bS 0)) (C := RX7) (T := TX7) (N := 12) hx hb htu hinX7 hown hK hP 0 rfl rfl 1 (by decide) k_2_19 (fun _ h9 => h9) rfl dX7_removeTest_10 ?_
    obtain ⟨vH_3, hg4, hf⟩ := o1_at hf
    refine k_vvQ ⟨hx, hb, hml, hown, htu⟩ hK hP hD hS hA hG (c_X1_push l g bS bC vC bT vT bH vH vH_3 hg4) (cwV 1 htu (gU_V mw_2_215 hcX1_push) rfl rfl rfl hdX1_push ⟨Nat.le_of_ble_eq_true rfl, Nat.le_of_ble_eq_true rfl⟩) (q0 := 23) (ci := 1) (fs := fcH bH vH) (q := (RX1, TX1, 3)) rfl rfl rfl (wr := (cF g bF qF0 (bS 0) (bH 0 0) qF3 qF4 vF)) (w2 := cF g bF qF0 (bS 0) (bH 0 0) qF3 qF4 vF ++ (cS g bS (bC 0) (bT 0) ++ (cC g bC vC ++ (cT g bT vT ++ (cH g bH vH_3))))) (kpc (fun P => by simp only [List.countP_append] <;> omega)) (kpc (fun P => by simp only [List.countP_append] <;> omega)) (As := [.ref (bS 0)]) (rest := []) rfl rfl hl.1 (Nat.le_of_ble_eq_true rfl) dX7_removeTest_13 (k1 := 0) (n1 := 0) rfl rfl ⟨Nat.zero_le _, Nat.zero_le _⟩ (fun H locs hP hD hS => ?_)
    refine lv_aload_n hx hb dX7_removeTest_16 rfl (lv_at hl 0 rfl) ?_
    refine va_get (D := g.1) (ci := 7) (fs := fcF bF qF0 (bS 0) (bH 0 0) qF3 qF4 vF) (v := .ref (bS 0)) (C := RX7) (T := TX7) (N := 12) hx hb htu hinX7 hown hK hP 0 rfl rfl 1 (by decide) k_2_19 (fun _ h9 => h9) rfl dX7_removeTest_17 ?_
    refine va_get (D := g.1) (ci := 4) (fs := fcS bS (bC 0) (bT 0)) (v := .ref (bT 0)) (C := RX4) (T := TX4) (N := 2) hx hb htu hinX4 hown hK hP 6 rfl rfl 1 (by decide) k_1_153 (fun _ h9 => h9) rfl dX7_removeTest_20 ?_
    refine lv_iload_n hx hb dX7_removeTest_23 rfl (lv_at hl 1 rfl) ?_
    obtain ⟨vT_5, hg6, hf⟩ := o1_at hf
    refine k_vvQ ⟨hx, hb, hml, hown, htu⟩ hK hP hD hS hA hG (c_X6_drop l g bT vT x1 vT_5 hg6) (cwV 1 htu (gU_V mw_5_27 hcX6_drop) rfl rfl rfl hdX6_drop ⟨Nat.le_of_ble_eq_true rfl, Nat.le_of_ble_eq_true rfl⟩) (q0 := 18) (ci := 6) (fs := fcT bT vT) (q := (RX6, TX6, 5)) rfl rfl rfl (wr := (cF g bF qF0 (bS 0) (bH 0 0) qF3 qF4 vF ++ (cS g bS (bC 0) (bT 0) ++ (cC g bC vC ++ (cH g bH vH_3))))) (w2 := cF g bF qF0 (bS 0) (bH 0 0) qF3 qF4 vF ++ (cS g bS (bC 0) (bT 0) ++ (cC g bC vC ++ (cT g bT vT_5 ++ (cH g bH vH_3))))) (kpc (fun P => by simp only [List.countP_append] <;> omega)) (kpc (fun P => by simp only [List.countP_append] <;> omega)) (As := [.int x1]) (rest := []) rfl rfl hl.1 (Nat.le_of_ble_eq_true rfl) dX7_removeTest_24 (k1 := 0) (n1 := 0) rfl rfl ⟨Nat.zero_le _, Nat.zero_le _⟩ (fun H locs hP hD hS => ?_)
    refine lv_aload_n hx hb dX7_removeTest_27 rfl (lv_at hl 0 rfl) ?_
    refine lv_iconst (v := (0 : Int32)) hx hb dX7_removeTest_28 (by decide) ?_
    refine va_put (D := g.1) (ci := 7) (fs := fcF bF qF0 (bS 0) (bH 0 0) qF3 qF4 vF) (v := .int (0 : Int32)) (ty := .boolean) (C := RX7) (T := TX7) (N := 12) hx hb htu hinX7 tyX7 tyX7_ok nmX7 hown hK hP hD hS 0 rfl rfl 6 (by decide) k_2_24 (fun _ h9 => h9) rfl (by decide +kernel) rfl rfl (Nat.le_of_ble_eq_true rfl) dX7_removeTest_29 (fun H locs hP hD hS => ?_)
    obtain ⟨vF_7, evF_7⟩ : ∃ z, z = sF vF 6 (0 : Int32) := ⟨_, rfl⟩
    have hf := bn_at hf evF_7
    have hP : va_P g.1 vwCl (cF g bF qF0 (bS 0) (bH 0 0) qF3 qF4 vF_7 ++ (cS g bS (bC 0) (bT 0) ++ (cC g bC vC ++ (cT g bT vT_5 ++ (cH g bH vH_3))))) H := by rw [evF_7]; exact hP
    have hD : va_D A (cF g bF qF0 (bS 0) (bH 0 0) qF3 qF4 vF_7 ++ (cS g bS (bC 0) (bT 0) ++ (cC g bC vC ++ (cT g bT vT_5 ++ (cH g bH vH_3))))) := by rw [evF_7]; exact hD
    refine lv_aload_n hx hb dX7_removeTest_32 rfl (lv_at hl 0 rfl) ?_
    refine va_get (D := g.1) (ci := 7) (fs := fcF bF qF0 (bS 0) (bH 0 0) qF3 qF4 vF_7) (v := .ref (bS 0)) (C := RX7) (T := TX7) (N := 12) hx hb htu hinX7 hown hK hP 0 rfl rfl 1 (by decide) k_2_19 (fun _ h9 => h9) rfl dX7_removeTest_33 ?_
    refine va_get (D := g.1) (ci := 4) (fs := fcS bS (bC 0) (bT 0)) (v := .ref (bT 0)) (C := RX4) (T := TX4) (N := 2) hx hb htu hinX4 hown hK hP 6 rfl rfl 1 (by decide) k_1_153 (fun _ h9 => h9) rfl dX7_removeTest_36 ?_
    refine va_get (D := g.1) (ci := 6) (fs := fcT bT vT_5) (v := .int (vT_5.1 0)) (C := RX6) (T := TX6) (N := 5) hx hb htu hinX6 hown hK hP 18 rfl rfl 0 (by decide) k_1_129 (fun _ h9 => h9) rfl dX7_removeTest_39 ?_
    exact absurd (kp_5 hf).1.symm hek
  rw [hH, hlo] at hW
  exact hW
def f_X7_setKind (vF : Vs) (vC : Vs) (vT : Vs) (vH : Hv) (x1 : Int32) (x2 : Int32) : Option (Nat × Int32 × Vs × Vs × Hv) :=
  o1 (f_X7_checkWire vF vC x1) (fun (c1 : Nat) => if c1 = 0 then (gd (inb x1 24) (jn (some (1, (0 : Int32), vF, vC, vH)) (fun k4 => if (vC.2.1 4 (x1).toNatClampNeg) = (-1 : Int32) then k4 else if x2 < 0 then k4 else if x2 < (9 : Int32) then gd (inb x1 24) (gd (inb x2 9) (jn (some (1, (0 : Int32), vF, vC, vH)) (fun k12 => if (vC.2.1 5 (x1).toNatClampNeg) < (fewI (x2).toNatClampNeg) then k12 else gd (inb x2 9) (if (vC.2.1 5 (x1).toNatClampNeg) ≤ (mostI (x2).toNatClampNeg) then o1 (f_X1_push vC vT vH) (fun (vH_18 : Hv) => gd (inb x1 24) (bn (sI vC 4 (x1).toNatClampNeg x2) (fun (vC_21 : Vs) => o1 (f_X7_forgetRows vF) (fun (vF_22 : Vs) => some (0, (vC.2.1 4 (x1).toNatClampNeg), vF_22, vC_21, vH_18))))) else k12)))) else k4))) else some (c1, (0 : Int32), vF, vC, vH))
abbrev wsX7_setKind : List Cond := .code yX7_setKind cX7_setKind 5 (some .int) :: UW
abbrev rmX7_setKind : Room := { frames := 4, cells := 0, slots := 0, locals := 123 }
set_option maxHeartbeats 4000000 in
set_option maxRecDepth 100000 in
theorem c_X7_setKind (l : Launch) (g : Gx) (bF : Nat → Nat) (qF0 : Nat) (qF3 : Nat) (qF4 : Nat) (vF : Vs) (bS : Nat → Nat) (bC : Nat → Nat) (vC : Vs) (bT : Nat → Nat) (vT : Vs) (bH : Nat → Nat → Nat) (vH : Hv) (x1 : Int32) (x2 : Int32) (r : Int32) (vF1 : Vs) (vC1 : Vs) (vH1 : Hv) (hf : f_X7_setKind vF vC vT vH x1 x2 = some (0, r, vF1, vC1, vH1)) : CtI l yX7_setKind wsX7_setKind rmX7_setKind g [.ref (bF 0), .int x1, .int x2] (cF g bF qF0 (bS 0) (bH 0 0) qF3 qF4 vF ++ (cS g bS (bC 0) (bT 0) ++ (cC g bC vC ++ (cT g bT vT ++ (cH g bH vH))))) (cF g bF qF0 (bS 0) (bH 0 0) qF3 qF4 vF1 ++ (cS g bS (bC 0) (bT 0) ++ (cC g bC vC1 ++ (cT g bT vT ++ (cH g bH vH1))))) r 0 0 := by
  unfold CtI
  intro sz
  refine Met.ofW (cc := cX7_setKind) (maxL := 5) (ret := (some .int)) (by decide) rfl ?_
  intro p e s m args below meth c s₁ B hml hv
  obtain ⟨rfl, hsz, hP, hK, hD0, hG⟩ := hv
  have hx := B.exec
  have hb := B.bytes
  have hr := B.returns
  have hts := atoms_spec (ws := wsX7_setKind) B.pre
  have hown : s.vm.findClass RX7 = some m.cls := findClass_of_methodNamed B.named
  have hlocks := B.notSynchronized
  subst hsz
  have hD := hD0.self (sz := s.heap.size)
  generalize hAe : va_A (cF g bF qF0 (bS 0) (bH 0 0) qF3 qF4 vF ++ (cS g bS (bC 0) (bT 0) ++ (cC g bC vC ++ (cT g bT vT ++ (cH g bH vH))))) s.heap.size = A at hD hG ⊢
  have hA : ∀ q : Nat, s.heap.size ≤ q → A q := fun q h => by rw [← hAe]; exact Or.inr h
  clear hAe hD0
  have hS : va_S A s.heap s.heap [] := va_S.rf
  have hl := lv_entry ([.ref (bF 0), .int x1, .int x2]) (n := 5) (Nat.le_of_ble_eq_true rfl)
  rw [lg_entry_eq]
  generalize (lg_sl ([.ref (bF 0), .int x1, .int x2]) ++ List.replicate (5 - (lg_sl ([.ref (bF 0), .int x1, .int x2])).length) Slot.unset).toArray = ls at hl ⊢
  have hl : lv_has ls 5 [(0, .ref (bF 0)), (1, .int x1), (2, .int x2)] := hl
  have htu : ∀ w ∈ UW, w.before _ s = true := fun w h => hts w (List.mem_cons_of_mem _ h)
  have k_2_19 := htu _ mw_2_19
  have k_1_150 := htu _ mw_1_150
  have k_1_69 := htu _ mw_1_69
  have k_1_72 := htu _ mw_1_72
  have k_5_42 := htu _ mw_5_42
  have k_5_43 := htu _ mw_5_43
  have k_2_20 := htu _ mw_2_20
  unfold f_X7_setKind at hf
  obtain ⟨H, hH⟩ : ∃ z, z = s.heap := ⟨_, rfl⟩
  obtain ⟨locs, hlo⟩ : ∃ z : List Loc, z = [] := ⟨_, rfl⟩
  have hS : va_S A s.heap H locs := by rw [hH, hlo]; exact hS
  rw [← hH] at hP
  have hW : W p l e (headSpec wsX7_setKind rmX7_setKind).room s m ([.ref (bF 0), .int x1, .int x2] : List Value).toArray below meth c H locs 0 0 (MQ below (qI g A (cF g bF qF0 (bS 0) (bH 0 0) qF3 qF4 vF1 ++ (cS g bS (bC 0) (bT 0) ++ (cC g bC vC1 ++ (cT g bT vT ++ (cH g bH vH1))))) r) ([.ref (bF 0), .int x1, .int x2] : List Value).toArray s 0 0 A) (F0 m 0 ls []) := by
    refine lv_aload_n hx hb dX7_setKind_0 rfl (lv_at hl 0 rfl) ?_
    refine lv_iload_n hx hb dX7_setKind_1 rfl (lv_at hl 1 rfl) ?_
    obtain ⟨c1, hg2, hf⟩ := o1_at hf
    have hc1 : c1 = 0 := Classical.byContradiction (fun h9 => h9 (kp_5 (it_f hf h9)).1)
    have hf := it_t hf hc1
    rw [hc1] at hg2
    refine k_vvQ ⟨hx, hb, hml, hown, htu⟩ hK hP hD hS hA hG (c_X7_checkWire l g bF qF0 (bH 0 0) qF3 qF4 vF bS (bT 0) bC vC x1 hg2) (cwV 1 htu (gU_V mw_3_129 hcX7_checkWire) rfl rfl rfl hdX7_checkWire ⟨Nat.le_of_ble_eq_true rfl, Nat.le_of_ble_eq_true rfl⟩) (q0 := 0) (ci := 7) (fs := fcF bF qF0 (bS 0) (bH 0 0) qF3 qF4 vF) (q := (RX7, TX7, 12)) rfl rfl rfl (wr := (cT g bT vT ++ (cH g bH vH))) (w2 := cF g bF qF0 (bS 0) (bH 0 0) qF3 qF4 vF ++ (cS g bS (bC 0) (bT 0) ++ (cC g bC vC ++ (cT g bT vT ++ (cH g bH vH))))) (kpc (fun P => by simp only [List.countP_append] <;> omega)) (kpc (fun P => by simp only [List.countP_append] <;> omega)) (As := [.int x1]) (rest := []) rfl rfl hl.1 (Nat.le_of_ble_eq_true rfl) dX7_setKind_2 (k1 := 0) (n1 := 0) rfl rfl ⟨Nat.zero_le _, Nat.zero_le _⟩ (fun H locs hP hD hS => ?_)
    refine lv_aload_n hx hb dX7_setKind_5 rfl (lv_at hl 0 rfl) ?_
    refine va_get (D := g.1) (ci := 7) (fs := fcF bF qF0 (bS 0) (bH 0 0) qF3 qF4 vF) (v := .ref (bS 0)) (C := RX7) (T := TX7) (N := 12) hx hb htu hinX7 hown hK hP 0 rfl rfl 1 (by decide) k_2_19 (fun _ h9 => h9) rfl dX7_setKind_6 ?_
    refine va_get (D := g.1) (ci := 4) (fs := fcS bS (bC 0) (bT 0)) (v := .ref (bC 0)) (C := RX4) (T := TX4) (N := 2) hx hb htu hinX4 hown hK hP 6 rfl rfl 0 (by decide) k_1_150 (fun _ h9 => h9) rfl dX7_setKind_9 ?_
    refine va_get (D := g.1) (ci := 0) (fs := fcC bC vC) (v := .ref (bC 5)) (C := RX0) (T := TX0) (N := 14) hx hb htu hinX0 hown hK hP 7 rfl rfl 4 (by decide) k_1_69 (fun _ h9 => h9) rfl dX7_setKind_12 ?_
    refine lv_iload_n hx hb dX7_setKind_15 rfl (lv_at hl 1 rfl) ?_
    obtain ⟨h3, hf⟩ := gd_in hf
    refine va_iald (D := g.1) (f := (vC.2.1 4)) hx hb hK hP 8 0 rfl rfl h3 dX7_setKind_16 ?_
    refine lv_istore_n (lv' := [(3, .int (vC.2.1 4 (x1).toNatClampNeg)), (0, .ref (bF 0)), (1, .int x1), (2, .int x2)]) hx hb dX7_setKind_17 rfl hl (by decide) rfl (fun ls hl => ?_)
    refine lv_iload_n hx hb dX7_setKind_18 rfl (lv_at hl 0 rfl) ?_
    refine lv_iconst (v := (-1 : Int32)) hx hb dX7_setKind_19 (by decide) ?_
    obtain ⟨k4, hk6, hf⟩ := jn_at hf
    have hJ5 : k4 = some (0, r, vF1, vC1, vH1) → ∀ (H : Heap) (locs : List Loc), va_P g.1 vwCl (cF g bF qF0 (bS 0) (bH 0 0) qF3 qF4 vF ++ (cS g bS (bC 0) (bT 0) ++ (cC g bC vC ++ (cT g bT vT ++ (cH g bH vH))))) H → va_D A (cF g bF qF0 (bS 0) (bH 0 0) qF3 qF4 vF ++ (cS g bS (bC 0) (bT 0) ++ (cC g bC vC ++ (cT g bT vT ++ (cH g bH vH))))) → va_S A s.heap H locs → ∀ ls : Array Slot, lv_has ls 5 [] → W p l e (headSpec wsX7_setKind rmX7_setKind).room s m ([.ref (bF 0), .int x1, .int x2] : List Value).toArray below meth c H locs 0 0 (MQ below (qI g A (cF g bF qF0 (bS 0) (bH 0 0) qF3 qF4 vF1 ++ (cS g bS (bC 0) (bT 0) ++ (cC g bC vC1 ++ (cT g bT vT ++ (cH g bH vH1))))) r) ([.ref (bF 0), .int x1, .int x2] : List Value).toArray s 0 0 A) (F0 m 33 ls []) := by
      intro hf H locs hP hD hS ls hl
      rw [hk6] at hf
      clear hk6
      exact absurd (kp_5 hf).1 (by decide)
    refine lv_icmp_eq (tgt := 33) hx hb dX7_setKind_20 (by decide) (fun c7 => ?_) (fun c7 => ?_)
    · have hf := it_t hf c7
      exact hJ5 hf H locs hP hD hS _ (lv_sub hl [] rfl)
    · have hf := it_f hf c7
      refine lv_iload_n hx hb dX7_setKind_23 rfl (lv_at hl 3 rfl) ?_
      refine lv_if_lt (tgt := 33) hx hb dX7_setKind_24 (by decide) (fun c8 => ?_) (fun c8 => ?_)
      · have hf := it_t hf c8
        exact hJ5 hf H locs hP hD hS _ (lv_sub hl [] rfl)
      · have hf := it_f hf c8
        refine lv_iload_n hx hb dX7_setKind_27 rfl (lv_at hl 3 rfl) ?_
        refine lv_bipush (v := (9 : Int32)) hx hb dX7_setKind_28 (by decide) ?_
        refine lv_icmp_lt (tgt := 43) hx hb dX7_setKind_30 (by decide) (fun c9 => ?_) (fun c9 => ?_)
        · have hf := it_t hf c9
          refine lv_aload_n hx hb dX7_setKind_43 rfl (lv_at hl 1 rfl) ?_
          refine va_get (D := g.1) (ci := 7) (fs := fcF bF qF0 (bS 0) (bH 0 0) qF3 qF4 vF) (v := .ref (bS 0)) (C := RX7) (T := TX7) (N := 12) hx hb htu hinX7 hown hK hP 0 rfl rfl 1 (by decide) k_2_19 (fun _ h9 => h9) rfl dX7_setKind_44 ?_
          refine va_get (D := g.1) (ci := 4) (fs := fcS bS (bC 0) (bT 0)) (v := .ref (bC 0)) (C := RX4) (T := TX4) (N := 2) hx hb htu hinX4 hown hK hP 6 rfl rfl 0 (by decide) k_1_150 (fun _ h9 => h9) rfl dX7_setKind_47 ?_
          refine va_get (D := g.1) (ci := 0) (fs := fcC bC vC) (v := .ref (bC 6)) (C := RX0) (T := TX0) (N := 14) hx hb htu hinX0 hown hK hP 7 rfl rfl 5 (by decide) k_1_72 (fun _ h9 => h9) rfl dX7_setKind_50 ?_
          refine lv_iload_n hx hb dX7_setKind_53 rfl (lv_at hl 2 rfl) ?_
          obtain ⟨h10, hf⟩ := gd_in hf
          refine va_iald (D := g.1) (f := (vC.2.1 5)) hx hb hK hP 9 0 rfl rfl h10 dX7_setKind_54 ?_
          refine lv_istore (lv' := [(4, .int (vC.2.1 5 (x1).toNatClampNeg)), (3, .int (vC.2.1 4 (x1).toNatClampNeg)), (0, .ref (bF 0)), (1, .int x1), (2, .int x2)]) hx hb dX7_setKind_55 hl (by decide) rfl (fun ls hl => ?_)
          refine lv_iload hx hb dX7_setKind_57 (lv_at hl 0 rfl) ?_
          refine va_gets (v := .ref (adS g 1)) hx hb hG.2.2.2.2.2.1.1 hS hown k_5_42 (fun _ h9 => h9) dX7_setKind_59 ?_
          refine lv_iload_n hx hb dX7_setKind_62 rfl (lv_at hl 4 rfl) ?_
          obtain ⟨h11, hf⟩ := gd_in hf
          refine va_ti (v := .int (fewI (x2).toNatClampNeg)) hx hb hG.2.2.2.2.2.1.2 hS h11 rfl dX7_setKind_63 ?_
          obtain ⟨k12, hk14, hf⟩ := jn_at hf
          have hJ13 : k12 = some (0, r, vF1, vC1, vH1) → ∀ (H : Heap) (locs : List Loc), va_P g.1 vwCl (cF g bF qF0 (bS 0) (bH 0 0) qF3 qF4 vF ++ (cS g bS (bC 0) (bT 0) ++ (cC g bC vC ++ (cT g bT vT ++ (cH g bH vH))))) H → va_D A (cF g bF qF0 (bS 0) (bH 0 0) qF3 qF4 vF ++ (cS g bS (bC 0) (bT 0) ++ (cC g bC vC ++ (cT g bT vT ++ (cH g bH vH))))) → va_S A s.heap H locs → ∀ ls : Array Slot, lv_has ls 5 [] → W p l e (headSpec wsX7_setKind rmX7_setKind).room s m ([.ref (bF 0), .int x1, .int x2] : List Value).toArray below meth c H locs 0 0 (MQ below (qI g A (cF g bF qF0 (bS 0) (bH 0 0) qF3 qF4 vF1 ++ (cS g bS (bC 0) (bT 0) ++ (cC g bC vC1 ++ (cT g bT vT ++ (cH g bH vH1))))) r) ([.ref (bF 0), .int x1, .int x2] : List Value).toArray s 0 0 A) (F0 m 77 ls []) := by
            intro hf H locs hP hD hS ls hl
            rw [hk14] at hf
            clear hk14
            exact absurd (kp_5 hf).1 (by decide)
          refine lv_icmp_lt (tgt := 77) hx hb dX7_setKind_64 (by decide) (fun c15 => ?_) (fun c15 => ?_)
          · have hf := it_t hf c15
            exact hJ13 hf H locs hP hD hS _ (lv_sub hl [] rfl)
          · have hf := it_f hf c15
            refine lv_iload hx hb dX7_setKind_67 (lv_at hl 0 rfl) ?_
            refine va_gets (v := .ref (adS g 2)) hx hb hG.2.2.2.2.2.2.1 hS hown k_5_43 (fun _ h9 => h9) dX7_setKind_69 ?_
            refine lv_iload_n hx hb dX7_setKind_72 rfl (lv_at hl 4 rfl) ?_
            obtain ⟨h16, hf⟩ := gd_in hf
            refine va_ti (v := .int (mostI (x2).toNatClampNeg)) hx hb hG.2.2.2.2.2.2.2 hS h16 rfl dX7_setKind_73 ?_
            refine lv_icmp_le (tgt := 88) hx hb dX7_setKind_74 (by decide) (fun c17 => ?_) (fun c17 => ?_)
            · have hf := it_t hf c17
              refine lv_aload_n hx hb dX7_setKind_88 rfl (lv_at hl 2 rfl) ?_
              refine va_get (D := g.1) (ci := 7) (fs := fcF bF qF0 (bS 0) (bH 0 0) qF3 qF4 vF) (v := .ref (bH 0 0)) (C := RX7) (T := TX7) (N := 12) hx hb htu hinX7 hown hK hP 0 rfl rfl 2 (by decide) k_2_20 (fun _ h9 => h9) rfl dX7_setKind_89 ?_
              refine lv_aload_n hx hb dX7_setKind_92 rfl (lv_at hl 2 rfl) ?_
              refine va_get (D := g.1) (ci := 7) (fs := fcF bF qF0 (bS 0) (bH 0 0) qF3 qF4 vF) (v := .ref (bS 0)) (C := RX7) (T := TX7) (N := 12) hx hb htu hinX7 hown hK hP 0 rfl rfl 1 (by decide) k_2_19 (fun _ h9 => h9) rfl dX7_setKind_93 ?_
              obtain ⟨vH_18, hg19, hf⟩ := o1_at hf
              refine k_vvQ ⟨hx, hb, hml, hown, htu⟩ hK hP hD hS hA hG (c_X1_push l g bS bC vC bT vT bH vH vH_18 hg19) (cwV 1 htu (gU_V mw_2_215 hcX1_push) rfl rfl rfl hdX1_push ⟨Nat.le_of_ble_eq_true rfl, Nat.le_of_ble_eq_true rfl⟩) (q0 := 23) (ci := 1) (fs := fcH bH vH) (q := (RX1, TX1, 3)) rfl rfl rfl (wr := (cF g bF qF0 (bS 0) (bH 0 0) qF3 qF4 vF)) (w2 := cF g bF qF0 (bS 0) (bH 0 0) qF3 qF4 vF ++ (cS g bS (bC 0) (bT 0) ++ (cC g bC vC ++ (cT g bT vT ++ (cH g bH vH_18))))) (kpc (fun P => by simp only [List.countP_append] <;> omega)) (kpc (fun P => by simp only [List.countP_append] <;> omega)) (As := [.ref (bS 0)]) (rest := []) rfl rfl hl.1 (Nat.le_of_ble_eq_true rfl) dX7_setKind_96 (k1 := 0) (n1 := 0) rfl rfl ⟨Nat.zero_le _, Nat.zero_le _⟩ (fun H locs hP hD hS => ?_)
              refine lv_aload_n hx hb dX7_setKind_99 rfl (lv_at hl 2 rfl) ?_
              refine va_get (D := g.1) (ci := 7) (fs := fcF bF qF0 (bS 0) (bH 0 0) qF3 qF4 vF) (v := .ref (bS 0)) (C := RX7) (T := TX7) (N := 12) hx hb htu hinX7 hown hK hP 0 rfl rfl 1 (by decide) k_2_19 (fun _ h9 => h9) rfl dX7_setKind_100 ?_
              refine va_get (D := g.1) (ci := 4) (fs := fcS bS (bC 0) (bT 0)) (v := .ref (bC 0)) (C := RX4) (T := TX4) (N := 2) hx hb htu hinX4 hown hK hP 6 rfl rfl 0 (by decide) k_1_150 (fun _ h9 => h9) rfl dX7_setKind_103 ?_
              refine va_get (D := g.1) (ci := 0) (fs := fcC bC vC) (v := .ref (bC 5)) (C := RX0) (T := TX0) (N := 14) hx hb htu hinX0 hown hK hP 7 rfl rfl 4 (by decide) k_1_69 (fun _ h9 => h9) rfl dX7_setKind_106 ?_
              refine lv_iload_n hx hb dX7_setKind_109 rfl (lv_at hl 3 rfl) ?_
              refine lv_iload_n hx hb dX7_setKind_110 rfl (lv_at hl 4 rfl) ?_
              obtain ⟨h20, hf⟩ := gd_in hf
              refine va_iast (D := g.1) (f := (vC.2.1 4)) hx hb hK hP hD hS 8 0 rfl rfl h20 dX7_setKind_111 (fun H locs hP hD hS => ?_)
              obtain ⟨vC_21, evC_21⟩ : ∃ z, z = sI vC 4 (x1).toNatClampNeg x2 := ⟨_, rfl⟩
              have hf := bn_at hf evC_21
              have hP : va_P g.1 vwCl (cF g bF qF0 (bS 0) (bH 0 0) qF3 qF4 vF ++ (cS g bS (bC 0) (bT 0) ++ (cC g bC vC_21 ++ (cT g bT vT ++ (cH g bH vH_18))))) H := by rw [evC_21]; exact hP
              have hD : va_D A (cF g bF qF0 (bS 0) (bH 0 0) qF3 qF4 vF ++ (cS g bS (bC 0) (bT 0) ++ (cC g bC vC_21 ++ (cT g bT vT ++ (cH g bH vH_18))))) := by rw [evC_21]; exact hD
              refine lv_aload_n hx hb dX7_setKind_112 rfl (lv_at hl 2 rfl) ?_
              obtain ⟨vF_22, hg23, hf⟩ := o1_at hf
              refine k_vvQ ⟨hx, hb, hml, hown, htu⟩ hK hP hD hS hA hG (c_X7_forgetRows l g bF qF0 (bS 0) (bH 0 0) qF3 qF4 vF vF_22 hg23) (cwV 0 htu (gU_V mw_3_34 hcX7_forgetRows) rfl rfl rfl hdX7_forgetRows ⟨Nat.le_of_ble_eq_true rfl, Nat.le_of_ble_eq_true rfl⟩) (q0 := 0) (ci := 7) (fs := fcF bF qF0 (bS 0) (bH 0 0) qF3 qF4 vF) (q := (RX7, TX7, 12)) rfl rfl rfl (wr := (cS g bS (bC 0) (bT 0) ++ (cC g bC vC_21 ++ (cT g bT vT ++ (cH g bH vH_18))))) (w2 := cF g bF qF0 (bS 0) (bH 0 0) qF3 qF4 vF_22 ++ (cS g bS (bC 0) (bT 0) ++ (cC g bC vC_21 ++ (cT g bT vT ++ (cH g bH vH_18))))) (kpc (fun P => by simp only [List.countP_append] <;> omega)) (kpc (fun P => by simp only [List.countP_append] <;> omega)) (As := []) (rest := []) rfl rfl hl.1 (Nat.le_of_ble_eq_true rfl) dX7_setKind_113 (k1 := 0) (n1 := 0) rfl rfl ⟨Nat.zero_le _, Nat.zero_le _⟩ (fun H locs hP hD hS => ?_)
              refine lv_iload_n hx hb dX7_setKind_116 rfl (lv_at hl 1 rfl) ?_
              obtain ⟨e24, e25, e26, e27, e28⟩ := kp_5 hf
              rw [e26] at hP hD
              rw [e27] at hP hD
              rw [e28] at hP hD
              exact k_iret hx hb hr hlocks hK hP hD hS e25 dX7_setKind_117
            · have hf := it_f hf c17
              exact hJ13 hf H locs hP hD hS _ (lv_sub hl [] rfl)
        · have hf := it_f hf c9
          exact hJ5 hf H locs hP hD hS _ (lv_sub hl [] rfl)
  rw [hH, hlo] at hW
  exact hW
abbrev rtX7_setKind : Room := { frames := 9, cells := 1, slots := 6, locals := 141 }
set_option maxHeartbeats 4000000 in
set_option maxRecDepth 100000 in
theorem t_X7_setKind (l : Launch) (hst : l.stackTraces = false) (g : Gx) (bF : Nat → Nat) (qF0 : Nat) (qF3 : Nat) (qF4 : Nat) (vF : Vs) (bS : Nat → Nat) (bC : Nat → Nat) (vC : Vs) (bT : Nat → Nat) (vT : Vs) (bH : Nat → Nat → Nat) (vH : Hv) (x1 : Int32) (x2 : Int32) (r : Int32) (vF1 : Vs) (vC1 : Vs) (vH1 : Hv) (ek : Nat) (hf : f_X7_setKind vF vC vT vH x1 x2 = some (ek, r, vF1, vC1, vH1)) (hek : ¬ ek = 0) : CtXI l yX7_setKind wsX7_setKind rtX7_setKind g [.ref (bF 0), .int x1, .int x2] (cF g bF qF0 (bS 0) (bH 0 0) qF3 qF4 vF ++ (cS g bS (bC 0) (bT 0) ++ (cC g bC vC ++ (cT g bT vT ++ (cH g bH vH))))) (cF g bF qF0 (bS 0) (bH 0 0) qF3 qF4 vF1 ++ (cS g bS (bC 0) (bT 0) ++ (cC g bC vC1 ++ (cT g bT vT ++ (cH g bH vH1))))) (exN ek) 1 6 := by
  unfold CtXI
  intro sz
  refine vx_ofW (cc := cX7_setKind) (maxL := 5) (ret := (some .int)) (by decide) rfl ?_
  intro p e s m args below meth c s₁ B hml hT hv
  obtain ⟨rfl, hsz, hP, hK, hD0, hG⟩ := hv
  have hx := B.exec
  have hb := B.bytes
  have hr := B.returns
  have hts := atoms_spec (ws := wsX7_setKind) B.pre
  have hown : s.vm.findClass RX7 = some m.cls := findClass_of_methodNamed B.named
  have hlocks := B.notSynchronized
  subst hsz
  have hD := hD0.self (sz := s.heap.size)
  generalize hAe : va_A (cF g bF qF0 (bS 0) (bH 0 0) qF3 qF4 vF ++ (cS g bS (bC 0) (bT 0) ++ (cC g bC vC ++ (cT g bT vT ++ (cH g bH vH))))) s.heap.size = A at hD hG ⊢
  have hA : ∀ q : Nat, s.heap.size ≤ q → A q := fun q h => by rw [← hAe]; exact Or.inr h
  clear hAe hD0
  have hS : va_S A s.heap s.heap [] := va_S.rf
  have hl := lv_entry ([.ref (bF 0), .int x1, .int x2]) (n := 5) (Nat.le_of_ble_eq_true rfl)
  rw [lg_entry_eq]
  generalize (lg_sl ([.ref (bF 0), .int x1, .int x2]) ++ List.replicate (5 - (lg_sl ([.ref (bF 0), .int x1, .int x2])).length) Slot.unset).toArray = ls at hl ⊢
  have hl : lv_has ls 5 [(0, .ref (bF 0)), (1, .int x1), (2, .int x2)] := hl
  have htu : ∀ w ∈ UW, w.before _ s = true := fun w h => hts w (List.mem_cons_of_mem _ h)
  have k_2_19 := htu _ mw_2_19
  have k_1_150 := htu _ mw_1_150
  have k_1_69 := htu _ mw_1_69
  have k_3_52 := htu _ mw_3_52
  have k_1_13 := htu _ mw_1_13
  have k_1_72 := htu _ mw_1_72
  have k_5_42 := htu _ mw_5_42
  have k_5_43 := htu _ mw_5_43
  have k_2_20 := htu _ mw_2_20
  unfold f_X7_setKind at hf
  obtain ⟨H, hH⟩ : ∃ z, z = s.heap := ⟨_, rfl⟩
  obtain ⟨locs, hlo⟩ : ∃ z : List Loc, z = [] := ⟨_, rfl⟩
  have hS : va_S A s.heap H locs := by rw [hH, hlo]; exact hS
  rw [← hH] at hP
  have hW : W p l e (headSpec wsX7_setKind rtX7_setKind).room s m ([.ref (bF 0), .int x1, .int x2] : List Value).toArray below meth c H locs 0 0 (vx_MQ below (nI0 A) (xE g A (cF g bF qF0 (bS 0) (bH 0 0) qF3 qF4 vF1 ++ (cS g bS (bC 0) (bT 0) ++ (cC g bC vC1 ++ (cT g bT vT ++ (cH g bH vH1))))) (exN ek)) ([.ref (bF 0), .int x1, .int x2] : List Value).toArray s 1 6 A) (F0 m 0 ls []) := by
    refine lv_aload_n hx hb dX7_setKind_0 rfl (lv_at hl 0 rfl) ?_
    refine lv_iload_n hx hb dX7_setKind_1 rfl (lv_at hl 1 rfl) ?_
    obtain ⟨c1, hg2, hf⟩ := o1_at hf
    rcases Classical.em (¬ c1 = 0) with hc1 | hc1
    · have hf := it_f hf hc1
      obtain ⟨rfl, rfl, rfl, rfl, rfl⟩ := kp_5 hf
      exact kx_vvQ ⟨hx, hb, hml, hown, htu⟩ hK hP hD hS hA hG (t_X7_checkWire l hst g bF qF0 (bH 0 0) qF3 qF4 vF bS (bT 0) bC vC x1 c1 hg2 hc1) (cwV 1 htu (gU_V mw_3_129 hcX7_checkWire) rfl rfl rfl hdX7_checkWire ⟨Nat.le_of_ble_eq_true rfl, Nat.le_of_ble_eq_true rfl⟩) (q0 := 0) (ci := 7) (fs := fcF bF qF0 (bS 0) (bH 0 0) qF3 qF4 vF) (q := (RX7, TX7, 12)) rfl rfl rfl (wr := (cT g bT vT ++ (cH g bH vH))) (w2 := cF g bF qF0 (bS 0) (bH 0 0) qF3 qF4 vF ++ (cS g bS (bC 0) (bT 0) ++ (cC g bC vC ++ (cT g bT vT ++ (cH g bH vH))))) (kpc (fun P => by simp only [List.countP_append] <;> omega)) (kpc (fun P => by simp only [List.countP_append] <;> omega)) (As := [.int x1]) (rest := []) rfl rfl hl.1 (Nat.le_of_ble_eq_true rfl) dX7_setKind_2 ⟨Nat.le_refl _, Nat.le_refl _⟩ ⟨Nat.le_refl _, Nat.le_refl _⟩ hT hlocks
    have hc1 := Classical.not_not.mp hc1
    have hf := it_t hf hc1
    rw [hc1] at hg2
    refine k_vvQ ⟨hx, hb, hml, hown, htu⟩ hK hP hD hS hA hG (c_X7_checkWire l g bF qF0 (bH 0 0) qF3 qF4 vF bS (bT 0) bC vC x1 hg2) (cwV 1 htu (gU_V mw_3_129 hcX7_checkWire) rfl rfl rfl hdX7_checkWire ⟨Nat.le_of_ble_eq_true rfl, Nat.le_of_ble_eq_true rfl⟩) (q0 := 0) (ci := 7) (fs := fcF bF qF0 (bS 0) (bH 0 0) qF3 qF4 vF) (q := (RX7, TX7, 12)) rfl rfl rfl (wr := (cT g bT vT ++ (cH g bH vH))) (w2 := cF g bF qF0 (bS 0) (bH 0 0) qF3 qF4 vF ++ (cS g bS (bC 0) (bT 0) ++ (cC g bC vC ++ (cT g bT vT ++ (cH g bH vH))))) (kpc (fun P => by simp only [List.countP_append] <;> omega)) (kpc (fun P => by simp only [List.countP_append] <;> omega)) (As := [.int x1]) (rest := []) rfl rfl hl.1 (Nat.le_of_ble_eq_true rfl) dX7_setKind_2 (k1 := 0) (n1 := 0) rfl rfl ⟨Nat.zero_le _, Nat.zero_le _⟩ (fun H locs hP hD hS => ?_)
    refine lv_aload_n hx hb dX7_setKind_5 rfl (lv_at hl 0 rfl) ?_
    refine va_get (D := g.1) (ci := 7) (fs := fcF bF qF0 (bS 0) (bH 0 0) qF3 qF4 vF) (v := .ref (bS 0)) (C := RX7) (T := TX7) (N := 12) hx hb htu hinX7 hown hK hP 0 rfl rfl 1 (by decide) k_2_19 (fun _ h9 => h9) rfl dX7_setKind_6 ?_
    refine va_get (D := g.1) (ci := 4) (fs := fcS bS (bC 0) (bT 0)) (v := .ref (bC 0)) (C := RX4) (T := TX4) (N := 2) hx hb htu hinX4 hown hK hP 6 rfl rfl 0 (by decide) k_1_150 (fun _ h9 => h9) rfl dX7_setKind_9 ?_
    refine va_get (D := g.1) (ci := 0) (fs := fcC bC vC) (v := .ref (bC 5)) (C := RX0) (T := TX0) (N := 14) hx hb htu hinX0 hown hK hP 7 rfl rfl 4 (by decide) k_1_69 (fun _ h9 => h9) rfl dX7_setKind_12 ?_
    refine lv_iload_n hx hb dX7_setKind_15 rfl (lv_at hl 1 rfl) ?_
    obtain ⟨h3, hf⟩ := gd_in hf
    refine va_iald (D := g.1) (f := (vC.2.1 4)) hx hb hK hP 8 0 rfl rfl h3 dX7_setKind_16 ?_
    refine lv_istore_n (lv' := [(3, .int (vC.2.1 4 (x1).toNatClampNeg)), (0, .ref (bF 0)), (1, .int x1), (2, .int x2)]) hx hb dX7_setKind_17 rfl hl (by decide) rfl (fun ls hl => ?_)
    refine lv_iload_n hx hb dX7_setKind_18 rfl (lv_at hl 0 rfl) ?_
    refine lv_iconst (v := (-1 : Int32)) hx hb dX7_setKind_19 (by decide) ?_
    obtain ⟨k4, hk6, hf⟩ := jn_at hf
    have hJ5 : k4 = some (ek, r, vF1, vC1, vH1) → ∀ (H : Heap) (locs : List Loc), va_P g.1 vwCl (cF g bF qF0 (bS 0) (bH 0 0) qF3 qF4 vF ++ (cS g bS (bC 0) (bT 0) ++ (cC g bC vC ++ (cT g bT vT ++ (cH g bH vH))))) H → va_D A (cF g bF qF0 (bS 0) (bH 0 0) qF3 qF4 vF ++ (cS g bS (bC 0) (bT 0) ++ (cC g bC vC ++ (cT g bT vT ++ (cH g bH vH))))) → va_S A s.heap H locs → ∀ ls : Array Slot, lv_has ls 5 [] → W p l e (headSpec wsX7_setKind rtX7_setKind).room s m ([.ref (bF 0), .int x1, .int x2] : List Value).toArray below meth c H locs 0 0 (vx_MQ below (nI0 A) (xE g A (cF g bF qF0 (bS 0) (bH 0 0) qF3 qF4 vF1 ++ (cS g bS (bC 0) (bT 0) ++ (cC g bC vC1 ++ (cT g bT vT ++ (cH g bH vH1))))) (exN ek)) ([.ref (bF 0), .int x1, .int x2] : List Value).toArray s 1 6 A) (F0 m 33 ls []) := by
      intro hf H locs hP hD hS ls hl
      rw [hk6] at hf
      clear hk6
      obtain ⟨rfl, rfl, rfl, rfl, rfl⟩ := kp_5 hf
      exact vx_throwS (own := RX7) (cls := "java/lang/IllegalArgumentException") (text := "no gate or no kind") (names := ["java/lang/RuntimeException", "java/lang/Exception"]) (ic := 77) (sa := adK g 10) (A := A) hx hb hst hown (by decide +kernel) (by decide +kernel) k_3_52 k_1_13 (hG.1.1 ("FaultTests", 255, "no gate or no kind", 10) (List.mem_of_getElem? (i := 5) rfl)) (fun w h => (xw_77 w h).elim (htu w) (hG.1.bad w)) xo_77 hG.2.1.1 hG.2.1.2 hS (hl.1.trans hml.symm) dX7_setKind_33 dX7_setKind_36 dX7_setKind_37 dX7_setKind_39 dX7_setKind_42 (fun z hz => (hT z hz).elim) (Nat.le_of_ble_eq_true rfl) (Nat.le_of_ble_eq_true rfl) (Nat.le_refl _) (Nat.le_refl _) hlocks (fun t hv hz hq => ⟨(), trivial, ⟨rfl, hP.kept (fun k q h9 => hq q.1 (k_lt hP h9)), va_K.moved hv hK, hD⟩, ⟨Nat.le_trans hS.1 hz, fun q h1 h2 => (hq q (Nat.lt_of_lt_of_le h1 hS.1)).trans (hS.2.1 q h1 h2)⟩⟩) hS.2.2 (Nat.le_refl _) (Nat.le_refl _)
    refine lv_icmp_eq (tgt := 33) hx hb dX7_setKind_20 (by decide) (fun c7 => ?_) (fun c7 => ?_)
    · have hf := it_t hf c7
      exact hJ5 hf H locs hP hD hS _ (lv_sub hl [] rfl)
    · have hf := it_f hf c7
      refine lv_iload_n hx hb dX7_setKind_23 rfl (lv_at hl 3 rfl) ?_
      refine lv_if_lt (tgt := 33) hx hb dX7_setKind_24 (by decide) (fun c8 => ?_) (fun c8 => ?_)
      · have hf := it_t hf c8
        exact hJ5 hf H locs hP hD hS _ (lv_sub hl [] rfl)
      · have hf := it_f hf c8
        refine lv_iload_n hx hb dX7_setKind_27 rfl (lv_at hl 3 rfl) ?_
        refine lv_bipush (v := (9 : Int32)) hx hb dX7_setKind_28 (by decide) ?_
        refine lv_icmp_lt (tgt := 43) hx hb dX7_setKind_30 (by decide) (fun c9 => ?_) (fun c9 => ?_)
        · have hf := it_t hf c9
          refine lv_aload_n hx hb dX7_setKind_43 rfl (lv_at hl 1 rfl) ?_
          refine va_get (D := g.1) (ci := 7) (fs := fcF bF qF0 (bS 0) (bH 0 0) qF3 qF4 vF) (v := .ref (bS 0)) (C := RX7) (T := TX7) (N := 12) hx hb htu hinX7 hown hK hP 0 rfl rfl 1 (by decide) k_2_19 (fun _ h9 => h9) rfl dX7_setKind_44 ?_
          refine va_get (D := g.1) (ci := 4) (fs := fcS bS (bC 0) (bT 0)) (v := .ref (bC 0)) (C := RX4) (T := TX4) (N := 2) hx hb htu hinX4 hown hK hP 6 rfl rfl 0 (by decide) k_1_150 (fun _ h9 => h9) rfl dX7_setKind_47 ?_
          refine va_get (D := g.1) (ci := 0) (fs := fcC bC vC) (v := .ref (bC 6)) (C := RX0) (T := TX0) (N := 14) hx hb htu hinX0 hown hK hP 7 rfl rfl 5 (by decide) k_1_72 (fun _ h9 => h9) rfl dX7_setKind_50 ?_
          refine lv_iload_n hx hb dX7_setKind_53 rfl (lv_at hl 2 rfl) ?_
          obtain ⟨h10, hf⟩ := gd_in hf
          refine va_iald (D := g.1) (f := (vC.2.1 5)) hx hb hK hP 9 0 rfl rfl h10 dX7_setKind_54 ?_
          refine lv_istore (lv' := [(4, .int (vC.2.1 5 (x1).toNatClampNeg)), (3, .int (vC.2.1 4 (x1).toNatClampNeg)), (0, .ref (bF 0)), (1, .int x1), (2, .int x2)]) hx hb dX7_setKind_55 hl (by decide) rfl (fun ls hl => ?_)
          refine lv_iload hx hb dX7_setKind_57 (lv_at hl 0 rfl) ?_
          refine va_gets (v := .ref (adS g 1)) hx hb hG.2.2.2.2.2.1.1 hS hown k_5_42 (fun _ h9 => h9) dX7_setKind_59 ?_
          refine lv_iload_n hx hb dX7_setKind_62 rfl (lv_at hl 4 rfl) ?_
          obtain ⟨h11, hf⟩ := gd_in hf
          refine va_ti (v := .int (fewI (x2).toNatClampNeg)) hx hb hG.2.2.2.2.2.1.2 hS h11 rfl dX7_setKind_63 ?_
          obtain ⟨k12, hk14, hf⟩ := jn_at hf
          have hJ13 : k12 = some (ek, r, vF1, vC1, vH1) → ∀ (H : Heap) (locs : List Loc), va_P g.1 vwCl (cF g bF qF0 (bS 0) (bH 0 0) qF3 qF4 vF ++ (cS g bS (bC 0) (bT 0) ++ (cC g bC vC ++ (cT g bT vT ++ (cH g bH vH))))) H → va_D A (cF g bF qF0 (bS 0) (bH 0 0) qF3 qF4 vF ++ (cS g bS (bC 0) (bT 0) ++ (cC g bC vC ++ (cT g bT vT ++ (cH g bH vH))))) → va_S A s.heap H locs → ∀ ls : Array Slot, lv_has ls 5 [] → W p l e (headSpec wsX7_setKind rtX7_setKind).room s m ([.ref (bF 0), .int x1, .int x2] : List Value).toArray below meth c H locs 0 0 (vx_MQ below (nI0 A) (xE g A (cF g bF qF0 (bS 0) (bH 0 0) qF3 qF4 vF1 ++ (cS g bS (bC 0) (bT 0) ++ (cC g bC vC1 ++ (cT g bT vT ++ (cH g bH vH1))))) (exN ek)) ([.ref (bF 0), .int x1, .int x2] : List Value).toArray s 1 6 A) (F0 m 77 ls []) := by
            intro hf H locs hP hD hS ls hl
            rw [hk14] at hf
            clear hk14
            obtain ⟨rfl, rfl, rfl, rfl, rfl⟩ := kp_5 hf
            exact vx_throwSW (own := RX7) (cls := "java/lang/IllegalArgumentException") (text := "operands") (names := ["java/lang/RuntimeException", "java/lang/Exception"]) (ic := 77) (sa := adK g 15) (A := A) hx hb hst hown (by decide +kernel) (by decide +kernel) k_3_52 k_1_13 (hG.1.1 ("FaultTests", 263, "operands", 15) (List.mem_of_getElem? (i := 6) rfl)) (fun w h => (xw_77 w h).elim (htu w) (hG.1.bad w)) xo_77 hG.2.1.1 hG.2.1.2 hS (hl.1.trans hml.symm) dX7_setKind_77 dX7_setKind_80 dX7_setKind_81 dX7_setKind_84 dX7_setKind_87 (fun z hz => (hT z hz).elim) (Nat.le_of_ble_eq_true rfl) (Nat.le_of_ble_eq_true rfl) (Nat.le_refl _) (Nat.le_refl _) hlocks (fun t hv hz hq => ⟨(), trivial, ⟨rfl, hP.kept (fun k q h9 => hq q.1 (k_lt hP h9)), va_K.moved hv hK, hD⟩, ⟨Nat.le_trans hS.1 hz, fun q h1 h2 => (hq q (Nat.lt_of_lt_of_le h1 hS.1)).trans (hS.2.1 q h1 h2)⟩⟩) hS.2.2 (Nat.le_refl _) (Nat.le_refl _)
          refine lv_icmp_lt (tgt := 77) hx hb dX7_setKind_64 (by decide) (fun c15 => ?_) (fun c15 => ?_)
          · have hf := it_t hf c15
            exact hJ13 hf H locs hP hD hS _ (lv_sub hl [] rfl)
          · have hf := it_f hf c15
            refine lv_iload hx hb dX7_setKind_67 (lv_at hl 0 rfl) ?_
            refine va_gets (v := .ref (adS g 2)) hx hb hG.2.2.2.2.2.2.1 hS hown k_5_43 (fun _ h9 => h9) dX7_setKind_69 ?_
            refine lv_iload_n hx hb dX7_setKind_72 rfl (lv_at hl 4 rfl) ?_
            obtain ⟨h16, hf⟩ := gd_in hf
            refine va_ti (v := .int (mostI (x2).toNatClampNeg)) hx hb hG.2.2.2.2.2.2.2 hS h16 rfl dX7_setKind_73 ?_
            refine lv_icmp_le (tgt := 88) hx hb dX7_setKind_74 (by decide) (fun c17 => ?_) (fun c17 => ?_)
            · have hf := it_t hf c17
              refine lv_aload_n hx hb dX7_setKind_88 rfl (lv_at hl 2 rfl) ?_
              refine va_get (D := g.1) (ci := 7) (fs := fcF bF qF0 (bS 0) (bH 0 0) qF3 qF4 vF) (v := .ref (bH 0 0)) (C := RX7) (T := TX7) (N := 12) hx hb htu hinX7 hown hK hP 0 rfl rfl 2 (by decide) k_2_20 (fun _ h9 => h9) rfl dX7_setKind_89 ?_
              refine lv_aload_n hx hb dX7_setKind_92 rfl (lv_at hl 2 rfl) ?_
              refine va_get (D := g.1) (ci := 7) (fs := fcF bF qF0 (bS 0) (bH 0 0) qF3 qF4 vF) (v := .ref (bS 0)) (C := RX7) (T := TX7) (N := 12) hx hb htu hinX7 hown hK hP 0 rfl rfl 1 (by decide) k_2_19 (fun _ h9 => h9) rfl dX7_setKind_93 ?_
              obtain ⟨vH_18, hg19, hf⟩ := o1_at hf
              refine k_vvQ ⟨hx, hb, hml, hown, htu⟩ hK hP hD hS hA hG (c_X1_push l g bS bC vC bT vT bH vH vH_18 hg19) (cwV 1 htu (gU_V mw_2_215 hcX1_push) rfl rfl rfl hdX1_push ⟨Nat.le_of_ble_eq_true rfl, Nat.le_of_ble_eq_true rfl⟩) (q0 := 23) (ci := 1) (fs := fcH bH vH) (q := (RX1, TX1, 3)) rfl rfl rfl (wr := (cF g bF qF0 (bS 0) (bH 0 0) qF3 qF4 vF)) (w2 := cF g bF qF0 (bS 0) (bH 0 0) qF3 qF4 vF ++ (cS g bS (bC 0) (bT 0) ++ (cC g bC vC ++ (cT g bT vT ++ (cH g bH vH_18))))) (kpc (fun P => by simp only [List.countP_append] <;> omega)) (kpc (fun P => by simp only [List.countP_append] <;> omega)) (As := [.ref (bS 0)]) (rest := []) rfl rfl hl.1 (Nat.le_of_ble_eq_true rfl) dX7_setKind_96 (k1 := 0) (n1 := 0) rfl rfl ⟨Nat.zero_le _, Nat.zero_le _⟩ (fun H locs hP hD hS => ?_)
              refine lv_aload_n hx hb dX7_setKind_99 rfl (lv_at hl 2 rfl) ?_
              refine va_get (D := g.1) (ci := 7) (fs := fcF bF qF0 (bS 0) (bH 0 0) qF3 qF4 vF) (v := .ref (bS 0)) (C := RX7) (T := TX7) (N := 12) hx hb htu hinX7 hown hK hP 0 rfl rfl 1 (by decide) k_2_19 (fun _ h9 => h9) rfl dX7_setKind_100 ?_
              refine va_get (D := g.1) (ci := 4) (fs := fcS bS (bC 0) (bT 0)) (v := .ref (bC 0)) (C := RX4) (T := TX4) (N := 2) hx hb htu hinX4 hown hK hP 6 rfl rfl 0 (by decide) k_1_150 (fun _ h9 => h9) rfl dX7_setKind_103 ?_
              refine va_get (D := g.1) (ci := 0) (fs := fcC bC vC) (v := .ref (bC 5)) (C := RX0) (T := TX0) (N := 14) hx hb htu hinX0 hown hK hP 7 rfl rfl 4 (by decide) k_1_69 (fun _ h9 => h9) rfl dX7_setKind_106 ?_
              refine lv_iload_n hx hb dX7_setKind_109 rfl (lv_at hl 3 rfl) ?_
              refine lv_iload_n hx hb dX7_setKind_110 rfl (lv_at hl 4 rfl) ?_
              obtain ⟨h20, hf⟩ := gd_in hf
              refine va_iast (D := g.1) (f := (vC.2.1 4)) hx hb hK hP hD hS 8 0 rfl rfl h20 dX7_setKind_111 (fun H locs hP hD hS => ?_)
              obtain ⟨vC_21, evC_21⟩ : ∃ z, z = sI vC 4 (x1).toNatClampNeg x2 := ⟨_, rfl⟩
              have hf := bn_at hf evC_21
              have hP : va_P g.1 vwCl (cF g bF qF0 (bS 0) (bH 0 0) qF3 qF4 vF ++ (cS g bS (bC 0) (bT 0) ++ (cC g bC vC_21 ++ (cT g bT vT ++ (cH g bH vH_18))))) H := by rw [evC_21]; exact hP
              have hD : va_D A (cF g bF qF0 (bS 0) (bH 0 0) qF3 qF4 vF ++ (cS g bS (bC 0) (bT 0) ++ (cC g bC vC_21 ++ (cT g bT vT ++ (cH g bH vH_18))))) := by rw [evC_21]; exact hD
              refine lv_aload_n hx hb dX7_setKind_112 rfl (lv_at hl 2 rfl) ?_
              obtain ⟨vF_22, hg23, hf⟩ := o1_at hf
              refine k_vvQ ⟨hx, hb, hml, hown, htu⟩ hK hP hD hS hA hG (c_X7_forgetRows l g bF qF0 (bS 0) (bH 0 0) qF3 qF4 vF vF_22 hg23) (cwV 0 htu (gU_V mw_3_34 hcX7_forgetRows) rfl rfl rfl hdX7_forgetRows ⟨Nat.le_of_ble_eq_true rfl, Nat.le_of_ble_eq_true rfl⟩) (q0 := 0) (ci := 7) (fs := fcF bF qF0 (bS 0) (bH 0 0) qF3 qF4 vF) (q := (RX7, TX7, 12)) rfl rfl rfl (wr := (cS g bS (bC 0) (bT 0) ++ (cC g bC vC_21 ++ (cT g bT vT ++ (cH g bH vH_18))))) (w2 := cF g bF qF0 (bS 0) (bH 0 0) qF3 qF4 vF_22 ++ (cS g bS (bC 0) (bT 0) ++ (cC g bC vC_21 ++ (cT g bT vT ++ (cH g bH vH_18))))) (kpc (fun P => by simp only [List.countP_append] <;> omega)) (kpc (fun P => by simp only [List.countP_append] <;> omega)) (As := []) (rest := []) rfl rfl hl.1 (Nat.le_of_ble_eq_true rfl) dX7_setKind_113 (k1 := 0) (n1 := 0) rfl rfl ⟨Nat.zero_le _, Nat.zero_le _⟩ (fun H locs hP hD hS => ?_)
              refine lv_iload_n hx hb dX7_setKind_116 rfl (lv_at hl 1 rfl) ?_
              exact absurd (kp_5 hf).1.symm hek
            · have hf := it_f hf c17
              exact hJ13 hf H locs hP hD hS _ (lv_sub hl [] rfl)
        · have hf := it_f hf c9
          exact hJ5 hf H locs hP hD hS _ (lv_sub hl [] rfl)
  rw [hH, hlo] at hW
  exact hW
def f_X7_forget (vF : Vs) (vC : Vs) (vT : Vs) (vH : Hv) : Option (Int32 × Vs × Hv) :=
  o1 (f_X1_push vC vT vH) (fun (vH_1 : Hv) => o1 (f_X6_countSeen vT) (fun (r3 : Int32) => o1 (f_X6_clearSeen vT) (fun (vT_5 : Vs) => some (r3, vT_5, vH_1))))
abbrev wsX7_forget : List Cond := .code yX7_forget cX7_forget 2 (some .int) :: UW
abbrev rmX7_forget : Room := { frames := 4, cells := 0, slots := 0, locals := 123 }
set_option maxHeartbeats 4000000 in
set_option maxRecDepth 100000 in
theorem c_X7_forget (l : Launch) (g : Gx) (bF : Nat → Nat) (qF0 : Nat) (qF3 : Nat) (qF4 : Nat) (vF : Vs) (bS : Nat → Nat) (bC : Nat → Nat) (vC : Vs) (bT : Nat → Nat) (vT : Vs) (bH : Nat → Nat → Nat) (vH : Hv) (r : Int32) (vT1 : Vs) (vH1 : Hv) (hf : f_X7_forget vF vC vT vH = some (r, vT1, vH1)) : CtI l yX7_forget wsX7_forget rmX7_forget g [.ref (bF 0)] (cF g bF qF0 (bS 0) (bH 0 0) qF3 qF4 vF ++ (cS g bS (bC 0) (bT 0) ++ (cC g bC vC ++ (cT g bT vT ++ (cH g bH vH))))) (cF g bF qF0 (bS 0) (bH 0 0) qF3 qF4 vF ++ (cS g bS (bC 0) (bT 0) ++ (cC g bC vC ++ (cT g bT vT1 ++ (cH g bH vH1))))) r 0 0 := by
  unfold CtI
  intro sz
  refine Met.ofW (cc := cX7_forget) (maxL := 2) (ret := (some .int)) (by decide) rfl ?_
  intro p e s m args below meth c s₁ B hml hv
  obtain ⟨rfl, hsz, hP, hK, hD0, hG⟩ := hv
  have hx := B.exec
  have hb := B.bytes
  have hr := B.returns
  have hts := atoms_spec (ws := wsX7_forget) B.pre
  have hown : s.vm.findClass RX7 = some m.cls := findClass_of_methodNamed B.named
  have hlocks := B.notSynchronized
  subst hsz
  have hD := hD0.self (sz := s.heap.size)
  generalize hAe : va_A (cF g bF qF0 (bS 0) (bH 0 0) qF3 qF4 vF ++ (cS g bS (bC 0) (bT 0) ++ (cC g bC vC ++ (cT g bT vT ++ (cH g bH vH))))) s.heap.size = A at hD hG ⊢
  have hA : ∀ q : Nat, s.heap.size ≤ q → A q := fun q h => by rw [← hAe]; exact Or.inr h
  clear hAe hD0
  have hS : va_S A s.heap s.heap [] := va_S.rf
  have hl := lv_entry ([.ref (bF 0)]) (n := 2) (Nat.le_of_ble_eq_true rfl)
  rw [lg_entry_eq]
  generalize (lg_sl ([.ref (bF 0)]) ++ List.replicate (2 - (lg_sl ([.ref (bF 0)])).length) Slot.unset).toArray = ls at hl ⊢
  have hl : lv_has ls 2 [(0, .ref (bF 0))] := hl
  have htu : ∀ w ∈ UW, w.before _ s = true := fun w h => hts w (List.mem_cons_of_mem _ h)
  have k_2_20 := htu _ mw_2_20
  have k_2_19 := htu _ mw_2_19
  have k_1_153 := htu _ mw_1_153
  unfold f_X7_forget at hf
  obtain ⟨H, hH⟩ : ∃ z, z = s.heap := ⟨_, rfl⟩
  obtain ⟨locs, hlo⟩ : ∃ z : List Loc, z = [] := ⟨_, rfl⟩
  have hS : va_S A s.heap H locs := by rw [hH, hlo]; exact hS
  rw [← hH] at hP
  have hW : W p l e (headSpec wsX7_forget rmX7_forget).room s m ([.ref (bF 0)] : List Value).toArray below meth c H locs 0 0 (MQ below (qI g A (cF g bF qF0 (bS 0) (bH 0 0) qF3 qF4 vF ++ (cS g bS (bC 0) (bT 0) ++ (cC g bC vC ++ (cT g bT vT1 ++ (cH g bH vH1))))) r) ([.ref (bF 0)] : List Value).toArray s 0 0 A) (F0 m 0 ls []) := by
    refine lv_aload_n hx hb dX7_forget_0 rfl (lv_at hl 0 rfl) ?_
    refine va_get (D := g.1) (ci := 7) (fs := fcF bF qF0 (bS 0) (bH 0 0) qF3 qF4 vF) (v := .ref (bH 0 0)) (C := RX7) (T := TX7) (N := 12) hx hb htu hinX7 hown hK hP 0 rfl rfl 2 (by decide) k_2_20 (fun _ h9 => h9) rfl dX7_forget_1 ?_
    refine lv_aload_n hx hb dX7_forget_4 rfl (lv_at hl 0 rfl) ?_
    refine va_get (D := g.1) (ci := 7) (fs := fcF bF qF0 (bS 0) (bH 0 0) qF3 qF4 vF) (v := .ref (bS 0)) (C := RX7) (T := TX7) (N := 12) hx hb htu hinX7 hown hK hP 0 rfl rfl 1 (by decide) k_2_19 (fun _ h9 => h9) rfl dX7_forget_5 ?_
    obtain ⟨vH_1, hg2, hf⟩ := o1_at hf
    refine k_vvQ ⟨hx, hb, hml, hown, htu⟩ hK hP hD hS hA hG (c_X1_push l g bS bC vC bT vT bH vH vH_1 hg2) (cwV 1 htu (gU_V mw_2_215 hcX1_push) rfl rfl rfl hdX1_push ⟨Nat.le_of_ble_eq_true rfl, Nat.le_of_ble_eq_true rfl⟩) (q0 := 23) (ci := 1) (fs := fcH bH vH) (q := (RX1, TX1, 3)) rfl rfl rfl (wr := (cF g bF qF0 (bS 0) (bH 0 0) qF3 qF4 vF)) (w2 := cF g bF qF0 (bS 0) (bH 0 0) qF3 qF4 vF ++ (cS g bS (bC 0) (bT 0) ++ (cC g bC vC ++ (cT g bT vT ++ (cH g bH vH_1))))) (kpc (fun P => by simp only [List.countP_append] <;> omega)) (kpc (fun P => by simp only [List.countP_append] <;> omega)) (As := [.ref (bS 0)]) (rest := []) rfl rfl hl.1 (Nat.le_of_ble_eq_true rfl) dX7_forget_8 (k1 := 0) (n1 := 0) rfl rfl ⟨Nat.zero_le _, Nat.zero_le _⟩ (fun H locs hP hD hS => ?_)
    refine lv_aload_n hx hb dX7_forget_11 rfl (lv_at hl 0 rfl) ?_
    refine va_get (D := g.1) (ci := 7) (fs := fcF bF qF0 (bS 0) (bH 0 0) qF3 qF4 vF) (v := .ref (bS 0)) (C := RX7) (T := TX7) (N := 12) hx hb htu hinX7 hown hK hP 0 rfl rfl 1 (by decide) k_2_19 (fun _ h9 => h9) rfl dX7_forget_12 ?_
    refine va_get (D := g.1) (ci := 4) (fs := fcS bS (bC 0) (bT 0)) (v := .ref (bT 0)) (C := RX4) (T := TX4) (N := 2) hx hb htu hinX4 hown hK hP 6 rfl rfl 1 (by decide) k_1_153 (fun _ h9 => h9) rfl dX7_forget_15 ?_
    obtain ⟨r3, hg4, hf⟩ := o1_at hf
    refine k_viQ ⟨hx, hb, hml, hown, htu⟩ hK hP hD hS hA hG (c_X6_countSeen l g bT vT r3 hg4) (cwV 0 htu (gU_V mw_2_236 hcX6_countSeen) rfl rfl rfl hdX6_countSeen ⟨Nat.le_of_ble_eq_true rfl, Nat.le_of_ble_eq_true rfl⟩) (q0 := 18) (ci := 6) (fs := fcT bT vT) (q := (RX6, TX6, 5)) rfl rfl rfl (wr := (cF g bF qF0 (bS 0) (bH 0 0) qF3 qF4 vF ++ (cS g bS (bC 0) (bT 0) ++ (cC g bC vC ++ (cH g bH vH_1))))) (w2 := cF g bF qF0 (bS 0) (bH 0 0) qF3 qF4 vF ++ (cS g bS (bC 0) (bT 0) ++ (cC g bC vC ++ (cT g bT vT ++ (cH g bH vH_1))))) (kpc (fun P => by simp only [List.countP_append] <;> omega)) (kpc (fun P => by simp only [List.countP_append] <;> omega)) (As := []) (rest := []) rfl rfl hl.1 (Nat.le_of_ble_eq_true rfl) dX7_forget_18 (k1 := 0) (n1 := 0) rfl rfl ⟨Nat.zero_le _, Nat.zero_le _⟩ (fun H locs hP hD hS => ?_)
    refine lv_istore_n (lv' := [(1, .int r3), (0, .ref (bF 0))]) hx hb dX7_forget_21 rfl hl (by decide) rfl (fun ls hl => ?_)
    refine lv_aload_n hx hb dX7_forget_22 rfl (lv_at hl 1 rfl) ?_
    refine va_get (D := g.1) (ci := 7) (fs := fcF bF qF0 (bS 0) (bH 0 0) qF3 qF4 vF) (v := .ref (bS 0)) (C := RX7) (T := TX7) (N := 12) hx hb htu hinX7 hown hK hP 0 rfl rfl 1 (by decide) k_2_19 (fun _ h9 => h9) rfl dX7_forget_23 ?_
    refine va_get (D := g.1) (ci := 4) (fs := fcS bS (bC 0) (bT 0)) (v := .ref (bT 0)) (C := RX4) (T := TX4) (N := 2) hx hb htu hinX4 hown hK hP 6 rfl rfl 1 (by decide) k_1_153 (fun _ h9 => h9) rfl dX7_forget_26 ?_
    obtain ⟨vT_5, hg6, hf⟩ := o1_at hf
    refine k_vvQ ⟨hx, hb, hml, hown, htu⟩ hK hP hD hS hA hG (c_X6_clearSeen l g bT vT vT_5 hg6) (cwV 0 htu (gU_V mw_3_6 hcX6_clearSeen) rfl rfl rfl hdX6_clearSeen ⟨Nat.le_of_ble_eq_true rfl, Nat.le_of_ble_eq_true rfl⟩) (q0 := 18) (ci := 6) (fs := fcT bT vT) (q := (RX6, TX6, 5)) rfl rfl rfl (wr := (cF g bF qF0 (bS 0) (bH 0 0) qF3 qF4 vF ++ (cS g bS (bC 0) (bT 0) ++ (cC g bC vC ++ (cH g bH vH_1))))) (w2 := cF g bF qF0 (bS 0) (bH 0 0) qF3 qF4 vF ++ (cS g bS (bC 0) (bT 0) ++ (cC g bC vC ++ (cT g bT vT_5 ++ (cH g bH vH_1))))) (kpc (fun P => by simp only [List.countP_append] <;> omega)) (kpc (fun P => by simp only [List.countP_append] <;> omega)) (As := []) (rest := []) rfl rfl hl.1 (Nat.le_of_ble_eq_true rfl) dX7_forget_29 (k1 := 0) (n1 := 0) rfl rfl ⟨Nat.zero_le _, Nat.zero_le _⟩ (fun H locs hP hD hS => ?_)
    refine lv_iload_n hx hb dX7_forget_32 rfl (lv_at hl 0 rfl) ?_
    obtain ⟨e7, e8, e9⟩ := kp_3 hf
    rw [e8] at hP hD
    rw [e9] at hP hD
    exact k_iret hx hb hr hlocks hK hP hD hS e7 dX7_forget_33
  rw [hH, hlo] at hW
  exact hW
def f_X7_see (vF : Vs) (vC : Vs) (vT : Vs) (nRT : Nat) (vRT : Vs) (vG : Vs) (vB : Vs) (vH : Hv) (x1 : Int32) (x2 : Int32) (x3 : Int32) : Option (Nat × Int32 × Vs × Vs × Vs × Vs × Vs × Hv) :=
  o1 (f_X7_checkTest vF vT x1) (fun (c1 : Nat) => if c1 = 0 then (jn (some (2, (0 : Int32), vF, vT, vRT, vG, vB, vH)) (fun k3 => if x2 < 0 then k3 else if x2 < (vC.1 2) then jn (some (1, (0 : Int32), vF, vT, vRT, vG, vB, vH)) (fun k8 => if x3 < 0 then k8 else if x3 ≤ (2 : Int32) then o1 (f_X1_push vC vT vH) (fun (vH_13 : Hv) => o1 (f_X6_note vT x1 x2 x3) (fun (vT_15 : Vs) => o5 (f_X7_listFitting vF vC vT_15 nRT vRT vG vB) (fun (r17 : Int32) (vF_18 : Vs) (vRT_19 : Vs) (vG_20 : Vs) (vB_21 : Vs) => some (0, r17, vF_18, vT_15, vRT_19, vG_20, vB_21, vH_13)))) else k8) else k3)) else some (c1, (0 : Int32), vF, vT, vRT, vG, vB, vH))
abbrev wsX7_see : List Cond := .code yX7_see cX7_see 4 (some .int) :: UW
abbrev rmX7_see : Room := { frames := 5, cells := 0, slots := 0, locals := 127 }
set_option maxHeartbeats 4000000 in
set_option maxRecDepth 100000 in
theorem c_X7_see (l : Launch) (g : Gx) (bF : Nat → Nat) (qF0 : Nat) (qF3 : Nat) (vF : Vs) (bS : Nat → Nat) (bC : Nat → Nat) (vC : Vs) (bT : Nat → Nat) (vT : Vs) (bRT : Nat → Nat) (nRT : Nat) (vRT : Vs) (bG : Nat → Nat) (vG : Vs) (bB : Nat → Nat) (vB : Vs) (bH : Nat → Nat → Nat) (vH : Hv) (x1 : Int32) (x2 : Int32) (x3 : Int32) (r : Int32) (vF1 : Vs) (vT1 : Vs) (vRT1 : Vs) (vG1 : Vs) (vB1 : Vs) (vH1 : Hv) (hf : f_X7_see vF vC vT nRT vRT vG vB vH x1 x2 x3 = some (0, r, vF1, vT1, vRT1, vG1, vB1, vH1)) : CtI l yX7_see wsX7_see rmX7_see g [.ref (bF 0), .int x1, .int x2, .int x3] (cF g bF qF0 (bS 0) (bH 0 0) qF3 (bRT 0) vF ++ (cS g bS (bC 0) (bT 0) ++ (cC g bC vC ++ (cT g bT vT ++ (cR g bRT nRT (bG 0) (bB 0) vRT ++ (cL g bG vG ++ (cL g bB vB ++ (cH g bH vH)))))))) (cF g bF qF0 (bS 0) (bH 0 0) qF3 (bRT 0) vF1 ++ (cS g bS (bC 0) (bT 0) ++ (cC g bC vC ++ (cT g bT vT1 ++ (cR g bRT nRT (bG 0) (bB 0) vRT1 ++ (cL g bG vG1 ++ (cL g bB vB1 ++ (cH g bH vH1)))))))) r 0 0 := by
  unfold CtI
  intro sz
  refine Met.ofW (cc := cX7_see) (maxL := 4) (ret := (some .int)) (by decide) rfl ?_
  intro p e s m args below meth c s₁ B hml hv
  obtain ⟨rfl, hsz, hP, hK, hD0, hG⟩ := hv
  have hx := B.exec
  have hb := B.bytes
  have hr := B.returns
  have hts := atoms_spec (ws := wsX7_see) B.pre
  have hown : s.vm.findClass RX7 = some m.cls := findClass_of_methodNamed B.named
  have hlocks := B.notSynchronized
  subst hsz
  have hD := hD0.self (sz := s.heap.size)
  generalize hAe : va_A (cF g bF qF0 (bS 0) (bH 0 0) qF3 (bRT 0) vF ++ (cS g bS (bC 0) (bT 0) ++ (cC g bC vC ++ (cT g bT vT ++ (cR g bRT nRT (bG 0) (bB 0) vRT ++ (cL g bG vG ++ (cL g bB vB ++ (cH g bH vH)))))))) s.heap.size = A at hD hG ⊢
  have hA : ∀ q : Nat, s.heap.size ≤ q → A q := fun q h => by rw [← hAe]; exact Or.inr h
  clear hAe hD0
  have hS : va_S A s.heap s.heap [] := va_S.rf
  have hl := lv_entry ([.ref (bF 0), .int x1, .int x2, .int x3]) (n := 4) (Nat.le_of_ble_eq_true rfl)
  rw [lg_entry_eq]
  generalize (lg_sl ([.ref (bF 0), .int x1, .int x2, .int x3]) ++ List.replicate (4 - (lg_sl ([.ref (bF 0), .int x1, .int x2, .int x3])).length) Slot.unset).toArray = ls at hl ⊢
  have hl : lv_has ls 4 [(0, .ref (bF 0)), (1, .int x1), (2, .int x2), (3, .int x3)] := hl
  have htu : ∀ w ∈ UW, w.before _ s = true := fun w h => hts w (List.mem_cons_of_mem _ h)
  have k_2_19 := htu _ mw_2_19
  have k_1_150 := htu _ mw_1_150
  have k_1_65 := htu _ mw_1_65
  have k_2_20 := htu _ mw_2_20
  have k_1_153 := htu _ mw_1_153
  unfold f_X7_see at hf
  obtain ⟨H, hH⟩ : ∃ z, z = s.heap := ⟨_, rfl⟩
  obtain ⟨locs, hlo⟩ : ∃ z : List Loc, z = [] := ⟨_, rfl⟩
  have hS : va_S A s.heap H locs := by rw [hH, hlo]; exact hS
  rw [← hH] at hP
  have hW : W p l e (headSpec wsX7_see rmX7_see).room s m ([.ref (bF 0), .int x1, .int x2, .int x3] : List Value).toArray below meth c H locs 0 0 (MQ below (qI g A (cF g bF qF0 (bS 0) (bH 0 0) qF3 (bRT 0) vF1 ++ (cS g bS (bC 0) (bT 0) ++ (cC g bC vC ++ (cT g bT vT1 ++ (cR g bRT nRT (bG 0) (bB 0) vRT1 ++ (cL g bG vG1 ++ (cL g bB vB1 ++ (cH g bH vH1)))))))) r) ([.ref (bF 0), .int x1, .int x2, .int x3] : List Value).toArray s 0 0 A) (F0 m 0 ls []) := by
    refine lv_aload_n hx hb dX7_see_0 rfl (lv_at hl 0 rfl) ?_
    refine lv_iload_n hx hb dX7_see_1 rfl (lv_at hl 1 rfl) ?_
    obtain ⟨c1, hg2, hf⟩ := o1_at hf
    have hc1 : c1 = 0 := Classical.byContradiction (fun h9 => h9 (kp_8 (it_f hf h9)).1)
    have hf := it_t hf hc1
    rw [hc1] at hg2
    refine k_vvQ ⟨hx, hb, hml, hown, htu⟩ hK hP hD hS hA hG (c_X7_checkTest l g bF qF0 (bH 0 0) qF3 (bRT 0) vF bS (bC 0) bT vT x1 hg2) (cwV 1 htu (gU_V mw_4_157 hcX7_checkTest) rfl rfl rfl hdX7_checkTest ⟨Nat.le_of_ble_eq_true rfl, Nat.le_of_ble_eq_true rfl⟩) (q0 := 0) (ci := 7) (fs := fcF bF qF0 (bS 0) (bH 0 0) qF3 (bRT 0) vF) (q := (RX7, TX7, 12)) rfl rfl rfl (wr := (cC g bC vC ++ (cR g bRT nRT (bG 0) (bB 0) vRT ++ (cL g bG vG ++ (cL g bB vB ++ (cH g bH vH)))))) (w2 := cF g bF qF0 (bS 0) (bH 0 0) qF3 (bRT 0) vF ++ (cS g bS (bC 0) (bT 0) ++ (cC g bC vC ++ (cT g bT vT ++ (cR g bRT nRT (bG 0) (bB 0) vRT ++ (cL g bG vG ++ (cL g bB vB ++ (cH g bH vH)))))))) (kpc (fun P => by simp only [List.countP_append] <;> omega)) (kpc (fun P => by simp only [List.countP_append] <;> omega)) (As := [.int x1]) (rest := []) rfl rfl hl.1 (Nat.le_of_ble_eq_true rfl) dX7_see_2 (k1 := 0) (n1 := 0) rfl rfl ⟨Nat.zero_le _, Nat.zero_le _⟩ (fun H locs hP hD hS => ?_)
    refine lv_iload_n hx hb dX7_see_5 rfl (lv_at hl 2 rfl) ?_
    obtain ⟨k3, hk5, hf⟩ := jn_at hf
    have hJ4 : k3 = some (0, r, vF1, vT1, vRT1, vG1, vB1, vH1) → ∀ (H : Heap) (locs : List Loc), va_P g.1 vwCl (cF g bF qF0 (bS 0) (bH 0 0) qF3 (bRT 0) vF ++ (cS g bS (bC 0) (bT 0) ++ (cC g bC vC ++ (cT g bT vT ++ (cR g bRT nRT (bG 0) (bB 0) vRT ++ (cL g bG vG ++ (cL g bB vB ++ (cH g bH vH)))))))) H → va_D A (cF g bF qF0 (bS 0) (bH 0 0) qF3 (bRT 0) vF ++ (cS g bS (bC 0) (bT 0) ++ (cC g bC vC ++ (cT g bT vT ++ (cR g bRT nRT (bG 0) (bB 0) vRT ++ (cL g bG vG ++ (cL g bB vB ++ (cH g bH vH)))))))) → va_S A s.heap H locs → ∀ ls : Array Slot, lv_has ls 4 [] → W p l e (headSpec wsX7_see rmX7_see).room s m ([.ref (bF 0), .int x1, .int x2, .int x3] : List Value).toArray below meth c H locs 0 0 (MQ below (qI g A (cF g bF qF0 (bS 0) (bH 0 0) qF3 (bRT 0) vF1 ++ (cS g bS (bC 0) (bT 0) ++ (cC g bC vC ++ (cT g bT vT1 ++ (cR g bRT nRT (bG 0) (bB 0) vRT1 ++ (cL g bG vG1 ++ (cL g bB vB1 ++ (cH g bH vH1)))))))) r) ([.ref (bF 0), .int x1, .int x2, .int x3] : List Value).toArray s 0 0 A) (F0 m 23 ls []) := by
      intro hf H locs hP hD hS ls hl
      rw [hk5] at hf
      clear hk5
      exact absurd (kp_8 hf).1 (by decide)
    refine lv_if_lt (tgt := 23) hx hb dX7_see_6 (by decide) (fun c6 => ?_) (fun c6 => ?_)
    · have hf := it_t hf c6
      exact hJ4 hf H locs hP hD hS _ (lv_sub hl [] rfl)
    · have hf := it_f hf c6
      refine lv_iload_n hx hb dX7_see_9 rfl (lv_at hl 2 rfl) ?_
      refine lv_aload_n hx hb dX7_see_10 rfl (lv_at hl 0 rfl) ?_
      refine va_get (D := g.1) (ci := 7) (fs := fcF bF qF0 (bS 0) (bH 0 0) qF3 (bRT 0) vF) (v := .ref (bS 0)) (C := RX7) (T := TX7) (N := 12) hx hb htu hinX7 hown hK hP 0 rfl rfl 1 (by decide) k_2_19 (fun _ h9 => h9) rfl dX7_see_11 ?_
      refine va_get (D := g.1) (ci := 4) (fs := fcS bS (bC 0) (bT 0)) (v := .ref (bC 0)) (C := RX4) (T := TX4) (N := 2) hx hb htu hinX4 hown hK hP 6 rfl rfl 0 (by decide) k_1_150 (fun _ h9 => h9) rfl dX7_see_14 ?_
      refine va_get (D := g.1) (ci := 0) (fs := fcC bC vC) (v := .int (vC.1 2)) (C := RX0) (T := TX0) (N := 14) hx hb htu hinX0 hown hK hP 7 rfl rfl 2 (by decide) k_1_65 (fun _ h9 => h9) rfl dX7_see_17 ?_
      refine lv_icmp_lt (tgt := 34) hx hb dX7_see_20 (by decide) (fun c7 => ?_) (fun c7 => ?_)
      · have hf := it_t hf c7
        refine lv_iload_n hx hb dX7_see_34 rfl (lv_at hl 3 rfl) ?_
        obtain ⟨k8, hk10, hf⟩ := jn_at hf
        have hJ9 : k8 = some (0, r, vF1, vT1, vRT1, vG1, vB1, vH1) → ∀ (H : Heap) (locs : List Loc), va_P g.1 vwCl (cF g bF qF0 (bS 0) (bH 0 0) qF3 (bRT 0) vF ++ (cS g bS (bC 0) (bT 0) ++ (cC g bC vC ++ (cT g bT vT ++ (cR g bRT nRT (bG 0) (bB 0) vRT ++ (cL g bG vG ++ (cL g bB vB ++ (cH g bH vH)))))))) H → va_D A (cF g bF qF0 (bS 0) (bH 0 0) qF3 (bRT 0) vF ++ (cS g bS (bC 0) (bT 0) ++ (cC g bC vC ++ (cT g bT vT ++ (cR g bRT nRT (bG 0) (bB 0) vRT ++ (cL g bG vG ++ (cL g bB vB ++ (cH g bH vH)))))))) → va_S A s.heap H locs → ∀ ls : Array Slot, lv_has ls 4 [] → W p l e (headSpec wsX7_see rmX7_see).room s m ([.ref (bF 0), .int x1, .int x2, .int x3] : List Value).toArray below meth c H locs 0 0 (MQ below (qI g A (cF g bF qF0 (bS 0) (bH 0 0) qF3 (bRT 0) vF1 ++ (cS g bS (bC 0) (bT 0) ++ (cC g bC vC ++ (cT g bT vT1 ++ (cR g bRT nRT (bG 0) (bB 0) vRT1 ++ (cL g bG vG1 ++ (cL g bB vB1 ++ (cH g bH vH1)))))))) r) ([.ref (bF 0), .int x1, .int x2, .int x3] : List Value).toArray s 0 0 A) (F0 m 43 ls []) := by
          intro hf H locs hP hD hS ls hl
          rw [hk10] at hf
          clear hk10
          exact absurd (kp_8 hf).1 (by decide)
        refine lv_if_lt (tgt := 43) hx hb dX7_see_35 (by decide) (fun c11 => ?_) (fun c11 => ?_)
        · have hf := it_t hf c11
          exact hJ9 hf H locs hP hD hS _ (lv_sub hl [] rfl)
        · have hf := it_f hf c11
          refine lv_iload_n hx hb dX7_see_38 rfl (lv_at hl 3 rfl) ?_
          refine lv_iconst (v := (2 : Int32)) hx hb dX7_see_39 (by decide) ?_
          refine lv_icmp_le (tgt := 54) hx hb dX7_see_40 (by decide) (fun c12 => ?_) (fun c12 => ?_)
          · have hf := it_t hf c12
            refine lv_aload_n hx hb dX7_see_54 rfl (lv_at hl 0 rfl) ?_
            refine va_get (D := g.1) (ci := 7) (fs := fcF bF qF0 (bS 0) (bH 0 0) qF3 (bRT 0) vF) (v := .ref (bH 0 0)) (C := RX7) (T := TX7) (N := 12) hx hb htu hinX7 hown hK hP 0 rfl rfl 2 (by decide) k_2_20 (fun _ h9 => h9) rfl dX7_see_55 ?_
            refine lv_aload_n hx hb dX7_see_58 rfl (lv_at hl 0 rfl) ?_
            refine va_get (D := g.1) (ci := 7) (fs := fcF bF qF0 (bS 0) (bH 0 0) qF3 (bRT 0) vF) (v := .ref (bS 0)) (C := RX7) (T := TX7) (N := 12) hx hb htu hinX7 hown hK hP 0 rfl rfl 1 (by decide) k_2_19 (fun _ h9 => h9) rfl dX7_see_59 ?_
            obtain ⟨vH_13, hg14, hf⟩ := o1_at hf
            refine k_vvQ ⟨hx, hb, hml, hown, htu⟩ hK hP hD hS hA hG (c_X1_push l g bS bC vC bT vT bH vH vH_13 hg14) (cwV 1 htu (gU_V mw_2_215 hcX1_push) rfl rfl rfl hdX1_push ⟨Nat.le_of_ble_eq_true rfl, Nat.le_of_ble_eq_true rfl⟩) (q0 := 32) (ci := 1) (fs := fcH bH vH) (q := (RX1, TX1, 3)) rfl rfl rfl (wr := (cF g bF qF0 (bS 0) (bH 0 0) qF3 (bRT 0) vF ++ (cR g bRT nRT (bG 0) (bB 0) vRT ++ (cL g bG vG ++ (cL g bB vB))))) (w2 := cF g bF qF0 (bS 0) (bH 0 0) qF3 (bRT 0) vF ++ (cS g bS (bC 0) (bT 0) ++ (cC g bC vC ++ (cT g bT vT ++ (cR g bRT nRT (bG 0) (bB 0) vRT ++ (cL g bG vG ++ (cL g bB vB ++ (cH g bH vH_13)))))))) (kpc (fun P => by simp only [List.countP_append] <;> omega)) (kpc (fun P => by simp only [List.countP_append] <;> omega)) (As := [.ref (bS 0)]) (rest := []) rfl rfl hl.1 (Nat.le_of_ble_eq_true rfl) dX7_see_62 (k1 := 0) (n1 := 0) rfl rfl ⟨Nat.zero_le _, Nat.zero_le _⟩ (fun H locs hP hD hS => ?_)
            refine lv_aload_n hx hb dX7_see_65 rfl (lv_at hl 0 rfl) ?_
            refine va_get (D := g.1) (ci := 7) (fs := fcF bF qF0 (bS 0) (bH 0 0) qF3 (bRT 0) vF) (v := .ref (bS 0)) (C := RX7) (T := TX7) (N := 12) hx hb htu hinX7 hown hK hP 0 rfl rfl 1 (by decide) k_2_19 (fun _ h9 => h9) rfl dX7_see_66 ?_
            refine va_get (D := g.1) (ci := 4) (fs := fcS bS (bC 0) (bT 0)) (v := .ref (bT 0)) (C := RX4) (T := TX4) (N := 2) hx hb htu hinX4 hown hK hP 6 rfl rfl 1 (by decide) k_1_153 (fun _ h9 => h9) rfl dX7_see_69 ?_
            refine lv_iload_n hx hb dX7_see_72 rfl (lv_at hl 1 rfl) ?_
            refine lv_iload_n hx hb dX7_see_73 rfl (lv_at hl 2 rfl) ?_
            refine lv_iload_n hx hb dX7_see_74 rfl (lv_at hl 3 rfl) ?_
            obtain ⟨vT_15, hg16, hf⟩ := o1_at hf
            refine k_vvQ ⟨hx, hb, hml, hown, htu⟩ hK hP hD hS hA hG (c_X6_note l g bT vT x1 x2 x3 vT_15 hg16) (cwV 3 htu (gU_V mw_5_54 hcX6_note) rfl rfl rfl hdX6_note ⟨Nat.le_of_ble_eq_true rfl, Nat.le_of_ble_eq_true rfl⟩) (q0 := 18) (ci := 6) (fs := fcT bT vT) (q := (RX6, TX6, 5)) rfl rfl rfl (wr := (cF g bF qF0 (bS 0) (bH 0 0) qF3 (bRT 0) vF ++ (cS g bS (bC 0) (bT 0) ++ (cC g bC vC ++ (cR g bRT nRT (bG 0) (bB 0) vRT ++ (cL g bG vG ++ (cL g bB vB ++ (cH g bH vH_13)))))))) (w2 := cF g bF qF0 (bS 0) (bH 0 0) qF3 (bRT 0) vF ++ (cS g bS (bC 0) (bT 0) ++ (cC g bC vC ++ (cT g bT vT_15 ++ (cR g bRT nRT (bG 0) (bB 0) vRT ++ (cL g bG vG ++ (cL g bB vB ++ (cH g bH vH_13)))))))) (kpc (fun P => by simp only [List.countP_append] <;> omega)) (kpc (fun P => by simp only [List.countP_append] <;> omega)) (As := [.int x1, .int x2, .int x3]) (rest := []) rfl rfl hl.1 (Nat.le_of_ble_eq_true rfl) dX7_see_75 (k1 := 0) (n1 := 0) rfl rfl ⟨Nat.zero_le _, Nat.zero_le _⟩ (fun H locs hP hD hS => ?_)
            refine lv_aload_n hx hb dX7_see_78 rfl (lv_at hl 0 rfl) ?_
            obtain ⟨r17, vF_18, vRT_19, vG_20, vB_21, hg22, hf⟩ := o5_at hf
            refine k_viQ ⟨hx, hb, hml, hown, htu⟩ hK hP hD hS hA hG (c_X7_listFitting l g bF qF0 (bH 0 0) qF3 vF bS bC vC bT vT_15 bRT nRT vRT bG vG bB vB r17 vF_18 vRT_19 vG_20 vB_21 hg22) (cwV 0 htu (gU_V mw_2_184 hcX7_listFitting) rfl rfl rfl hdX7_listFitting ⟨Nat.le_of_ble_eq_true rfl, Nat.le_of_ble_eq_true rfl⟩) (q0 := 0) (ci := 7) (fs := fcF bF qF0 (bS 0) (bH 0 0) qF3 (bRT 0) vF) (q := (RX7, TX7, 12)) rfl rfl rfl (wr := (cH g bH vH_13)) (w2 := cF g bF qF0 (bS 0) (bH 0 0) qF3 (bRT 0) vF_18 ++ (cS g bS (bC 0) (bT 0) ++ (cC g bC vC ++ (cT g bT vT_15 ++ (cR g bRT nRT (bG 0) (bB 0) vRT_19 ++ (cL g bG vG_20 ++ (cL g bB vB_21 ++ (cH g bH vH_13)))))))) (kpc (fun P => by simp only [List.countP_append] <;> omega)) (kpc (fun P => by simp only [List.countP_append] <;> omega)) (As := []) (rest := []) rfl rfl hl.1 (Nat.le_of_ble_eq_true rfl) dX7_see_79 (k1 := 0) (n1 := 0) rfl rfl ⟨Nat.zero_le _, Nat.zero_le _⟩ (fun H locs hP hD hS => ?_)
            obtain ⟨e23, e24, e25, e26, e27, e28, e29, e30⟩ := kp_8 hf
            rw [e25] at hP hD
            rw [e26] at hP hD
            rw [e27] at hP hD
            rw [e28] at hP hD
            rw [e29] at hP hD
            rw [e30] at hP hD
            exact k_iret hx hb hr hlocks hK hP hD hS e24 dX7_see_82
          · have hf := it_f hf c12
            exact hJ9 hf H locs hP hD hS _ (lv_sub hl [] rfl)
      · have hf := it_f hf c7
        exact hJ4 hf H locs hP hD hS _ (lv_sub hl [] rfl)
  rw [hH, hlo] at hW
  exact hW
abbrev rtX7_see : Room := { frames := 9, cells := 1, slots := 6, locals := 141 }
set_option maxHeartbeats 4000000 in
set_option maxRecDepth 100000 in
theorem t_X7_see (l : Launch) (hst : l.stackTraces = false) (g : Gx) (bF : Nat → Nat) (qF0 : Nat) (qF3 : Nat) (vF : Vs) (bS : Nat → Nat) (bC : Nat → Nat) (vC : Vs) (bT : Nat → Nat) (vT : Vs) (bRT : Nat → Nat) (nRT : Nat) (vRT : Vs) (bG : Nat → Nat) (vG : Vs) (bB : Nat → Nat) (vB : Vs) (bH : Nat → Nat → Nat) (vH : Hv) (x1 : Int32) (x2 : Int32) (x3 : Int32) (r : Int32) (vF1 : Vs) (vT1 : Vs) (vRT1 : Vs) (vG1 : Vs) (vB1 : Vs) (vH1 : Hv) (ek : Nat) (hf : f_X7_see vF vC vT nRT vRT vG vB vH x1 x2 x3 = some (ek, r, vF1, vT1, vRT1, vG1, vB1, vH1)) (hek : ¬ ek = 0) : CtXI l yX7_see wsX7_see rtX7_see g [.ref (bF 0), .int x1, .int x2, .int x3] (cF g bF qF0 (bS 0) (bH 0 0) qF3 (bRT 0) vF ++ (cS g bS (bC 0) (bT 0) ++ (cC g bC vC ++ (cT g bT vT ++ (cR g bRT nRT (bG 0) (bB 0) vRT ++ (cL g bG vG ++ (cL g bB vB ++ (cH g bH vH)))))))) (cF g bF qF0 (bS 0) (bH 0 0) qF3 (bRT 0) vF1 ++ (cS g bS (bC 0) (bT 0) ++ (cC g bC vC ++ (cT g bT vT1 ++ (cR g bRT nRT (bG 0) (bB 0) vRT1 ++ (cL g bG vG1 ++ (cL g bB vB1 ++ (cH g bH vH1)))))))) (exN ek) 1 6 := by
  unfold CtXI
  intro sz
  refine vx_ofW (cc := cX7_see) (maxL := 4) (ret := (some .int)) (by decide) rfl ?_
  intro p e s m args below meth c s₁ B hml hT hv
  obtain ⟨rfl, hsz, hP, hK, hD0, hG⟩ := hv
  have hx := B.exec
  have hb := B.bytes
  have hr := B.returns
  have hts := atoms_spec (ws := wsX7_see) B.pre
  have hown : s.vm.findClass RX7 = some m.cls := findClass_of_methodNamed B.named
  have hlocks := B.notSynchronized
  subst hsz
  have hD := hD0.self (sz := s.heap.size)
  generalize hAe : va_A (cF g bF qF0 (bS 0) (bH 0 0) qF3 (bRT 0) vF ++ (cS g bS (bC 0) (bT 0) ++ (cC g bC vC ++ (cT g bT vT ++ (cR g bRT nRT (bG 0) (bB 0) vRT ++ (cL g bG vG ++ (cL g bB vB ++ (cH g bH vH)))))))) s.heap.size = A at hD hG ⊢
  have hA : ∀ q : Nat, s.heap.size ≤ q → A q := fun q h => by rw [← hAe]; exact Or.inr h
  clear hAe hD0
  have hS : va_S A s.heap s.heap [] := va_S.rf
  have hl := lv_entry ([.ref (bF 0), .int x1, .int x2, .int x3]) (n := 4) (Nat.le_of_ble_eq_true rfl)
  rw [lg_entry_eq]
  generalize (lg_sl ([.ref (bF 0), .int x1, .int x2, .int x3]) ++ List.replicate (4 - (lg_sl ([.ref (bF 0), .int x1, .int x2, .int x3])).length) Slot.unset).toArray = ls at hl ⊢
  have hl : lv_has ls 4 [(0, .ref (bF 0)), (1, .int x1), (2, .int x2), (3, .int x3)] := hl
  have htu : ∀ w ∈ UW, w.before _ s = true := fun w h => hts w (List.mem_cons_of_mem _ h)
  have k_3_133 := htu _ mw_3_133
  have k_1_22 := htu _ mw_1_22
  have k_2_19 := htu _ mw_2_19
  have k_1_150 := htu _ mw_1_150
  have k_1_65 := htu _ mw_1_65
  have k_3_52 := htu _ mw_3_52
  have k_1_13 := htu _ mw_1_13
  have k_2_20 := htu _ mw_2_20
  have k_1_153 := htu _ mw_1_153
  unfold f_X7_see at hf
  obtain ⟨H, hH⟩ : ∃ z, z = s.heap := ⟨_, rfl⟩
  obtain ⟨locs, hlo⟩ : ∃ z : List Loc, z = [] := ⟨_, rfl⟩
  have hS : va_S A s.heap H locs := by rw [hH, hlo]; exact hS
  rw [← hH] at hP
  have hW : W p l e (headSpec wsX7_see rtX7_see).room s m ([.ref (bF 0), .int x1, .int x2, .int x3] : List Value).toArray below meth c H locs 0 0 (vx_MQ below (nI0 A) (xE g A (cF g bF qF0 (bS 0) (bH 0 0) qF3 (bRT 0) vF1 ++ (cS g bS (bC 0) (bT 0) ++ (cC g bC vC ++ (cT g bT vT1 ++ (cR g bRT nRT (bG 0) (bB 0) vRT1 ++ (cL g bG vG1 ++ (cL g bB vB1 ++ (cH g bH vH1)))))))) (exN ek)) ([.ref (bF 0), .int x1, .int x2, .int x3] : List Value).toArray s 1 6 A) (F0 m 0 ls []) := by
    refine lv_aload_n hx hb dX7_see_0 rfl (lv_at hl 0 rfl) ?_
    refine lv_iload_n hx hb dX7_see_1 rfl (lv_at hl 1 rfl) ?_
    obtain ⟨c1, hg2, hf⟩ := o1_at hf
    rcases Classical.em (¬ c1 = 0) with hc1 | hc1
    · have hf := it_f hf hc1
      obtain ⟨rfl, rfl, rfl, rfl, rfl, rfl, rfl, rfl⟩ := kp_8 hf
      exact kx_vvQ ⟨hx, hb, hml, hown, htu⟩ hK hP hD hS hA hG (t_X7_checkTest l hst g bF qF0 (bH 0 0) qF3 (bRT 0) vF bS (bC 0) bT vT x1 c1 hg2 hc1) (cwV 1 htu (gU_V mw_4_157 hcX7_checkTest) rfl rfl rfl hdX7_checkTest ⟨Nat.le_of_ble_eq_true rfl, Nat.le_of_ble_eq_true rfl⟩) (q0 := 0) (ci := 7) (fs := fcF bF qF0 (bS 0) (bH 0 0) qF3 (bRT 0) vF) (q := (RX7, TX7, 12)) rfl rfl rfl (wr := (cC g bC vC ++ (cR g bRT nRT (bG 0) (bB 0) vRT ++ (cL g bG vG ++ (cL g bB vB ++ (cH g bH vH)))))) (w2 := cF g bF qF0 (bS 0) (bH 0 0) qF3 (bRT 0) vF ++ (cS g bS (bC 0) (bT 0) ++ (cC g bC vC ++ (cT g bT vT ++ (cR g bRT nRT (bG 0) (bB 0) vRT ++ (cL g bG vG ++ (cL g bB vB ++ (cH g bH vH)))))))) (kpc (fun P => by simp only [List.countP_append] <;> omega)) (kpc (fun P => by simp only [List.countP_append] <;> omega)) (As := [.int x1]) (rest := []) rfl rfl hl.1 (Nat.le_of_ble_eq_true rfl) dX7_see_2 ⟨Nat.le_refl _, Nat.le_refl _⟩ ⟨Nat.le_refl _, Nat.le_refl _⟩ hT hlocks
    have hc1 := Classical.not_not.mp hc1
    have hf := it_t hf hc1
    rw [hc1] at hg2
    refine k_vvQ ⟨hx, hb, hml, hown, htu⟩ hK hP hD hS hA hG (c_X7_checkTest l g bF qF0 (bH 0 0) qF3 (bRT 0) vF bS (bC 0) bT vT x1 hg2) (cwV 1 htu (gU_V mw_4_157 hcX7_checkTest) rfl rfl rfl hdX7_checkTest ⟨Nat.le_of_ble_eq_true rfl, Nat.le_of_ble_eq_true rfl⟩) (q0 := 0) (ci := 7) (fs := fcF bF qF0 (bS 0) (bH 0 0) qF3 (bRT 0) vF) (q := (RX7, TX7, 12)) rfl rfl rfl (wr := (cC g bC vC ++ (cR g bRT nRT (bG 0) (bB 0) vRT ++ (cL g bG vG ++ (cL g bB vB ++ (cH g bH vH)))))) (w2 := cF g bF qF0 (bS 0) (bH 0 0) qF3 (bRT 0) vF ++ (cS g bS (bC 0) (bT 0) ++ (cC g bC vC ++ (cT g bT vT ++ (cR g bRT nRT (bG 0) (bB 0) vRT ++ (cL g bG vG ++ (cL g bB vB ++ (cH g bH vH)))))))) (kpc (fun P => by simp only [List.countP_append] <;> omega)) (kpc (fun P => by simp only [List.countP_append] <;> omega)) (As := [.int x1]) (rest := []) rfl rfl hl.1 (Nat.le_of_ble_eq_true rfl) dX7_see_2 (k1 := 0) (n1 := 0) rfl rfl ⟨Nat.zero_le _, Nat.zero_le _⟩ (fun H locs hP hD hS => ?_)
    refine lv_iload_n hx hb dX7_see_5 rfl (lv_at hl 2 rfl) ?_
    obtain ⟨k3, hk5, hf⟩ := jn_at hf
    have hJ4 : k3 = some (ek, r, vF1, vT1, vRT1, vG1, vB1, vH1) → ∀ (H : Heap) (locs : List Loc), va_P g.1 vwCl (cF g bF qF0 (bS 0) (bH 0 0) qF3 (bRT 0) vF ++ (cS g bS (bC 0) (bT 0) ++ (cC g bC vC ++ (cT g bT vT ++ (cR g bRT nRT (bG 0) (bB 0) vRT ++ (cL g bG vG ++ (cL g bB vB ++ (cH g bH vH)))))))) H → va_D A (cF g bF qF0 (bS 0) (bH 0 0) qF3 (bRT 0) vF ++ (cS g bS (bC 0) (bT 0) ++ (cC g bC vC ++ (cT g bT vT ++ (cR g bRT nRT (bG 0) (bB 0) vRT ++ (cL g bG vG ++ (cL g bB vB ++ (cH g bH vH)))))))) → va_S A s.heap H locs → ∀ ls : Array Slot, lv_has ls 4 [] → W p l e (headSpec wsX7_see rtX7_see).room s m ([.ref (bF 0), .int x1, .int x2, .int x3] : List Value).toArray below meth c H locs 0 0 (vx_MQ below (nI0 A) (xE g A (cF g bF qF0 (bS 0) (bH 0 0) qF3 (bRT 0) vF1 ++ (cS g bS (bC 0) (bT 0) ++ (cC g bC vC ++ (cT g bT vT1 ++ (cR g bRT nRT (bG 0) (bB 0) vRT1 ++ (cL g bG vG1 ++ (cL g bB vB1 ++ (cH g bH vH1)))))))) (exN ek)) ([.ref (bF 0), .int x1, .int x2, .int x3] : List Value).toArray s 1 6 A) (F0 m 23 ls []) := by
      intro hf H locs hP hD hS ls hl
      rw [hk5] at hf
      clear hk5
      obtain ⟨rfl, rfl, rfl, rfl, rfl, rfl, rfl, rfl⟩ := kp_8 hf
      exact vx_throwSW (own := RX7) (cls := "java/lang/IndexOutOfBoundsException") (text := "output") (names := ["java/lang/RuntimeException", "java/lang/Exception"]) (ic := 269) (sa := adK g 17) (A := A) hx hb hst hown (by decide +kernel) (by decide +kernel) k_3_133 k_1_22 (hG.1.1 ("FaultTests", 267, "output", 17) (List.mem_of_getElem? (i := 7) rfl)) (fun w h => (xw_269 w h).elim (htu w) (hG.1.bad w)) xo_269 hG.2.1.1 hG.2.1.2 hS (hl.1.trans hml.symm) dX7_see_23 dX7_see_26 dX7_see_27 dX7_see_30 dX7_see_33 (fun z hz => (hT z hz).elim) (Nat.le_of_ble_eq_true rfl) (Nat.le_of_ble_eq_true rfl) (Nat.le_refl _) (Nat.le_refl _) hlocks (fun t hv hz hq => ⟨(), trivial, ⟨rfl, hP.kept (fun k q h9 => hq q.1 (k_lt hP h9)), va_K.moved hv hK, hD⟩, ⟨Nat.le_trans hS.1 hz, fun q h1 h2 => (hq q (Nat.lt_of_lt_of_le h1 hS.1)).trans (hS.2.1 q h1 h2)⟩⟩) hS.2.2 (Nat.le_refl _) (Nat.le_refl _)
    refine lv_if_lt (tgt := 23) hx hb dX7_see_6 (by decide) (fun c6 => ?_) (fun c6 => ?_)
    · have hf := it_t hf c6
      exact hJ4 hf H locs hP hD hS _ (lv_sub hl [] rfl)
    · have hf := it_f hf c6
      refine lv_iload_n hx hb dX7_see_9 rfl (lv_at hl 2 rfl) ?_
      refine lv_aload_n hx hb dX7_see_10 rfl (lv_at hl 0 rfl) ?_
      refine va_get (D := g.1) (ci := 7) (fs := fcF bF qF0 (bS 0) (bH 0 0) qF3 (bRT 0) vF) (v := .ref (bS 0)) (C := RX7) (T := TX7) (N := 12) hx hb htu hinX7 hown hK hP 0 rfl rfl 1 (by decide) k_2_19 (fun _ h9 => h9) rfl dX7_see_11 ?_
      refine va_get (D := g.1) (ci := 4) (fs := fcS bS (bC 0) (bT 0)) (v := .ref (bC 0)) (C := RX4) (T := TX4) (N := 2) hx hb htu hinX4 hown hK hP 6 rfl rfl 0 (by decide) k_1_150 (fun _ h9 => h9) rfl dX7_see_14 ?_
      refine va_get (D := g.1) (ci := 0) (fs := fcC bC vC) (v := .int (vC.1 2)) (C := RX0) (T := TX0) (N := 14) hx hb htu hinX0 hown hK hP 7 rfl rfl 2 (by decide) k_1_65 (fun _ h9 => h9) rfl dX7_see_17 ?_
      refine lv_icmp_lt (tgt := 34) hx hb dX7_see_20 (by decide) (fun c7 => ?_) (fun c7 => ?_)
      · have hf := it_t hf c7
        refine lv_iload_n hx hb dX7_see_34 rfl (lv_at hl 3 rfl) ?_
        obtain ⟨k8, hk10, hf⟩ := jn_at hf
        have hJ9 : k8 = some (ek, r, vF1, vT1, vRT1, vG1, vB1, vH1) → ∀ (H : Heap) (locs : List Loc), va_P g.1 vwCl (cF g bF qF0 (bS 0) (bH 0 0) qF3 (bRT 0) vF ++ (cS g bS (bC 0) (bT 0) ++ (cC g bC vC ++ (cT g bT vT ++ (cR g bRT nRT (bG 0) (bB 0) vRT ++ (cL g bG vG ++ (cL g bB vB ++ (cH g bH vH)))))))) H → va_D A (cF g bF qF0 (bS 0) (bH 0 0) qF3 (bRT 0) vF ++ (cS g bS (bC 0) (bT 0) ++ (cC g bC vC ++ (cT g bT vT ++ (cR g bRT nRT (bG 0) (bB 0) vRT ++ (cL g bG vG ++ (cL g bB vB ++ (cH g bH vH)))))))) → va_S A s.heap H locs → ∀ ls : Array Slot, lv_has ls 4 [] → W p l e (headSpec wsX7_see rtX7_see).room s m ([.ref (bF 0), .int x1, .int x2, .int x3] : List Value).toArray below meth c H locs 0 0 (vx_MQ below (nI0 A) (xE g A (cF g bF qF0 (bS 0) (bH 0 0) qF3 (bRT 0) vF1 ++ (cS g bS (bC 0) (bT 0) ++ (cC g bC vC ++ (cT g bT vT1 ++ (cR g bRT nRT (bG 0) (bB 0) vRT1 ++ (cL g bG vG1 ++ (cL g bB vB1 ++ (cH g bH vH1)))))))) (exN ek)) ([.ref (bF 0), .int x1, .int x2, .int x3] : List Value).toArray s 1 6 A) (F0 m 43 ls []) := by
          intro hf H locs hP hD hS ls hl
          rw [hk10] at hf
          clear hk10
          obtain ⟨rfl, rfl, rfl, rfl, rfl, rfl, rfl, rfl⟩ := kp_8 hf
          exact vx_throwSW (own := RX7) (cls := "java/lang/IllegalArgumentException") (text := "value") (names := ["java/lang/RuntimeException", "java/lang/Exception"]) (ic := 77) (sa := adK g 20) (A := A) hx hb hst hown (by decide +kernel) (by decide +kernel) k_3_52 k_1_13 (hG.1.1 ("FaultTests", 270, "value", 20) (List.mem_of_getElem? (i := 8) rfl)) (fun w h => (xw_77 w h).elim (htu w) (hG.1.bad w)) xo_77 hG.2.1.1 hG.2.1.2 hS (hl.1.trans hml.symm) dX7_see_43 dX7_see_46 dX7_see_47 dX7_see_50 dX7_see_53 (fun z hz => (hT z hz).elim) (Nat.le_of_ble_eq_true rfl) (Nat.le_of_ble_eq_true rfl) (Nat.le_refl _) (Nat.le_refl _) hlocks (fun t hv hz hq => ⟨(), trivial, ⟨rfl, hP.kept (fun k q h9 => hq q.1 (k_lt hP h9)), va_K.moved hv hK, hD⟩, ⟨Nat.le_trans hS.1 hz, fun q h1 h2 => (hq q (Nat.lt_of_lt_of_le h1 hS.1)).trans (hS.2.1 q h1 h2)⟩⟩) hS.2.2 (Nat.le_refl _) (Nat.le_refl _)
        refine lv_if_lt (tgt := 43) hx hb dX7_see_35 (by decide) (fun c11 => ?_) (fun c11 => ?_)
        · have hf := it_t hf c11
          exact hJ9 hf H locs hP hD hS _ (lv_sub hl [] rfl)
        · have hf := it_f hf c11
          refine lv_iload_n hx hb dX7_see_38 rfl (lv_at hl 3 rfl) ?_
          refine lv_iconst (v := (2 : Int32)) hx hb dX7_see_39 (by decide) ?_
          refine lv_icmp_le (tgt := 54) hx hb dX7_see_40 (by decide) (fun c12 => ?_) (fun c12 => ?_)
          · have hf := it_t hf c12
            refine lv_aload_n hx hb dX7_see_54 rfl (lv_at hl 0 rfl) ?_
            refine va_get (D := g.1) (ci := 7) (fs := fcF bF qF0 (bS 0) (bH 0 0) qF3 (bRT 0) vF) (v := .ref (bH 0 0)) (C := RX7) (T := TX7) (N := 12) hx hb htu hinX7 hown hK hP 0 rfl rfl 2 (by decide) k_2_20 (fun _ h9 => h9) rfl dX7_see_55 ?_
            refine lv_aload_n hx hb dX7_see_58 rfl (lv_at hl 0 rfl) ?_
            refine va_get (D := g.1) (ci := 7) (fs := fcF bF qF0 (bS 0) (bH 0 0) qF3 (bRT 0) vF) (v := .ref (bS 0)) (C := RX7) (T := TX7) (N := 12) hx hb htu hinX7 hown hK hP 0 rfl rfl 1 (by decide) k_2_19 (fun _ h9 => h9) rfl dX7_see_59 ?_
            obtain ⟨vH_13, hg14, hf⟩ := o1_at hf
            refine k_vvQ ⟨hx, hb, hml, hown, htu⟩ hK hP hD hS hA hG (c_X1_push l g bS bC vC bT vT bH vH vH_13 hg14) (cwV 1 htu (gU_V mw_2_215 hcX1_push) rfl rfl rfl hdX1_push ⟨Nat.le_of_ble_eq_true rfl, Nat.le_of_ble_eq_true rfl⟩) (q0 := 32) (ci := 1) (fs := fcH bH vH) (q := (RX1, TX1, 3)) rfl rfl rfl (wr := (cF g bF qF0 (bS 0) (bH 0 0) qF3 (bRT 0) vF ++ (cR g bRT nRT (bG 0) (bB 0) vRT ++ (cL g bG vG ++ (cL g bB vB))))) (w2 := cF g bF qF0 (bS 0) (bH 0 0) qF3 (bRT 0) vF ++ (cS g bS (bC 0) (bT 0) ++ (cC g bC vC ++ (cT g bT vT ++ (cR g bRT nRT (bG 0) (bB 0) vRT ++ (cL g bG vG ++ (cL g bB vB ++ (cH g bH vH_13)))))))) (kpc (fun P => by simp only [List.countP_append] <;> omega)) (kpc (fun P => by simp only [List.countP_append] <;> omega)) (As := [.ref (bS 0)]) (rest := []) rfl rfl hl.1 (Nat.le_of_ble_eq_true rfl) dX7_see_62 (k1 := 0) (n1 := 0) rfl rfl ⟨Nat.zero_le _, Nat.zero_le _⟩ (fun H locs hP hD hS => ?_)
            refine lv_aload_n hx hb dX7_see_65 rfl (lv_at hl 0 rfl) ?_
            refine va_get (D := g.1) (ci := 7) (fs := fcF bF qF0 (bS 0) (bH 0 0) qF3 (bRT 0) vF) (v := .ref (bS 0)) (C := RX7) (T := TX7) (N := 12) hx hb htu hinX7 hown hK hP 0 rfl rfl 1 (by decide) k_2_19 (fun _ h9 => h9) rfl dX7_see_66 ?_
            refine va_get (D := g.1) (ci := 4) (fs := fcS bS (bC 0) (bT 0)) (v := .ref (bT 0)) (C := RX4) (T := TX4) (N := 2) hx hb htu hinX4 hown hK hP 6 rfl rfl 1 (by decide) k_1_153 (fun _ h9 => h9) rfl dX7_see_69 ?_
            refine lv_iload_n hx hb dX7_see_72 rfl (lv_at hl 1 rfl) ?_
            refine lv_iload_n hx hb dX7_see_73 rfl (lv_at hl 2 rfl) ?_
            refine lv_iload_n hx hb dX7_see_74 rfl (lv_at hl 3 rfl) ?_
            obtain ⟨vT_15, hg16, hf⟩ := o1_at hf
            refine k_vvQ ⟨hx, hb, hml, hown, htu⟩ hK hP hD hS hA hG (c_X6_note l g bT vT x1 x2 x3 vT_15 hg16) (cwV 3 htu (gU_V mw_5_54 hcX6_note) rfl rfl rfl hdX6_note ⟨Nat.le_of_ble_eq_true rfl, Nat.le_of_ble_eq_true rfl⟩) (q0 := 18) (ci := 6) (fs := fcT bT vT) (q := (RX6, TX6, 5)) rfl rfl rfl (wr := (cF g bF qF0 (bS 0) (bH 0 0) qF3 (bRT 0) vF ++ (cS g bS (bC 0) (bT 0) ++ (cC g bC vC ++ (cR g bRT nRT (bG 0) (bB 0) vRT ++ (cL g bG vG ++ (cL g bB vB ++ (cH g bH vH_13)))))))) (w2 := cF g bF qF0 (bS 0) (bH 0 0) qF3 (bRT 0) vF ++ (cS g bS (bC 0) (bT 0) ++ (cC g bC vC ++ (cT g bT vT_15 ++ (cR g bRT nRT (bG 0) (bB 0) vRT ++ (cL g bG vG ++ (cL g bB vB ++ (cH g bH vH_13)))))))) (kpc (fun P => by simp only [List.countP_append] <;> omega)) (kpc (fun P => by simp only [List.countP_append] <;> omega)) (As := [.int x1, .int x2, .int x3]) (rest := []) rfl rfl hl.1 (Nat.le_of_ble_eq_true rfl) dX7_see_75 (k1 := 0) (n1 := 0) rfl rfl ⟨Nat.zero_le _, Nat.zero_le _⟩ (fun H locs hP hD hS => ?_)
            refine lv_aload_n hx hb dX7_see_78 rfl (lv_at hl 0 rfl) ?_
            obtain ⟨r17, vF_18, vRT_19, vG_20, vB_21, hg22, hf⟩ := o5_at hf
            refine k_viQ ⟨hx, hb, hml, hown, htu⟩ hK hP hD hS hA hG (c_X7_listFitting l g bF qF0 (bH 0 0) qF3 vF bS bC vC bT vT_15 bRT nRT vRT bG vG bB vB r17 vF_18 vRT_19 vG_20 vB_21 hg22) (cwV 0 htu (gU_V mw_2_184 hcX7_listFitting) rfl rfl rfl hdX7_listFitting ⟨Nat.le_of_ble_eq_true rfl, Nat.le_of_ble_eq_true rfl⟩) (q0 := 0) (ci := 7) (fs := fcF bF qF0 (bS 0) (bH 0 0) qF3 (bRT 0) vF) (q := (RX7, TX7, 12)) rfl rfl rfl (wr := (cH g bH vH_13)) (w2 := cF g bF qF0 (bS 0) (bH 0 0) qF3 (bRT 0) vF_18 ++ (cS g bS (bC 0) (bT 0) ++ (cC g bC vC ++ (cT g bT vT_15 ++ (cR g bRT nRT (bG 0) (bB 0) vRT_19 ++ (cL g bG vG_20 ++ (cL g bB vB_21 ++ (cH g bH vH_13)))))))) (kpc (fun P => by simp only [List.countP_append] <;> omega)) (kpc (fun P => by simp only [List.countP_append] <;> omega)) (As := []) (rest := []) rfl rfl hl.1 (Nat.le_of_ble_eq_true rfl) dX7_see_79 (k1 := 0) (n1 := 0) rfl rfl ⟨Nat.zero_le _, Nat.zero_le _⟩ (fun H locs hP hD hS => ?_)
            exact absurd (kp_8 hf).1.symm hek
          · have hf := it_f hf c12
            exact hJ9 hf H locs hP hD hS _ (lv_sub hl [] rfl)
      · have hf := it_f hf c7
        exact hJ4 hf H locs hP hD hS _ (lv_sub hl [] rfl)
  rw [hH, hlo] at hW
  exact hW
def f_X7_undo (vF : Vs) (vC : Vs) (vT : Vs) (vH : Hv) : Option (Int32 × Vs × Vs × Vs × Hv) :=
  if (vH.1.1 0) = 0 then some ((-1 : Int32), vF, vC, vT, vH) else o3 (f_X1_pop vC vT vH) (fun (vC_2 : Vs) (vT_3 : Vs) (vH_4 : Hv) => o1 (f_X7_forgetRows vF) (fun (vF_6 : Vs) => some ((vH_4.1.1 0), vF_6, vC_2, vT_3, vH_4)))
abbrev wsX7_undo : List Cond := .code yX7_undo cX7_undo 1 (some .int) :: UW
abbrev rmX7_undo : Room := { frames := 4, cells := 0, slots := 0, locals := 123 }
set_option maxHeartbeats 4000000 in
set_option maxRecDepth 100000 in
theorem c_X7_undo (l : Launch) (g : Gx) (bF : Nat → Nat) (qF0 : Nat) (qF3 : Nat) (qF4 : Nat) (vF : Vs) (bS : Nat → Nat) (bC : Nat → Nat) (vC : Vs) (bT : Nat → Nat) (vT : Vs) (bH : Nat → Nat → Nat) (vH : Hv) (r : Int32) (vF1 : Vs) (vC1 : Vs) (vT1 : Vs) (vH1 : Hv) (hf : f_X7_undo vF vC vT vH = some (r, vF1, vC1, vT1, vH1)) : CtI l yX7_undo wsX7_undo rmX7_undo g [.ref (bF 0)] (cF g bF qF0 (bS 0) (bH 0 0) qF3 qF4 vF ++ (cS g bS (bC 0) (bT 0) ++ (cC g bC vC ++ (cT g bT vT ++ (cH g bH vH))))) (cF g bF qF0 (bS 0) (bH 0 0) qF3 qF4 vF1 ++ (cS g bS (bC 0) (bT 0) ++ (cC g bC vC1 ++ (cT g bT vT1 ++ (cH g bH vH1))))) r 0 0 := by
  unfold CtI
  intro sz
  refine Met.ofW (cc := cX7_undo) (maxL := 1) (ret := (some .int)) (by decide) rfl ?_
  intro p e s m args below meth c s₁ B hml hv
  obtain ⟨rfl, hsz, hP, hK, hD0, hG⟩ := hv
  have hx := B.exec
  have hb := B.bytes
  have hr := B.returns
  have hts := atoms_spec (ws := wsX7_undo) B.pre
  have hown : s.vm.findClass RX7 = some m.cls := findClass_of_methodNamed B.named
  have hlocks := B.notSynchronized
  subst hsz
  have hD := hD0.self (sz := s.heap.size)
  generalize hAe : va_A (cF g bF qF0 (bS 0) (bH 0 0) qF3 qF4 vF ++ (cS g bS (bC 0) (bT 0) ++ (cC g bC vC ++ (cT g bT vT ++ (cH g bH vH))))) s.heap.size = A at hD hG ⊢
  have hA : ∀ q : Nat, s.heap.size ≤ q → A q := fun q h => by rw [← hAe]; exact Or.inr h
  clear hAe hD0
  have hS : va_S A s.heap s.heap [] := va_S.rf
  have hl := lv_entry ([.ref (bF 0)]) (n := 1) (Nat.le_of_ble_eq_true rfl)
  rw [lg_entry_eq]
  generalize (lg_sl ([.ref (bF 0)]) ++ List.replicate (1 - (lg_sl ([.ref (bF 0)])).length) Slot.unset).toArray = ls at hl ⊢
  have hl : lv_has ls 1 [(0, .ref (bF 0))] := hl
  have htu : ∀ w ∈ UW, w.before _ s = true := fun w h => hts w (List.mem_cons_of_mem _ h)
  have k_2_20 := htu _ mw_2_20
  have k_1_206 := htu _ mw_1_206
  have k_2_19 := htu _ mw_2_19
  unfold f_X7_undo at hf
  obtain ⟨H, hH⟩ : ∃ z, z = s.heap := ⟨_, rfl⟩
  obtain ⟨locs, hlo⟩ : ∃ z : List Loc, z = [] := ⟨_, rfl⟩
  have hS : va_S A s.heap H locs := by rw [hH, hlo]; exact hS
  rw [← hH] at hP
  have hW : W p l e (headSpec wsX7_undo rmX7_undo).room s m ([.ref (bF 0)] : List Value).toArray below meth c H locs 0 0 (MQ below (qI g A (cF g bF qF0 (bS 0) (bH 0 0) qF3 qF4 vF1 ++ (cS g bS (bC 0) (bT 0) ++ (cC g bC vC1 ++ (cT g bT vT1 ++ (cH g bH vH1))))) r) ([.ref (bF 0)] : List Value).toArray s 0 0 A) (F0 m 0 ls []) := by
    refine lv_aload_n hx hb dX7_undo_0 rfl (lv_at hl 0 rfl) ?_
    refine va_get (D := g.1) (ci := 7) (fs := fcF bF qF0 (bS 0) (bH 0 0) qF3 qF4 vF) (v := .ref (bH 0 0)) (C := RX7) (T := TX7) (N := 12) hx hb htu hinX7 hown hK hP 0 rfl rfl 2 (by decide) k_2_20 (fun _ h9 => h9) rfl dX7_undo_1 ?_
    refine va_get (D := g.1) (ci := 1) (fs := fcH bH vH) (v := .int (vH.1.1 0)) (C := RX1) (T := TX1) (N := 3) hx hb htu hinX1 hown hK hP 23 rfl rfl 0 (by decide) k_1_206 (fun _ h9 => h9) rfl dX7_undo_4 ?_
    refine lv_if_ne (tgt := 12) hx hb dX7_undo_7 (by decide) (fun c1 => ?_) (fun c1 => ?_)
    · have hf := it_f hf c1
      refine lv_aload_n hx hb dX7_undo_12 rfl (lv_at hl 0 rfl) ?_
      refine va_get (D := g.1) (ci := 7) (fs := fcF bF qF0 (bS 0) (bH 0 0) qF3 qF4 vF) (v := .ref (bH 0 0)) (C := RX7) (T := TX7) (N := 12) hx hb htu hinX7 hown hK hP 0 rfl rfl 2 (by decide) k_2_20 (fun _ h9 => h9) rfl dX7_undo_13 ?_
      refine lv_aload_n hx hb dX7_undo_16 rfl (lv_at hl 0 rfl) ?_
      refine va_get (D := g.1) (ci := 7) (fs := fcF bF qF0 (bS 0) (bH 0 0) qF3 qF4 vF) (v := .ref (bS 0)) (C := RX7) (T := TX7) (N := 12) hx hb htu hinX7 hown hK hP 0 rfl rfl 1 (by decide) k_2_19 (fun _ h9 => h9) rfl dX7_undo_17 ?_
      obtain ⟨vC_2, vT_3, vH_4, hg5, hf⟩ := o3_at hf
      refine k_vvQ ⟨hx, hb, hml, hown, htu⟩ hK hP hD hS hA hG (c_X1_pop l g bS bC vC bT vT bH vH vC_2 vT_3 vH_4 hg5) (cwV 1 htu (gU_V mw_3_30 hcX1_pop) rfl rfl rfl hdX1_pop ⟨Nat.le_of_ble_eq_true rfl, Nat.le_of_ble_eq_true rfl⟩) (q0 := 23) (ci := 1) (fs := fcH bH vH) (q := (RX1, TX1, 3)) rfl rfl rfl (wr := (cF g bF qF0 (bS 0) (bH 0 0) qF3 qF4 vF)) (w2 := cF g bF qF0 (bS 0) (bH 0 0) qF3 qF4 vF ++ (cS g bS (bC 0) (bT 0) ++ (cC g bC vC_2 ++ (cT g bT vT_3 ++ (cH g bH vH_4))))) (kpc (fun P => by simp only [List.countP_append] <;> omega)) (kpc (fun P => by simp only [List.countP_append] <;> omega)) (As := [.ref (bS 0)]) (rest := []) rfl rfl hl.1 (Nat.le_of_ble_eq_true rfl) dX7_undo_20 (k1 := 0) (n1 := 0) rfl rfl ⟨Nat.zero_le _, Nat.zero_le _⟩ (fun H locs hP hD hS => ?_)
      refine lv_aload_n hx hb dX7_undo_23 rfl (lv_at hl 0 rfl) ?_
      obtain ⟨vF_6, hg7, hf⟩ := o1_at hf
      refine k_vvQ ⟨hx, hb, hml, hown, htu⟩ hK hP hD hS hA hG (c_X7_forgetRows l g bF qF0 (bS 0) (bH 0 0) qF3 qF4 vF vF_6 hg7) (cwV 0 htu (gU_V mw_3_34 hcX7_forgetRows) rfl rfl rfl hdX7_forgetRows ⟨Nat.le_of_ble_eq_true rfl, Nat.le_of_ble_eq_true rfl⟩) (q0 := 0) (ci := 7) (fs := fcF bF qF0 (bS 0) (bH 0 0) qF3 qF4 vF) (q := (RX7, TX7, 12)) rfl rfl rfl (wr := (cS g bS (bC 0) (bT 0) ++ (cC g bC vC_2 ++ (cT g bT vT_3 ++ (cH g bH vH_4))))) (w2 := cF g bF qF0 (bS 0) (bH 0 0) qF3 qF4 vF_6 ++ (cS g bS (bC 0) (bT 0) ++ (cC g bC vC_2 ++ (cT g bT vT_3 ++ (cH g bH vH_4))))) (kpc (fun P => by simp only [List.countP_append] <;> omega)) (kpc (fun P => by simp only [List.countP_append] <;> omega)) (As := []) (rest := []) rfl rfl hl.1 (Nat.le_of_ble_eq_true rfl) dX7_undo_24 (k1 := 0) (n1 := 0) rfl rfl ⟨Nat.zero_le _, Nat.zero_le _⟩ (fun H locs hP hD hS => ?_)
      refine lv_aload_n hx hb dX7_undo_27 rfl (lv_at hl 0 rfl) ?_
      refine va_get (D := g.1) (ci := 7) (fs := fcF bF qF0 (bS 0) (bH 0 0) qF3 qF4 vF_6) (v := .ref (bH 0 0)) (C := RX7) (T := TX7) (N := 12) hx hb htu hinX7 hown hK hP 0 rfl rfl 2 (by decide) k_2_20 (fun _ h9 => h9) rfl dX7_undo_28 ?_
      refine va_get (D := g.1) (ci := 1) (fs := fcH bH vH_4) (v := .int (vH_4.1.1 0)) (C := RX1) (T := TX1) (N := 3) hx hb htu hinX1 hown hK hP 23 rfl rfl 0 (by decide) k_1_206 (fun _ h9 => h9) rfl dX7_undo_31 ?_
      obtain ⟨e8, e9, e10, e11, e12⟩ := kp_5 hf
      rw [e9] at hP hD
      rw [e10] at hP hD
      rw [e11] at hP hD
      rw [e12] at hP hD
      exact k_iret hx hb hr hlocks hK hP hD hS e8 dX7_undo_34
    · have hf := it_t hf c1
      refine lv_iconst (v := (-1 : Int32)) hx hb dX7_undo_10 (by decide) ?_
      obtain ⟨e13, e14, e15, e16, e17⟩ := kp_5 hf
      rw [e14] at hP hD
      rw [e15] at hP hD
      rw [e16] at hP hD
      rw [e17] at hP hD
      exact k_iret hx hb hr hlocks hK hP hD hS e13 dX7_undo_11
  rw [hH, hlo] at hW
  exact hW
def f_X7_complete_L29 (vC : Vs) (vH_1 : Hv) (vRT_5 : Vs) (vG_6 : Vs) (vB_7 : Vs) (vF_9 : Vs) (vRF_10 : Vs) (vGF_11 : Vs) (vBF_12 : Vs) (self18 : Int64 → Int32 → Int32 → Vs → Option (Int32 × Vs × Vs × Vs × Vs × Vs × Vs × Vs × Vs × Hv)) (x1_14 : Int64) (x3_15 : Int32) (x4_16 : Int32) (vT_17 : Vs) : Option (Int32 × Vs × Vs × Vs × Vs × Vs × Vs × Vs × Vs × Hv) :=
  jn (bn (sF vF_9 6 (0 : Int32)) (fun (vF_23 : Vs) => some (x3_15, vF_23, vT_17, vRT_5, vG_6, vB_7, vRF_10, vGF_11, vBF_12, vH_1))) (fun k21 => if (16 : Int32) ≤ x4_16 then k21 else if (16 : Int32) ≤ (vT_17.1 0) then k21 else o1 (f_X7_bestFullTest vF_9 vC x1_14) (fun (r37 : Int32) => if 0 ≤ r37 then o1 (f_X6_put vT_17 r37 (0 : Int32)) (fun (vT_40 : Vs) => gd (inb r37 256) (bn ((x1_14 &&& ((vF_9.2.2 11 (r37).toNatClampNeg) ^^^ (-1 : Int64)))) (fun (y43 : Int64) => self18 y43 (x3_15 + (1 : Int32)) (x4_16 + (1 : Int32)) vT_40))) else k21))
def f_X7_complete (vF : Vs) (vC : Vs) (vT : Vs) (nRT : Nat) (vRT : Vs) (vG : Vs) (vB : Vs) (nRF : Nat) (vRF : Vs) (vGF : Vs) (vBF : Vs) (vH : Hv) : Option (Int32 × Vs × Vs × Vs × Vs × Vs × Vs × Vs × Vs × Hv) :=
  o1 (f_X1_push vC vT vH) (fun (vH_1 : Hv) => o5 (f_X7_listFoundByTests vF vC vT nRT vRT vG vB) (fun (r3 : Int64) (vF_4 : Vs) (vRT_5 : Vs) (vG_6 : Vs) (vB_7 : Vs) => o4 (f_X7_listFoundByFull vF_4 vC nRF vRF vGF vBF) (fun (vF_9 : Vs) (vRF_10 : Vs) (vGF_11 : Vs) (vBF_12 : Vs) => lp (f_X7_complete_L29 vC vH_1 vRT_5 vG_6 vB_7 vF_9 vRF_10 vGF_11 vBF_12) (fun _ _ _ _ => none) FU (r3 ^^^ (-1 : Int64)) (0 : Int32) (0 : Int32) vT)))
abbrev wsX7_complete : List Cond := .code yX7_complete cX7_complete 6 (some .int) :: UW
abbrev rmX7_complete : Room := { frames := 5, cells := 0, slots := 0, locals := 126 }
set_option maxHeartbeats 4000000 in
set_option maxRecDepth 100000 in
theorem c_X7_complete (l : Launch) (g : Gx) (bF : Nat → Nat) (qF0 : Nat) (vF : Vs) (bS : Nat → Nat) (bC : Nat → Nat) (vC : Vs) (bT : Nat → Nat) (vT : Vs) (bRT : Nat → Nat) (nRT : Nat) (vRT : Vs) (bG : Nat → Nat) (vG : Vs) (bB : Nat → Nat) (vB : Vs) (bRF : Nat → Nat) (nRF : Nat) (vRF : Vs) (bGF : Nat → Nat) (vGF : Vs) (bBF : Nat → Nat) (vBF : Vs) (bH : Nat → Nat → Nat) (vH : Hv) (r : Int32) (vF1 : Vs) (vT1 : Vs) (vRT1 : Vs) (vG1 : Vs) (vB1 : Vs) (vRF1 : Vs) (vGF1 : Vs) (vBF1 : Vs) (vH1 : Hv) (hf : f_X7_complete vF vC vT nRT vRT vG vB nRF vRF vGF vBF vH = some (r, vF1, vT1, vRT1, vG1, vB1, vRF1, vGF1, vBF1, vH1)) : CtI l yX7_complete wsX7_complete rmX7_complete g [.ref (bF 0)] (cF g bF qF0 (bS 0) (bH 0 0) (bRF 0) (bRT 0) vF ++ (cS g bS (bC 0) (bT 0) ++ (cC g bC vC ++ (cT g bT vT ++ (cR g bRT nRT (bG 0) (bB 0) vRT ++ (cL g bG vG ++ (cL g bB vB ++ (cR g bRF nRF (bGF 0) (bBF 0) vRF ++ (cL g bGF vGF ++ (cL g bBF vBF ++ (cH g bH vH))))))))))) (cF g bF qF0 (bS 0) (bH 0 0) (bRF 0) (bRT 0) vF1 ++ (cS g bS (bC 0) (bT 0) ++ (cC g bC vC ++ (cT g bT vT1 ++ (cR g bRT nRT (bG 0) (bB 0) vRT1 ++ (cL g bG vG1 ++ (cL g bB vB1 ++ (cR g bRF nRF (bGF 0) (bBF 0) vRF1 ++ (cL g bGF vGF1 ++ (cL g bBF vBF1 ++ (cH g bH vH1))))))))))) r 0 0 := by
  unfold CtI
  intro sz
  refine Met.ofW (cc := cX7_complete) (maxL := 6) (ret := (some .int)) (by decide) rfl ?_
  intro p e s m args below meth c s₁ B hml hv
  obtain ⟨rfl, hsz, hP, hK, hD0, hG⟩ := hv
  have hx := B.exec
  have hb := B.bytes
  have hr := B.returns
  have hts := atoms_spec (ws := wsX7_complete) B.pre
  have hown : s.vm.findClass RX7 = some m.cls := findClass_of_methodNamed B.named
  have hlocks := B.notSynchronized
  subst hsz
  have hD := hD0.self (sz := s.heap.size)
  generalize hAe : va_A (cF g bF qF0 (bS 0) (bH 0 0) (bRF 0) (bRT 0) vF ++ (cS g bS (bC 0) (bT 0) ++ (cC g bC vC ++ (cT g bT vT ++ (cR g bRT nRT (bG 0) (bB 0) vRT ++ (cL g bG vG ++ (cL g bB vB ++ (cR g bRF nRF (bGF 0) (bBF 0) vRF ++ (cL g bGF vGF ++ (cL g bBF vBF ++ (cH g bH vH))))))))))) s.heap.size = A at hD hG ⊢
  have hA : ∀ q : Nat, s.heap.size ≤ q → A q := fun q h => by rw [← hAe]; exact Or.inr h
  clear hAe hD0
  have hS : va_S A s.heap s.heap [] := va_S.rf
  have hl := lv_entry ([.ref (bF 0)]) (n := 6) (Nat.le_of_ble_eq_true rfl)
  rw [lg_entry_eq]
  generalize (lg_sl ([.ref (bF 0)]) ++ List.replicate (6 - (lg_sl ([.ref (bF 0)])).length) Slot.unset).toArray = ls at hl ⊢
  have hl : lv_has ls 6 [(0, .ref (bF 0))] := hl
  have htu : ∀ w ∈ UW, w.before _ s = true := fun w h => hts w (List.mem_cons_of_mem _ h)
  have k_2_20 := htu _ mw_2_20
  have k_2_19 := htu _ mw_2_19
  have k_2_179 := htu _ mw_2_179
  have k_2_24 := htu _ mw_2_24
  have k_1_153 := htu _ mw_1_153
  have k_1_129 := htu _ mw_1_129
  have k_2_29 := htu _ mw_2_29
  unfold f_X7_complete at hf
  obtain ⟨H, hH⟩ : ∃ z, z = s.heap := ⟨_, rfl⟩
  obtain ⟨locs, hlo⟩ : ∃ z : List Loc, z = [] := ⟨_, rfl⟩
  have hS : va_S A s.heap H locs := by rw [hH, hlo]; exact hS
  rw [← hH] at hP
  have hW : W p l e (headSpec wsX7_complete rmX7_complete).room s m ([.ref (bF 0)] : List Value).toArray below meth c H locs 0 0 (MQ below (qI g A (cF g bF qF0 (bS 0) (bH 0 0) (bRF 0) (bRT 0) vF1 ++ (cS g bS (bC 0) (bT 0) ++ (cC g bC vC ++ (cT g bT vT1 ++ (cR g bRT nRT (bG 0) (bB 0) vRT1 ++ (cL g bG vG1 ++ (cL g bB vB1 ++ (cR g bRF nRF (bGF 0) (bBF 0) vRF1 ++ (cL g bGF vGF1 ++ (cL g bBF vBF1 ++ (cH g bH vH1))))))))))) r) ([.ref (bF 0)] : List Value).toArray s 0 0 A) (F0 m 0 ls []) := by
    refine lv_aload_n hx hb dX7_complete_0 rfl (lv_at hl 0 rfl) ?_
    refine va_get (D := g.1) (ci := 7) (fs := fcF bF qF0 (bS 0) (bH 0 0) (bRF 0) (bRT 0) vF) (v := .ref (bH 0 0)) (C := RX7) (T := TX7) (N := 12) hx hb htu hinX7 hown hK hP 0 rfl rfl 2 (by decide) k_2_20 (fun _ h9 => h9) rfl dX7_complete_1 ?_
    refine lv_aload_n hx hb dX7_complete_4 rfl (lv_at hl 0 rfl) ?_
    refine va_get (D := g.1) (ci := 7) (fs := fcF bF qF0 (bS 0) (bH 0 0) (bRF 0) (bRT 0) vF) (v := .ref (bS 0)) (C := RX7) (T := TX7) (N := 12) hx hb htu hinX7 hown hK hP 0 rfl rfl 1 (by decide) k_2_19 (fun _ h9 => h9) rfl dX7_complete_5 ?_
    obtain ⟨vH_1, hg2, hf⟩ := o1_at hf
    refine k_vvQ ⟨hx, hb, hml, hown, htu⟩ hK hP hD hS hA hG (c_X1_push l g bS bC vC bT vT bH vH vH_1 hg2) (cwV 1 htu (gU_V mw_2_215 hcX1_push) rfl rfl rfl hdX1_push ⟨Nat.le_of_ble_eq_true rfl, Nat.le_of_ble_eq_true rfl⟩) (q0 := 41) (ci := 1) (fs := fcH bH vH) (q := (RX1, TX1, 3)) rfl rfl rfl (wr := (cF g bF qF0 (bS 0) (bH 0 0) (bRF 0) (bRT 0) vF ++ (cR g bRT nRT (bG 0) (bB 0) vRT ++ (cL g bG vG ++ (cL g bB vB ++ (cR g bRF nRF (bGF 0) (bBF 0) vRF ++ (cL g bGF vGF ++ (cL g bBF vBF)))))))) (w2 := cF g bF qF0 (bS 0) (bH 0 0) (bRF 0) (bRT 0) vF ++ (cS g bS (bC 0) (bT 0) ++ (cC g bC vC ++ (cT g bT vT ++ (cR g bRT nRT (bG 0) (bB 0) vRT ++ (cL g bG vG ++ (cL g bB vB ++ (cR g bRF nRF (bGF 0) (bBF 0) vRF ++ (cL g bGF vGF ++ (cL g bBF vBF ++ (cH g bH vH_1))))))))))) (kpc (fun P => by simp only [List.countP_append] <;> omega)) (kpc (fun P => by simp only [List.countP_append] <;> omega)) (As := [.ref (bS 0)]) (rest := []) rfl rfl hl.1 (Nat.le_of_ble_eq_true rfl) dX7_complete_8 (k1 := 0) (n1 := 0) rfl rfl ⟨Nat.zero_le _, Nat.zero_le _⟩ (fun H locs hP hD hS => ?_)
    refine lv_aload_n hx hb dX7_complete_11 rfl (lv_at hl 0 rfl) ?_
    obtain ⟨r3, vF_4, vRT_5, vG_6, vB_7, hg8, hf⟩ := o5_at hf
    refine k_vlQ ⟨hx, hb, hml, hown, htu⟩ hK hP hD hS hA hG (c_X7_listFoundByTests l g bF qF0 (bH 0 0) (bRF 0) vF bS bC vC bT vT bRT nRT vRT bG vG bB vB r3 vF_4 vRT_5 vG_6 vB_7 hg8) (cwV 0 htu (gU_V mw_2_153 hcX7_listFoundByTests) rfl rfl rfl hdX7_listFoundByTests ⟨Nat.le_of_ble_eq_true rfl, Nat.le_of_ble_eq_true rfl⟩) (q0 := 0) (ci := 7) (fs := fcF bF qF0 (bS 0) (bH 0 0) (bRF 0) (bRT 0) vF) (q := (RX7, TX7, 12)) rfl rfl rfl (wr := (cR g bRF nRF (bGF 0) (bBF 0) vRF ++ (cL g bGF vGF ++ (cL g bBF vBF ++ (cH g bH vH_1))))) (w2 := cF g bF qF0 (bS 0) (bH 0 0) (bRF 0) (bRT 0) vF_4 ++ (cS g bS (bC 0) (bT 0) ++ (cC g bC vC ++ (cT g bT vT ++ (cR g bRT nRT (bG 0) (bB 0) vRT_5 ++ (cL g bG vG_6 ++ (cL g bB vB_7 ++ (cR g bRF nRF (bGF 0) (bBF 0) vRF ++ (cL g bGF vGF ++ (cL g bBF vBF ++ (cH g bH vH_1))))))))))) (kpc (fun P => by simp only [List.countP_append] <;> omega)) (kpc (fun P => by simp only [List.countP_append] <;> omega)) (As := []) (rest := []) rfl rfl hl.1 (Nat.le_of_ble_eq_true rfl) dX7_complete_12 (k1 := 0) (n1 := 0) rfl rfl ⟨Nat.zero_le _, Nat.zero_le _⟩ (fun H locs hP hD hS => ?_)
    refine lv_ldc2 (v := (-1 : Int64)) hx hb hown k_2_179 dX7_complete_15 ?_
    refine lv_lxor hx hb dX7_complete_18 ?_
    refine lv_lstore_n (lv' := [(1, .long (r3 ^^^ (-1 : Int64))), (0, .ref (bF 0))]) hx hb dX7_complete_19 rfl hl (by decide) rfl (fun ls hl => ?_)
    refine lv_aload_n hx hb dX7_complete_20 rfl (lv_at hl 1 rfl) ?_
    obtain ⟨vF_9, vRF_10, vGF_11, vBF_12, hg13, hf⟩ := o4_at hf
    refine k_vvQ ⟨hx, hb, hml, hown, htu⟩ hK hP hD hS hA hG (c_X7_listFoundByFull l g bF qF0 (bH 0 0) (bRT 0) vF_4 bS (bT 0) bC vC bRF nRF vRF bGF vGF bBF vBF vF_9 vRF_10 vGF_11 vBF_12 hg13) (cwV 0 htu (gU_V mw_3_14 hcX7_listFoundByFull) rfl rfl rfl hdX7_listFoundByFull ⟨Nat.le_of_ble_eq_true rfl, Nat.le_of_ble_eq_true rfl⟩) (q0 := 0) (ci := 7) (fs := fcF bF qF0 (bS 0) (bH 0 0) (bRF 0) (bRT 0) vF_4) (q := (RX7, TX7, 12)) rfl rfl rfl (wr := (cT g bT vT ++ (cR g bRT nRT (bG 0) (bB 0) vRT_5 ++ (cL g bG vG_6 ++ (cL g bB vB_7 ++ (cH g bH vH_1)))))) (w2 := cF g bF qF0 (bS 0) (bH 0 0) (bRF 0) (bRT 0) vF_9 ++ (cS g bS (bC 0) (bT 0) ++ (cC g bC vC ++ (cT g bT vT ++ (cR g bRT nRT (bG 0) (bB 0) vRT_5 ++ (cL g bG vG_6 ++ (cL g bB vB_7 ++ (cR g bRF nRF (bGF 0) (bBF 0) vRF_10 ++ (cL g bGF vGF_11 ++ (cL g bBF vBF_12 ++ (cH g bH vH_1))))))))))) (kpc (fun P => by simp only [List.countP_append] <;> omega)) (kpc (fun P => by simp only [List.countP_append] <;> omega)) (As := []) (rest := []) rfl rfl hl.1 (Nat.le_of_ble_eq_true rfl) dX7_complete_21 (k1 := 0) (n1 := 0) rfl rfl ⟨Nat.zero_le _, Nat.zero_le _⟩ (fun H locs hP hD hS => ?_)
    refine lv_iconst (v := (0 : Int32)) hx hb dX7_complete_24 (by decide) ?_
    refine lv_istore_n (lv' := [(3, .int (0 : Int32)), (1, .long (r3 ^^^ (-1 : Int64))), (0, .ref (bF 0))]) hx hb dX7_complete_25 rfl hl (by decide) rfl (fun ls hl => ?_)
    refine lv_iconst (v := (0 : Int32)) hx hb dX7_complete_26 (by decide) ?_
    refine lv_istore (lv' := [(4, .int (0 : Int32)), (3, .int (0 : Int32)), (1, .long (r3 ^^^ (-1 : Int64))), (0, .ref (bF 0))]) hx hb dX7_complete_27 hl (by decide) rfl (fun ls hl => ?_)
    have hL19 : ∀ (x1_14 : Int64) (x3_15 : Int32) (x4_16 : Int32) (vT_17 : Vs), lp (f_X7_complete_L29 vC vH_1 vRT_5 vG_6 vB_7 vF_9 vRF_10 vGF_11 vBF_12) (fun _ _ _ _ => none) FU x1_14 x3_15 x4_16 vT_17 = some (r, vF1, vT1, vRT1, vG1, vB1, vRF1, vGF1, vBF1, vH1) → ∀ (H : Heap) (locs : List Loc), va_P g.1 vwCl (cF g bF qF0 (bS 0) (bH 0 0) (bRF 0) (bRT 0) vF_9 ++ (cS g bS (bC 0) (bT 0) ++ (cC g bC vC ++ (cT g bT vT_17 ++ (cR g bRT nRT (bG 0) (bB 0) vRT_5 ++ (cL g bG vG_6 ++ (cL g bB vB_7 ++ (cR g bRF nRF (bGF 0) (bBF 0) vRF_10 ++ (cL g bGF vGF_11 ++ (cL g bBF vBF_12 ++ (cH g bH vH_1))))))))))) H → va_D A (cF g bF qF0 (bS 0) (bH 0 0) (bRF 0) (bRT 0) vF_9 ++ (cS g bS (bC 0) (bT 0) ++ (cC g bC vC ++ (cT g bT vT_17 ++ (cR g bRT nRT (bG 0) (bB 0) vRT_5 ++ (cL g bG vG_6 ++ (cL g bB vB_7 ++ (cR g bRF nRF (bGF 0) (bBF 0) vRF_10 ++ (cL g bGF vGF_11 ++ (cL g bBF vBF_12 ++ (cH g bH vH_1))))))))))) → va_S A s.heap H locs → ∀ ls : Array Slot, lv_has ls 6 [(0, .ref (bF 0)), (1, .long x1_14), (3, .int x3_15), (4, .int x4_16)] → W p l e (headSpec wsX7_complete rmX7_complete).room s m ([.ref (bF 0)] : List Value).toArray below meth c H locs 0 0 (MQ below (qI g A (cF g bF qF0 (bS 0) (bH 0 0) (bRF 0) (bRT 0) vF1 ++ (cS g bS (bC 0) (bT 0) ++ (cC g bC vC ++ (cT g bT vT1 ++ (cR g bRT nRT (bG 0) (bB 0) vRT1 ++ (cL g bG vG1 ++ (cL g bB vB1 ++ (cR g bRF nRF (bGF 0) (bBF 0) vRF1 ++ (cL g bGF vGF1 ++ (cL g bBF vBF1 ++ (cH g bH vH1))))))))))) r) ([.ref (bF 0)] : List Value).toArray s 0 0 A) (F0 m 29 ls []) := by
      refine lp_ind (T := Int64 → Int32 → Int32 → Vs → Option (Int32 × Vs × Vs × Vs × Vs × Vs × Vs × Vs × Vs × Hv)) (fun self18 => ∀ (x1_14 : Int64) (x3_15 : Int32) (x4_16 : Int32) (vT_17 : Vs), self18 x1_14 x3_15 x4_16 vT_17 = some (r, vF1, vT1, vRT1, vG1, vB1, vRF1, vGF1, vBF1, vH1) → ∀ (H : Heap) (locs : List Loc), va_P g.1 vwCl (cF g bF qF0 (bS 0) (bH 0 0) (bRF 0) (bRT 0) vF_9 ++ (cS g bS (bC 0) (bT 0) ++ (cC g bC vC ++ (cT g bT vT_17 ++ (cR g bRT nRT (bG 0) (bB 0) vRT_5 ++ (cL g bG vG_6 ++ (cL g bB vB_7 ++ (cR g bRF nRF (bGF 0) (bBF 0) vRF_10 ++ (cL g bGF vGF_11 ++ (cL g bBF vBF_12 ++ (cH g bH vH_1))))))))))) H → va_D A (cF g bF qF0 (bS 0) (bH 0 0) (bRF 0) (bRT 0) vF_9 ++ (cS g bS (bC 0) (bT 0) ++ (cC g bC vC ++ (cT g bT vT_17 ++ (cR g bRT nRT (bG 0) (bB 0) vRT_5 ++ (cL g bG vG_6 ++ (cL g bB vB_7 ++ (cR g bRF nRF (bGF 0) (bBF 0) vRF_10 ++ (cL g bGF vGF_11 ++ (cL g bBF vBF_12 ++ (cH g bH vH_1))))))))))) → va_S A s.heap H locs → ∀ ls : Array Slot, lv_has ls 6 [(0, .ref (bF 0)), (1, .long x1_14), (3, .int x3_15), (4, .int x4_16)] → W p l e (headSpec wsX7_complete rmX7_complete).room s m ([.ref (bF 0)] : List Value).toArray below meth c H locs 0 0 (MQ below (qI g A (cF g bF qF0 (bS 0) (bH 0 0) (bRF 0) (bRT 0) vF1 ++ (cS g bS (bC 0) (bT 0) ++ (cC g bC vC ++ (cT g bT vT1 ++ (cR g bRT nRT (bG 0) (bB 0) vRT1 ++ (cL g bG vG1 ++ (cL g bB vB1 ++ (cR g bRF nRF (bGF 0) (bBF 0) vRF1 ++ (cL g bGF vGF1 ++ (cL g bBF vBF1 ++ (cH g bH vH1))))))))))) r) ([.ref (bF 0)] : List Value).toArray s 0 0 A) (F0 m 29 ls [])) ?_ ?_ FU
      · intro x1_14 x3_15 x4_16 vT_17 hf; cases hf
      · intro self18 ih20 x1_14 x3_15 x4_16 vT_17 hf H locs hP hD hS ls hl
        unfold f_X7_complete_L29 at hf
        refine lv_iload hx hb dX7_complete_29 (lv_at hl 3 rfl) ?_
        refine lv_bipush (v := (16 : Int32)) hx hb dX7_complete_31 (by decide) ?_
        obtain ⟨k21, hk34, hf⟩ := jn_at hf
        have hJ22 : k21 = some (r, vF1, vT1, vRT1, vG1, vB1, vRF1, vGF1, vBF1, vH1) → ∀ (H : Heap) (locs : List Loc), va_P g.1 vwCl (cF g bF qF0 (bS 0) (bH 0 0) (bRF 0) (bRT 0) vF_9 ++ (cS g bS (bC 0) (bT 0) ++ (cC g bC vC ++ (cT g bT vT_17 ++ (cR g bRT nRT (bG 0) (bB 0) vRT_5 ++ (cL g bG vG_6 ++ (cL g bB vB_7 ++ (cR g bRF nRF (bGF 0) (bBF 0) vRF_10 ++ (cL g bGF vGF_11 ++ (cL g bBF vBF_12 ++ (cH g bH vH_1))))))))))) H → va_D A (cF g bF qF0 (bS 0) (bH 0 0) (bRF 0) (bRT 0) vF_9 ++ (cS g bS (bC 0) (bT 0) ++ (cC g bC vC ++ (cT g bT vT_17 ++ (cR g bRT nRT (bG 0) (bB 0) vRT_5 ++ (cL g bG vG_6 ++ (cL g bB vB_7 ++ (cR g bRF nRF (bGF 0) (bBF 0) vRF_10 ++ (cL g bGF vGF_11 ++ (cL g bBF vBF_12 ++ (cH g bH vH_1))))))))))) → va_S A s.heap H locs → ∀ ls : Array Slot, lv_has ls 6 [(0, .ref (bF 0)), (3, .int x3_15)] → W p l e (headSpec wsX7_complete rmX7_complete).room s m ([.ref (bF 0)] : List Value).toArray below meth c H locs 0 0 (MQ below (qI g A (cF g bF qF0 (bS 0) (bH 0 0) (bRF 0) (bRT 0) vF1 ++ (cS g bS (bC 0) (bT 0) ++ (cC g bC vC ++ (cT g bT vT1 ++ (cR g bRT nRT (bG 0) (bB 0) vRT1 ++ (cL g bG vG1 ++ (cL g bB vB1 ++ (cR g bRF nRF (bGF 0) (bBF 0) vRF1 ++ (cL g bGF vGF1 ++ (cL g bBF vBF1 ++ (cH g bH vH1))))))))))) r) ([.ref (bF 0)] : List Value).toArray s 0 0 A) (F0 m 102 ls []) := by
          intro hf H locs hP hD hS ls hl
          rw [hk34] at hf
          clear hk34
          refine lv_aload_n hx hb dX7_complete_102 rfl (lv_at hl 0 rfl) ?_
          refine lv_iconst (v := (0 : Int32)) hx hb dX7_complete_103 (by decide) ?_
          refine va_put (D := g.1) (ci := 7) (fs := fcF bF qF0 (bS 0) (bH 0 0) (bRF 0) (bRT 0) vF_9) (v := .int (0 : Int32)) (ty := .boolean) (C := RX7) (T := TX7) (N := 12) hx hb htu hinX7 tyX7 tyX7_ok nmX7 hown hK hP hD hS 0 rfl rfl 6 (by decide) k_2_24 (fun _ h9 => h9) rfl (by decide +kernel) rfl rfl (Nat.le_of_ble_eq_true rfl) dX7_complete_104 (fun H locs hP hD hS => ?_)
          obtain ⟨vF_23, evF_23⟩ : ∃ z, z = sF vF_9 6 (0 : Int32) := ⟨_, rfl⟩
          have hf := bn_at hf evF_23
          have hP : va_P g.1 vwCl (cF g bF qF0 (bS 0) (bH 0 0) (bRF 0) (bRT 0) vF_23 ++ (cS g bS (bC 0) (bT 0) ++ (cC g bC vC ++ (cT g bT vT_17 ++ (cR g bRT nRT (bG 0) (bB 0) vRT_5 ++ (cL g bG vG_6 ++ (cL g bB vB_7 ++ (cR g bRF nRF (bGF 0) (bBF 0) vRF_10 ++ (cL g bGF vGF_11 ++ (cL g bBF vBF_12 ++ (cH g bH vH_1))))))))))) H := by rw [evF_23]; exact hP
          have hD : va_D A (cF g bF qF0 (bS 0) (bH 0 0) (bRF 0) (bRT 0) vF_23 ++ (cS g bS (bC 0) (bT 0) ++ (cC g bC vC ++ (cT g bT vT_17 ++ (cR g bRT nRT (bG 0) (bB 0) vRT_5 ++ (cL g bG vG_6 ++ (cL g bB vB_7 ++ (cR g bRF nRF (bGF 0) (bBF 0) vRF_10 ++ (cL g bGF vGF_11 ++ (cL g bBF vBF_12 ++ (cH g bH vH_1))))))))))) := by rw [evF_23]; exact hD
          refine lv_iload_n hx hb dX7_complete_107 rfl (lv_at hl 1 rfl) ?_
          obtain ⟨e24, e25, e26, e27, e28, e29, e30, e31, e32, e33⟩ := kp_10 hf
          rw [e25] at hP hD
          rw [e26] at hP hD
          rw [e27] at hP hD
          rw [e28] at hP hD
          rw [e29] at hP hD
          rw [e30] at hP hD
          rw [e31] at hP hD
          rw [e32] at hP hD
          rw [e33] at hP hD
          exact k_iret hx hb hr hlocks hK hP hD hS e24 dX7_complete_108
        refine lv_icmp_ge (tgt := 102) hx hb dX7_complete_33 (by decide) (fun c35 => ?_) (fun c35 => ?_)
        · have hf := it_t hf c35
          exact hJ22 hf H locs hP hD hS _ (lv_sub hl [0, 2] rfl)
        · have hf := it_f hf c35
          refine lv_aload_n hx hb dX7_complete_36 rfl (lv_at hl 0 rfl) ?_
          refine va_get (D := g.1) (ci := 7) (fs := fcF bF qF0 (bS 0) (bH 0 0) (bRF 0) (bRT 0) vF_9) (v := .ref (bS 0)) (C := RX7) (T := TX7) (N := 12) hx hb htu hinX7 hown hK hP 0 rfl rfl 1 (by decide) k_2_19 (fun _ h9 => h9) rfl dX7_complete_37 ?_
          refine va_get (D := g.1) (ci := 4) (fs := fcS bS (bC 0) (bT 0)) (v := .ref (bT 0)) (C := RX4) (T := TX4) (N := 2) hx hb htu hinX4 hown hK hP 6 rfl rfl 1 (by decide) k_1_153 (fun _ h9 => h9) rfl dX7_complete_40 ?_
          refine va_get (D := g.1) (ci := 6) (fs := fcT bT vT_17) (v := .int (vT_17.1 0)) (C := RX6) (T := TX6) (N := 5) hx hb htu hinX6 hown hK hP 18 rfl rfl 0 (by decide) k_1_129 (fun _ h9 => h9) rfl dX7_complete_43 ?_
          refine lv_bipush (v := (16 : Int32)) hx hb dX7_complete_46 (by decide) ?_
          refine lv_icmp_ge (tgt := 102) hx hb dX7_complete_48 (by decide) (fun c36 => ?_) (fun c36 => ?_)
          · have hf := it_t hf c36
            exact hJ22 hf H locs hP hD hS _ (lv_sub hl [0, 2] rfl)
          · have hf := it_f hf c36
            refine lv_aload_n hx hb dX7_complete_51 rfl (lv_at hl 0 rfl) ?_
            refine lv_lload_n hx hb dX7_complete_52 rfl (lv_at hl 1 rfl) ?_
            obtain ⟨r37, hg38, hf⟩ := o1_at hf
            refine k_viQ ⟨hx, hb, hml, hown, htu⟩ hK hP hD hS hA hG (c_X7_bestFullTest l g bF qF0 (bH 0 0) (bRF 0) (bRT 0) vF_9 bS (bT 0) bC vC x1_14 r37 hg38) (cwV 1 htu (gU_V mw_3_18 hcX7_bestFullTest) rfl rfl rfl hdX7_bestFullTest ⟨Nat.le_of_ble_eq_true rfl, Nat.le_of_ble_eq_true rfl⟩) (q0 := 0) (ci := 7) (fs := fcF bF qF0 (bS 0) (bH 0 0) (bRF 0) (bRT 0) vF_9) (q := (RX7, TX7, 12)) rfl rfl rfl (wr := (cT g bT vT_17 ++ (cR g bRT nRT (bG 0) (bB 0) vRT_5 ++ (cL g bG vG_6 ++ (cL g bB vB_7 ++ (cR g bRF nRF (bGF 0) (bBF 0) vRF_10 ++ (cL g bGF vGF_11 ++ (cL g bBF vBF_12 ++ (cH g bH vH_1))))))))) (w2 := cF g bF qF0 (bS 0) (bH 0 0) (bRF 0) (bRT 0) vF_9 ++ (cS g bS (bC 0) (bT 0) ++ (cC g bC vC ++ (cT g bT vT_17 ++ (cR g bRT nRT (bG 0) (bB 0) vRT_5 ++ (cL g bG vG_6 ++ (cL g bB vB_7 ++ (cR g bRF nRF (bGF 0) (bBF 0) vRF_10 ++ (cL g bGF vGF_11 ++ (cL g bBF vBF_12 ++ (cH g bH vH_1))))))))))) (kpc (fun P => by simp only [List.countP_append] <;> omega)) (kpc (fun P => by simp only [List.countP_append] <;> omega)) (As := [.long x1_14]) (rest := []) rfl rfl hl.1 (Nat.le_of_ble_eq_true rfl) dX7_complete_53 (k1 := 0) (n1 := 0) rfl rfl ⟨Nat.zero_le _, Nat.zero_le _⟩ (fun H locs hP hD hS => ?_)
            refine lv_istore (lv' := [(5, .int r37), (0, .ref (bF 0)), (1, .long x1_14), (3, .int x3_15), (4, .int x4_16)]) hx hb dX7_complete_56 hl (by decide) rfl (fun ls hl => ?_)
            refine lv_iload hx hb dX7_complete_58 (lv_at hl 0 rfl) ?_
            refine lv_if_ge (tgt := 66) hx hb dX7_complete_60 (by decide) (fun c39 => ?_) (fun c39 => ?_)
            · have hf := it_t hf c39
              refine lv_aload_n hx hb dX7_complete_66 rfl (lv_at hl 1 rfl) ?_
              refine va_get (D := g.1) (ci := 7) (fs := fcF bF qF0 (bS 0) (bH 0 0) (bRF 0) (bRT 0) vF_9) (v := .ref (bS 0)) (C := RX7) (T := TX7) (N := 12) hx hb htu hinX7 hown hK hP 0 rfl rfl 1 (by decide) k_2_19 (fun _ h9 => h9) rfl dX7_complete_67 ?_
              refine va_get (D := g.1) (ci := 4) (fs := fcS bS (bC 0) (bT 0)) (v := .ref (bT 0)) (C := RX4) (T := TX4) (N := 2) hx hb htu hinX4 hown hK hP 6 rfl rfl 1 (by decide) k_1_153 (fun _ h9 => h9) rfl dX7_complete_70 ?_
              refine lv_iload hx hb dX7_complete_73 (lv_at hl 0 rfl) ?_
              refine lv_iconst (v := (0 : Int32)) hx hb dX7_complete_75 (by decide) ?_
              obtain ⟨vT_40, hg41, hf⟩ := o1_at hf
              refine k_vvQ ⟨hx, hb, hml, hown, htu⟩ hK hP hD hS hA hG (c_X6_put l g bT vT_17 r37 (0 : Int32) vT_40 hg41) (cwV 2 htu (gU_V mw_3_22 hcX6_put) rfl rfl rfl hdX6_put ⟨Nat.le_of_ble_eq_true rfl, Nat.le_of_ble_eq_true rfl⟩) (q0 := 18) (ci := 6) (fs := fcT bT vT_17) (q := (RX6, TX6, 5)) rfl rfl rfl (wr := (cF g bF qF0 (bS 0) (bH 0 0) (bRF 0) (bRT 0) vF_9 ++ (cS g bS (bC 0) (bT 0) ++ (cC g bC vC ++ (cR g bRT nRT (bG 0) (bB 0) vRT_5 ++ (cL g bG vG_6 ++ (cL g bB vB_7 ++ (cR g bRF nRF (bGF 0) (bBF 0) vRF_10 ++ (cL g bGF vGF_11 ++ (cL g bBF vBF_12 ++ (cH g bH vH_1))))))))))) (w2 := cF g bF qF0 (bS 0) (bH 0 0) (bRF 0) (bRT 0) vF_9 ++ (cS g bS (bC 0) (bT 0) ++ (cC g bC vC ++ (cT g bT vT_40 ++ (cR g bRT nRT (bG 0) (bB 0) vRT_5 ++ (cL g bG vG_6 ++ (cL g bB vB_7 ++ (cR g bRF nRF (bGF 0) (bBF 0) vRF_10 ++ (cL g bGF vGF_11 ++ (cL g bBF vBF_12 ++ (cH g bH vH_1))))))))))) (kpc (fun P => by simp only [List.countP_append] <;> omega)) (kpc (fun P => by simp only [List.countP_append] <;> omega)) (As := [.int r37, .int (0 : Int32)]) (rest := []) rfl rfl hl.1 (Nat.le_of_ble_eq_true rfl) dX7_complete_76 (k1 := 0) (n1 := 0) rfl rfl ⟨Nat.zero_le _, Nat.zero_le _⟩ (fun H locs hP hD hS => ?_)
              refine lv_lload_n hx hb dX7_complete_79 rfl (lv_at hl 2 rfl) ?_
              refine lv_aload_n hx hb dX7_complete_80 rfl (lv_at hl 1 rfl) ?_
              refine va_get (D := g.1) (ci := 7) (fs := fcF bF qF0 (bS 0) (bH 0 0) (bRF 0) (bRT 0) vF_9) (v := .ref (bF 12)) (C := RX7) (T := TX7) (N := 12) hx hb htu hinX7 hown hK hP 0 rfl rfl 11 (by decide) k_2_29 (fun _ h9 => h9) rfl dX7_complete_81 ?_
              refine lv_iload hx hb dX7_complete_84 (lv_at hl 0 rfl) ?_
              obtain ⟨h42, hf⟩ := gd_in hf
              refine va_lald (D := g.1) (f := (vF_9.2.2 11)) hx hb hK hP 5 1 rfl rfl h42 dX7_complete_86 ?_
              refine lv_ldc2 (v := (-1 : Int64)) hx hb hown k_2_179 dX7_complete_87 ?_
              refine lv_lxor hx hb dX7_complete_90 ?_
              refine lv_land hx hb dX7_complete_91 ?_
              refine lv_topl (fun y43 ey43 => ?_)
              have hf := bn_at hf ey43
              refine lv_lstore_n (lv' := [(1, .long y43), (5, .int r37), (0, .ref (bF 0)), (3, .int x3_15), (4, .int x4_16)]) hx hb dX7_complete_92 rfl hl (by decide) rfl (fun ls hl => ?_)
              refine lv_iinc (v := (x3_15 + (1 : Int32))) (lv' := [(3, .int (x3_15 + (1 : Int32))), (1, .long y43), (5, .int r37), (0, .ref (bF 0)), (4, .int x4_16)]) hx hb dX7_complete_93 hl (k := 3) rfl rfl (by decide) rfl (fun ls hl => ?_)
              refine lv_iinc (v := (x4_16 + (1 : Int32))) (lv' := [(4, .int (x4_16 + (1 : Int32))), (3, .int (x3_15 + (1 : Int32))), (1, .long y43), (5, .int r37), (0, .ref (bF 0))]) hx hb dX7_complete_96 hl (k := 4) rfl rfl (by decide) rfl (fun ls hl => ?_)
              refine lv_goto (tgt := 29) hx hb dX7_complete_99 (by decide) ?_
              exact ih20 y43 (x3_15 + (1 : Int32)) (x4_16 + (1 : Int32)) vT_40 hf H locs hP hD hS _ (lv_sub hl [4, 2, 1, 0] rfl)
            · have hf := it_f hf c39
              refine lv_goto (tgt := 102) hx hb dX7_complete_63 (by decide) ?_
              exact hJ22 hf H locs hP hD hS _ (lv_sub hl [1, 3] rfl)
    exact hL19 (r3 ^^^ (-1 : Int64)) (0 : Int32) (0 : Int32) vT hf H locs hP hD hS _ (lv_sub hl [3, 2, 1, 0] rfl)
  rw [hH, hlo] at hW
  exact hW
def f_X7_load (vF : Vs) (vC : Vs) (vT : Vs) (vD : Vs) (vE : Vs) (vU : Vs) (vH : Hv) (x1 : Int32) : Option (Nat × Int32 × Vs × Vs × Vs × Vs × Vs × Vs × Hv) :=
  jn (some (1, (0 : Int32), vF, vC, vT, vD, vE, vU, vH)) (fun k1 => if x1 < 0 then k1 else if x1 ≤ (vD.1 1) then o4 (f_X5_read vD vE vU x1) (fun (r6 : Int32) (vD_7 : Vs) (vE_8 : Vs) (vU_9 : Vs) => if r6 = 0 then o1 (f_X1_push vC vT vH) (fun (vH_12 : Hv) => o2 (f_X4_copyFrom vC vT vE_8 vU_9) (fun (vC_14 : Vs) (vT_15 : Vs) => o1 (f_X7_forgetRows vF) (fun (vF_17 : Vs) => some (0, (vC_14.1 1), vF_17, vC_14, vT_15, vD_7, vE_8, vU_9, vH_12)))) else some (0, r6, vF, vC, vT, vD_7, vE_8, vU_9, vH)) else k1)
abbrev wsX7_load : List Cond := .code yX7_load cX7_load 3 (some .int) :: UW
abbrev rmX7_load : Room := { frames := 9, cells := 0, slots := 0, locals := 194 }
set_option maxHeartbeats 4000000 in
set_option maxRecDepth 100000 in
theorem c_X7_load (l : Launch) (g : Gx) (bF : Nat → Nat) (qF3 : Nat) (qF4 : Nat) (vF : Vs) (bS : Nat → Nat) (bC : Nat → Nat) (vC : Vs) (bT : Nat → Nat) (vT : Vs) (bD : Nat → Nat) (vD : Vs) (bS2 : Nat → Nat) (bE : Nat → Nat) (vE : Vs) (bU : Nat → Nat) (vU : Vs) (bH : Nat → Nat → Nat) (vH : Hv) (x1 : Int32) (r : Int32) (vF1 : Vs) (vC1 : Vs) (vT1 : Vs) (vD1 : Vs) (vE1 : Vs) (vU1 : Vs) (vH1 : Hv) (hf : f_X7_load vF vC vT vD vE vU vH x1 = some (0, r, vF1, vC1, vT1, vD1, vE1, vU1, vH1)) : CtI l yX7_load wsX7_load rmX7_load g [.ref (bF 0), .int x1] (cF g bF (bD 0) (bS 0) (bH 0 0) qF3 qF4 vF ++ (cS g bS (bC 0) (bT 0) ++ (cC g bC vC ++ (cT g bT vT ++ (cD g bD (bS2 0) vD ++ (cS g bS2 (bE 0) (bU 0) ++ (cC g bE vE ++ (cT g bU vU ++ (cH g bH vH))))))))) (cF g bF (bD 0) (bS 0) (bH 0 0) qF3 qF4 vF1 ++ (cS g bS (bC 0) (bT 0) ++ (cC g bC vC1 ++ (cT g bT vT1 ++ (cD g bD (bS2 0) vD1 ++ (cS g bS2 (bE 0) (bU 0) ++ (cC g bE vE1 ++ (cT g bU vU1 ++ (cH g bH vH1))))))))) r 0 0 := by
  unfold CtI
  intro sz
  refine Met.ofW (cc := cX7_load) (maxL := 3) (ret := (some .int)) (by decide) rfl ?_
  intro p e s m args below meth c s₁ B hml hv
  obtain ⟨rfl, hsz, hP, hK, hD0, hG⟩ := hv
  have hx := B.exec
  have hb := B.bytes
  have hr := B.returns
  have hts := atoms_spec (ws := wsX7_load) B.pre
  have hown : s.vm.findClass RX7 = some m.cls := findClass_of_methodNamed B.named
  have hlocks := B.notSynchronized
  subst hsz
  have hD := hD0.self (sz := s.heap.size)
  generalize hAe : va_A (cF g bF (bD 0) (bS 0) (bH 0 0) qF3 qF4 vF ++ (cS g bS (bC 0) (bT 0) ++ (cC g bC vC ++ (cT g bT vT ++ (cD g bD (bS2 0) vD ++ (cS g bS2 (bE 0) (bU 0) ++ (cC g bE vE ++ (cT g bU vU ++ (cH g bH vH))))))))) s.heap.size = A at hD hG ⊢
  have hA : ∀ q : Nat, s.heap.size ≤ q → A q := fun q h => by rw [← hAe]; exact Or.inr h
  clear hAe hD0
  have hS : va_S A s.heap s.heap [] := va_S.rf
  have hl := lv_entry ([.ref (bF 0), .int x1]) (n := 3) (Nat.le_of_ble_eq_true rfl)
  rw [lg_entry_eq]
  generalize (lg_sl ([.ref (bF 0), .int x1]) ++ List.replicate (3 - (lg_sl ([.ref (bF 0), .int x1])).length) Slot.unset).toArray = ls at hl ⊢
  have hl : lv_has ls 3 [(0, .ref (bF 0)), (1, .int x1)] := hl
  have htu : ∀ w ∈ UW, w.before _ s = true := fun w h => hts w (List.mem_cons_of_mem _ h)
  have k_2_18 := htu _ mw_2_18
  have k_1_163 := htu _ mw_1_163
  have k_2_20 := htu _ mw_2_20
  have k_2_19 := htu _ mw_2_19
  have k_1_161 := htu _ mw_1_161
  have k_1_150 := htu _ mw_1_150
  have k_1_60 := htu _ mw_1_60
  unfold f_X7_load at hf
  obtain ⟨H, hH⟩ : ∃ z, z = s.heap := ⟨_, rfl⟩
  obtain ⟨locs, hlo⟩ : ∃ z : List Loc, z = [] := ⟨_, rfl⟩
  have hS : va_S A s.heap H locs := by rw [hH, hlo]; exact hS
  rw [← hH] at hP
  have hW : W p l e (headSpec wsX7_load rmX7_load).room s m ([.ref (bF 0), .int x1] : List Value).toArray below meth c H locs 0 0 (MQ below (qI g A (cF g bF (bD 0) (bS 0) (bH 0 0) qF3 qF4 vF1 ++ (cS g bS (bC 0) (bT 0) ++ (cC g bC vC1 ++ (cT g bT vT1 ++ (cD g bD (bS2 0) vD1 ++ (cS g bS2 (bE 0) (bU 0) ++ (cC g bE vE1 ++ (cT g bU vU1 ++ (cH g bH vH1))))))))) r) ([.ref (bF 0), .int x1] : List Value).toArray s 0 0 A) (F0 m 0 ls []) := by
    refine lv_iload_n hx hb dX7_load_0 rfl (lv_at hl 1 rfl) ?_
    obtain ⟨k1, hk3, hf⟩ := jn_at hf
    have hJ2 : k1 = some (0, r, vF1, vC1, vT1, vD1, vE1, vU1, vH1) → ∀ (H : Heap) (locs : List Loc), va_P g.1 vwCl (cF g bF (bD 0) (bS 0) (bH 0 0) qF3 qF4 vF ++ (cS g bS (bC 0) (bT 0) ++ (cC g bC vC ++ (cT g bT vT ++ (cD g bD (bS2 0) vD ++ (cS g bS2 (bE 0) (bU 0) ++ (cC g bE vE ++ (cT g bU vU ++ (cH g bH vH))))))))) H → va_D A (cF g bF (bD 0) (bS 0) (bH 0 0) qF3 qF4 vF ++ (cS g bS (bC 0) (bT 0) ++ (cC g bC vC ++ (cT g bT vT ++ (cD g bD (bS2 0) vD ++ (cS g bS2 (bE 0) (bU 0) ++ (cC g bE vE ++ (cT g bU vU ++ (cH g bH vH))))))))) → va_S A s.heap H locs → ∀ ls : Array Slot, lv_has ls 3 [] → W p l e (headSpec wsX7_load rmX7_load).room s m ([.ref (bF 0), .int x1] : List Value).toArray below meth c H locs 0 0 (MQ below (qI g A (cF g bF (bD 0) (bS 0) (bH 0 0) qF3 qF4 vF1 ++ (cS g bS (bC 0) (bT 0) ++ (cC g bC vC1 ++ (cT g bT vT1 ++ (cD g bD (bS2 0) vD1 ++ (cS g bS2 (bE 0) (bU 0) ++ (cC g bE vE1 ++ (cT g bU vU1 ++ (cH g bH vH1))))))))) r) ([.ref (bF 0), .int x1] : List Value).toArray s 0 0 A) (F0 m 15 ls []) := by
      intro hf H locs hP hD hS ls hl
      rw [hk3] at hf
      clear hk3
      exact absurd (kp_9 hf).1 (by decide)
    refine lv_if_lt (tgt := 15) hx hb dX7_load_1 (by decide) (fun c4 => ?_) (fun c4 => ?_)
    · have hf := it_t hf c4
      exact hJ2 hf H locs hP hD hS _ (lv_sub hl [] rfl)
    · have hf := it_f hf c4
      refine lv_iload_n hx hb dX7_load_4 rfl (lv_at hl 1 rfl) ?_
      refine lv_aload_n hx hb dX7_load_5 rfl (lv_at hl 0 rfl) ?_
      refine va_get (D := g.1) (ci := 7) (fs := fcF bF (bD 0) (bS 0) (bH 0 0) qF3 qF4 vF) (v := .ref (bD 0)) (C := RX7) (T := TX7) (N := 12) hx hb htu hinX7 hown hK hP 0 rfl rfl 0 (by decide) k_2_18 (fun _ h9 => h9) rfl dX7_load_6 ?_
      refine va_get (D := g.1) (ci := 5) (fs := fcD bD (bS2 0) vD) (v := .int (vD.1 1)) (C := RX5) (T := TX5) (N := 10) hx hb htu hinX5 hown hK hP 23 rfl rfl 1 (by decide) k_1_163 (fun _ h9 => h9) rfl dX7_load_9 ?_
      refine lv_icmp_le (tgt := 25) hx hb dX7_load_12 (by decide) (fun c5 => ?_) (fun c5 => ?_)
      · have hf := it_t hf c5
        refine lv_aload_n hx hb dX7_load_25 rfl (lv_at hl 0 rfl) ?_
        refine va_get (D := g.1) (ci := 7) (fs := fcF bF (bD 0) (bS 0) (bH 0 0) qF3 qF4 vF) (v := .ref (bD 0)) (C := RX7) (T := TX7) (N := 12) hx hb htu hinX7 hown hK hP 0 rfl rfl 0 (by decide) k_2_18 (fun _ h9 => h9) rfl dX7_load_26 ?_
        refine lv_iload_n hx hb dX7_load_29 rfl (lv_at hl 1 rfl) ?_
        obtain ⟨r6, vD_7, vE_8, vU_9, hg10, hf⟩ := o4_at hf
        refine k_viQ ⟨hx, hb, hml, hown, htu⟩ hK hP hD hS hA hG (c_X5_read l g bD vD bS2 bE vE bU vU x1 r6 vD_7 vE_8 vU_9 hg10) (cwV 1 htu (gU_V mw_3_176 hcX5_read) rfl rfl rfl hdX5_read ⟨Nat.le_of_ble_eq_true rfl, Nat.le_of_ble_eq_true rfl⟩) (q0 := 23) (ci := 5) (fs := fcD bD (bS2 0) vD) (q := (RX5, TX5, 10)) rfl rfl rfl (wr := (cF g bF (bD 0) (bS 0) (bH 0 0) qF3 qF4 vF ++ (cS g bS (bC 0) (bT 0) ++ (cC g bC vC ++ (cT g bT vT ++ (cH g bH vH)))))) (w2 := cF g bF (bD 0) (bS 0) (bH 0 0) qF3 qF4 vF ++ (cS g bS (bC 0) (bT 0) ++ (cC g bC vC ++ (cT g bT vT ++ (cD g bD (bS2 0) vD_7 ++ (cS g bS2 (bE 0) (bU 0) ++ (cC g bE vE_8 ++ (cT g bU vU_9 ++ (cH g bH vH))))))))) (kpc (fun P => by simp only [List.countP_append] <;> omega)) (kpc (fun P => by simp only [List.countP_append] <;> omega)) (As := [.int x1]) (rest := []) rfl rfl hl.1 (Nat.le_of_ble_eq_true rfl) dX7_load_30 (k1 := 0) (n1 := 0) rfl rfl ⟨Nat.zero_le _, Nat.zero_le _⟩ (fun H locs hP hD hS => ?_)
        refine lv_istore_n (lv' := [(2, .int r6), (0, .ref (bF 0)), (1, .int x1)]) hx hb dX7_load_33 rfl hl (by decide) rfl (fun ls hl => ?_)
        refine lv_iload_n hx hb dX7_load_34 rfl (lv_at hl 0 rfl) ?_
        refine lv_if_eq (tgt := 40) hx hb dX7_load_35 (by decide) (fun c11 => ?_) (fun c11 => ?_)
        · have hf := it_t hf c11
          refine lv_aload_n hx hb dX7_load_40 rfl (lv_at hl 1 rfl) ?_
          refine va_get (D := g.1) (ci := 7) (fs := fcF bF (bD 0) (bS 0) (bH 0 0) qF3 qF4 vF) (v := .ref (bH 0 0)) (C := RX7) (T := TX7) (N := 12) hx hb htu hinX7 hown hK hP 0 rfl rfl 2 (by decide) k_2_20 (fun _ h9 => h9) rfl dX7_load_41 ?_
          refine lv_aload_n hx hb dX7_load_44 rfl (lv_at hl 1 rfl) ?_
          refine va_get (D := g.1) (ci := 7) (fs := fcF bF (bD 0) (bS 0) (bH 0 0) qF3 qF4 vF) (v := .ref (bS 0)) (C := RX7) (T := TX7) (N := 12) hx hb htu hinX7 hown hK hP 0 rfl rfl 1 (by decide) k_2_19 (fun _ h9 => h9) rfl dX7_load_45 ?_
          obtain ⟨vH_12, hg13, hf⟩ := o1_at hf
          refine k_vvQ ⟨hx, hb, hml, hown, htu⟩ hK hP hD hS hA hG (c_X1_push l g bS bC vC bT vT bH vH vH_12 hg13) (cwV 1 htu (gU_V mw_2_215 hcX1_push) rfl rfl rfl hdX1_push ⟨Nat.le_of_ble_eq_true rfl, Nat.le_of_ble_eq_true rfl⟩) (q0 := 42) (ci := 1) (fs := fcH bH vH) (q := (RX1, TX1, 3)) rfl rfl rfl (wr := (cF g bF (bD 0) (bS 0) (bH 0 0) qF3 qF4 vF ++ (cD g bD (bS2 0) vD_7 ++ (cS g bS2 (bE 0) (bU 0) ++ (cC g bE vE_8 ++ (cT g bU vU_9)))))) (w2 := cF g bF (bD 0) (bS 0) (bH 0 0) qF3 qF4 vF ++ (cS g bS (bC 0) (bT 0) ++ (cC g bC vC ++ (cT g bT vT ++ (cD g bD (bS2 0) vD_7 ++ (cS g bS2 (bE 0) (bU 0) ++ (cC g bE vE_8 ++ (cT g bU vU_9 ++ (cH g bH vH_12))))))))) (kpc (fun P => by simp only [List.countP_append] <;> omega)) (kpc (fun P => by simp only [List.countP_append] <;> omega)) (As := [.ref (bS 0)]) (rest := []) rfl rfl hl.1 (Nat.le_of_ble_eq_true rfl) dX7_load_48 (k1 := 0) (n1 := 0) rfl rfl ⟨Nat.zero_le _, Nat.zero_le _⟩ (fun H locs hP hD hS => ?_)
          refine lv_aload_n hx hb dX7_load_51 rfl (lv_at hl 1 rfl) ?_
          refine va_get (D := g.1) (ci := 7) (fs := fcF bF (bD 0) (bS 0) (bH 0 0) qF3 qF4 vF) (v := .ref (bS 0)) (C := RX7) (T := TX7) (N := 12) hx hb htu hinX7 hown hK hP 0 rfl rfl 1 (by decide) k_2_19 (fun _ h9 => h9) rfl dX7_load_52 ?_
          refine lv_aload_n hx hb dX7_load_55 rfl (lv_at hl 1 rfl) ?_
          refine va_get (D := g.1) (ci := 7) (fs := fcF bF (bD 0) (bS 0) (bH 0 0) qF3 qF4 vF) (v := .ref (bD 0)) (C := RX7) (T := TX7) (N := 12) hx hb htu hinX7 hown hK hP 0 rfl rfl 0 (by decide) k_2_18 (fun _ h9 => h9) rfl dX7_load_56 ?_
          refine va_get (D := g.1) (ci := 5) (fs := fcD bD (bS2 0) vD_7) (v := .ref (bS2 0)) (C := RX5) (T := TX5) (N := 10) hx hb htu hinX5 hown hK hP 23 rfl rfl 0 (by decide) k_1_161 (fun _ h9 => h9) rfl dX7_load_59 ?_
          obtain ⟨vC_14, vT_15, hg16, hf⟩ := o2_at hf
          refine k_vvQ ⟨hx, hb, hml, hown, htu⟩ hK hP hD hS hA hG (c_X4_copyFrom l g bS bC vC bT vT bS2 bE vE_8 bU vU_9 vC_14 vT_15 hg16) (cwV 1 htu (gU_V mw_4_116 hcX4_copyFrom) rfl rfl rfl hdX4_copyFrom ⟨Nat.le_of_ble_eq_true rfl, Nat.le_of_ble_eq_true rfl⟩) (q0 := 6) (ci := 4) (fs := fcS bS (bC 0) (bT 0)) (q := (RX4, TX4, 2)) rfl rfl rfl (wr := (cF g bF (bD 0) (bS 0) (bH 0 0) qF3 qF4 vF ++ (cD g bD (bS2 0) vD_7 ++ (cH g bH vH_12)))) (w2 := cF g bF (bD 0) (bS 0) (bH 0 0) qF3 qF4 vF ++ (cS g bS (bC 0) (bT 0) ++ (cC g bC vC_14 ++ (cT g bT vT_15 ++ (cD g bD (bS2 0) vD_7 ++ (cS g bS2 (bE 0) (bU 0) ++ (cC g bE vE_8 ++ (cT g bU vU_9 ++ (cH g bH vH_12))))))))) (kpc (fun P => by simp only [List.countP_append] <;> omega)) (kpc (fun P => by simp only [List.countP_append] <;> omega)) (As := [.ref (bS2 0)]) (rest := []) rfl rfl hl.1 (Nat.le_of_ble_eq_true rfl) dX7_load_62 (k1 := 0) (n1 := 0) rfl rfl ⟨Nat.zero_le _, Nat.zero_le _⟩ (fun H locs hP hD hS => ?_)
          refine lv_aload_n hx hb dX7_load_65 rfl (lv_at hl 1 rfl) ?_
          obtain ⟨vF_17, hg18, hf⟩ := o1_at hf
          refine k_vvQ ⟨hx, hb, hml, hown, htu⟩ hK hP hD hS hA hG (c_X7_forgetRows l g bF (bD 0) (bS 0) (bH 0 0) qF3 qF4 vF vF_17 hg18) (cwV 0 htu (gU_V mw_3_34 hcX7_forgetRows) rfl rfl rfl hdX7_forgetRows ⟨Nat.le_of_ble_eq_true rfl, Nat.le_of_ble_eq_true rfl⟩) (q0 := 0) (ci := 7) (fs := fcF bF (bD 0) (bS 0) (bH 0 0) qF3 qF4 vF) (q := (RX7, TX7, 12)) rfl rfl rfl (wr := (cS g bS (bC 0) (bT 0) ++ (cC g bC vC_14 ++ (cT g bT vT_15 ++ (cD g bD (bS2 0) vD_7 ++ (cS g bS2 (bE 0) (bU 0) ++ (cC g bE vE_8 ++ (cT g bU vU_9 ++ (cH g bH vH_12))))))))) (w2 := cF g bF (bD 0) (bS 0) (bH 0 0) qF3 qF4 vF_17 ++ (cS g bS (bC 0) (bT 0) ++ (cC g bC vC_14 ++ (cT g bT vT_15 ++ (cD g bD (bS2 0) vD_7 ++ (cS g bS2 (bE 0) (bU 0) ++ (cC g bE vE_8 ++ (cT g bU vU_9 ++ (cH g bH vH_12))))))))) (kpc (fun P => by simp only [List.countP_append] <;> omega)) (kpc (fun P => by simp only [List.countP_append] <;> omega)) (As := []) (rest := []) rfl rfl hl.1 (Nat.le_of_ble_eq_true rfl) dX7_load_66 (k1 := 0) (n1 := 0) rfl rfl ⟨Nat.zero_le _, Nat.zero_le _⟩ (fun H locs hP hD hS => ?_)
          refine lv_aload_n hx hb dX7_load_69 rfl (lv_at hl 1 rfl) ?_
          refine va_get (D := g.1) (ci := 7) (fs := fcF bF (bD 0) (bS 0) (bH 0 0) qF3 qF4 vF_17) (v := .ref (bS 0)) (C := RX7) (T := TX7) (N := 12) hx hb htu hinX7 hown hK hP 0 rfl rfl 1 (by decide) k_2_19 (fun _ h9 => h9) rfl dX7_load_70 ?_
          refine va_get (D := g.1) (ci := 4) (fs := fcS bS (bC 0) (bT 0)) (v := .ref (bC 0)) (C := RX4) (T := TX4) (N := 2) hx hb htu hinX4 hown hK hP 6 rfl rfl 0 (by decide) k_1_150 (fun _ h9 => h9) rfl dX7_load_73 ?_
          refine va_get (D := g.1) (ci := 0) (fs := fcC bC vC_14) (v := .int (vC_14.1 1)) (C := RX0) (T := TX0) (N := 14) hx hb htu hinX0 hown hK hP 7 rfl rfl 1 (by decide) k_1_60 (fun _ h9 => h9) rfl dX7_load_76 ?_
          obtain ⟨e19, e20, e21, e22, e23, e24, e25, e26, e27⟩ := kp_9 hf
          rw [e21] at hP hD
          rw [e22] at hP hD
          rw [e23] at hP hD
          rw [e24] at hP hD
          rw [e25] at hP hD
          rw [e26] at hP hD
          rw [e27] at hP hD
          exact k_iret hx hb hr hlocks hK hP hD hS e20 dX7_load_79
        · have hf := it_f hf c11
          refine lv_iload_n hx hb dX7_load_38 rfl (lv_at hl 0 rfl) ?_
          obtain ⟨e28, e29, e30, e31, e32, e33, e34, e35, e36⟩ := kp_9 hf
          rw [e30] at hP hD
          rw [e31] at hP hD
          rw [e32] at hP hD
          rw [e33] at hP hD
          rw [e34] at hP hD
          rw [e35] at hP hD
          rw [e36] at hP hD
          exact k_iret hx hb hr hlocks hK hP hD hS e29 dX7_load_39
      · have hf := it_f hf c5
        exact hJ2 hf H locs hP hD hS _ (lv_sub hl [] rfl)
  rw [hH, hlo] at hW
  exact hW
abbrev rtX7_load : Room := { frames := 9, cells := 1, slots := 6, locals := 194 }
set_option maxHeartbeats 4000000 in
set_option maxRecDepth 100000 in
theorem t_X7_load (l : Launch) (hst : l.stackTraces = false) (g : Gx) (bF : Nat → Nat) (qF3 : Nat) (qF4 : Nat) (vF : Vs) (bS : Nat → Nat) (bC : Nat → Nat) (vC : Vs) (bT : Nat → Nat) (vT : Vs) (bD : Nat → Nat) (vD : Vs) (bS2 : Nat → Nat) (bE : Nat → Nat) (vE : Vs) (bU : Nat → Nat) (vU : Vs) (bH : Nat → Nat → Nat) (vH : Hv) (x1 : Int32) (r : Int32) (vF1 : Vs) (vC1 : Vs) (vT1 : Vs) (vD1 : Vs) (vE1 : Vs) (vU1 : Vs) (vH1 : Hv) (ek : Nat) (hf : f_X7_load vF vC vT vD vE vU vH x1 = some (ek, r, vF1, vC1, vT1, vD1, vE1, vU1, vH1)) (hek : ¬ ek = 0) : CtXI l yX7_load wsX7_load rtX7_load g [.ref (bF 0), .int x1] (cF g bF (bD 0) (bS 0) (bH 0 0) qF3 qF4 vF ++ (cS g bS (bC 0) (bT 0) ++ (cC g bC vC ++ (cT g bT vT ++ (cD g bD (bS2 0) vD ++ (cS g bS2 (bE 0) (bU 0) ++ (cC g bE vE ++ (cT g bU vU ++ (cH g bH vH))))))))) (cF g bF (bD 0) (bS 0) (bH 0 0) qF3 qF4 vF1 ++ (cS g bS (bC 0) (bT 0) ++ (cC g bC vC1 ++ (cT g bT vT1 ++ (cD g bD (bS2 0) vD1 ++ (cS g bS2 (bE 0) (bU 0) ++ (cC g bE vE1 ++ (cT g bU vU1 ++ (cH g bH vH1))))))))) (exN ek) 1 6 := by
  unfold CtXI
  intro sz
  refine vx_ofW (cc := cX7_load) (maxL := 3) (ret := (some .int)) (by decide) rfl ?_
  intro p e s m args below meth c s₁ B hml hT hv
  obtain ⟨rfl, hsz, hP, hK, hD0, hG⟩ := hv
  have hx := B.exec
  have hb := B.bytes
  have hr := B.returns
  have hts := atoms_spec (ws := wsX7_load) B.pre
  have hown : s.vm.findClass RX7 = some m.cls := findClass_of_methodNamed B.named
  have hlocks := B.notSynchronized
  subst hsz
  have hD := hD0.self (sz := s.heap.size)
  generalize hAe : va_A (cF g bF (bD 0) (bS 0) (bH 0 0) qF3 qF4 vF ++ (cS g bS (bC 0) (bT 0) ++ (cC g bC vC ++ (cT g bT vT ++ (cD g bD (bS2 0) vD ++ (cS g bS2 (bE 0) (bU 0) ++ (cC g bE vE ++ (cT g bU vU ++ (cH g bH vH))))))))) s.heap.size = A at hD hG ⊢
  have hA : ∀ q : Nat, s.heap.size ≤ q → A q := fun q h => by rw [← hAe]; exact Or.inr h
  clear hAe hD0
  have hS : va_S A s.heap s.heap [] := va_S.rf
  have hl := lv_entry ([.ref (bF 0), .int x1]) (n := 3) (Nat.le_of_ble_eq_true rfl)
  rw [lg_entry_eq]
  generalize (lg_sl ([.ref (bF 0), .int x1]) ++ List.replicate (3 - (lg_sl ([.ref (bF 0), .int x1])).length) Slot.unset).toArray = ls at hl ⊢
  have hl : lv_has ls 3 [(0, .ref (bF 0)), (1, .int x1)] := hl
  have htu : ∀ w ∈ UW, w.before _ s = true := fun w h => hts w (List.mem_cons_of_mem _ h)
  have k_3_52 := htu _ mw_3_52
  have k_1_13 := htu _ mw_1_13
  have k_2_18 := htu _ mw_2_18
  have k_1_163 := htu _ mw_1_163
  have k_2_20 := htu _ mw_2_20
  have k_2_19 := htu _ mw_2_19
  have k_1_161 := htu _ mw_1_161
  have k_1_150 := htu _ mw_1_150
  have k_1_60 := htu _ mw_1_60
  unfold f_X7_load at hf
  obtain ⟨H, hH⟩ : ∃ z, z = s.heap := ⟨_, rfl⟩
  obtain ⟨locs, hlo⟩ : ∃ z : List Loc, z = [] := ⟨_, rfl⟩
  have hS : va_S A s.heap H locs := by rw [hH, hlo]; exact hS
  rw [← hH] at hP
  have hW : W p l e (headSpec wsX7_load rtX7_load).room s m ([.ref (bF 0), .int x1] : List Value).toArray below meth c H locs 0 0 (vx_MQ below (nI0 A) (xE g A (cF g bF (bD 0) (bS 0) (bH 0 0) qF3 qF4 vF1 ++ (cS g bS (bC 0) (bT 0) ++ (cC g bC vC1 ++ (cT g bT vT1 ++ (cD g bD (bS2 0) vD1 ++ (cS g bS2 (bE 0) (bU 0) ++ (cC g bE vE1 ++ (cT g bU vU1 ++ (cH g bH vH1))))))))) (exN ek)) ([.ref (bF 0), .int x1] : List Value).toArray s 1 6 A) (F0 m 0 ls []) := by
    refine lv_iload_n hx hb dX7_load_0 rfl (lv_at hl 1 rfl) ?_
    obtain ⟨k1, hk3, hf⟩ := jn_at hf
    have hJ2 : k1 = some (ek, r, vF1, vC1, vT1, vD1, vE1, vU1, vH1) → ∀ (H : Heap) (locs : List Loc), va_P g.1 vwCl (cF g bF (bD 0) (bS 0) (bH 0 0) qF3 qF4 vF ++ (cS g bS (bC 0) (bT 0) ++ (cC g bC vC ++ (cT g bT vT ++ (cD g bD (bS2 0) vD ++ (cS g bS2 (bE 0) (bU 0) ++ (cC g bE vE ++ (cT g bU vU ++ (cH g bH vH))))))))) H → va_D A (cF g bF (bD 0) (bS 0) (bH 0 0) qF3 qF4 vF ++ (cS g bS (bC 0) (bT 0) ++ (cC g bC vC ++ (cT g bT vT ++ (cD g bD (bS2 0) vD ++ (cS g bS2 (bE 0) (bU 0) ++ (cC g bE vE ++ (cT g bU vU ++ (cH g bH vH))))))))) → va_S A s.heap H locs → ∀ ls : Array Slot, lv_has ls 3 [] → W p l e (headSpec wsX7_load rtX7_load).room s m ([.ref (bF 0), .int x1] : List Value).toArray below meth c H locs 0 0 (vx_MQ below (nI0 A) (xE g A (cF g bF (bD 0) (bS 0) (bH 0 0) qF3 qF4 vF1 ++ (cS g bS (bC 0) (bT 0) ++ (cC g bC vC1 ++ (cT g bT vT1 ++ (cD g bD (bS2 0) vD1 ++ (cS g bS2 (bE 0) (bU 0) ++ (cC g bE vE1 ++ (cT g bU vU1 ++ (cH g bH vH1))))))))) (exN ek)) ([.ref (bF 0), .int x1] : List Value).toArray s 1 6 A) (F0 m 15 ls []) := by
      intro hf H locs hP hD hS ls hl
      rw [hk3] at hf
      clear hk3
      obtain ⟨rfl, rfl, rfl, rfl, rfl, rfl, rfl, rfl, rfl⟩ := kp_9 hf
      exact vx_throwS (own := RX7) (cls := "java/lang/IllegalArgumentException") (text := "length") (names := ["java/lang/RuntimeException", "java/lang/Exception"]) (ic := 77) (sa := adK g 7) (A := A) hx hb hst hown (by decide +kernel) (by decide +kernel) k_3_52 k_1_13 (hG.1.1 ("FaultTests", 75, "length", 7) (List.mem_of_getElem? (i := 12) rfl)) (fun w h => (xw_77 w h).elim (htu w) (hG.1.bad w)) xo_77 hG.2.1.1 hG.2.1.2 hS (hl.1.trans hml.symm) dX7_load_15 dX7_load_18 dX7_load_19 dX7_load_21 dX7_load_24 (fun z hz => (hT z hz).elim) (Nat.le_of_ble_eq_true rfl) (Nat.le_of_ble_eq_true rfl) (Nat.le_refl _) (Nat.le_refl _) hlocks (fun t hv hz hq => ⟨(), trivial, ⟨rfl, hP.kept (fun k q h9 => hq q.1 (k_lt hP h9)), va_K.moved hv hK, hD⟩, ⟨Nat.le_trans hS.1 hz, fun q h1 h2 => (hq q (Nat.lt_of_lt_of_le h1 hS.1)).trans (hS.2.1 q h1 h2)⟩⟩) hS.2.2 (Nat.le_refl _) (Nat.le_refl _)
    refine lv_if_lt (tgt := 15) hx hb dX7_load_1 (by decide) (fun c4 => ?_) (fun c4 => ?_)
    · have hf := it_t hf c4
      exact hJ2 hf H locs hP hD hS _ (lv_sub hl [] rfl)
    · have hf := it_f hf c4
      refine lv_iload_n hx hb dX7_load_4 rfl (lv_at hl 1 rfl) ?_
      refine lv_aload_n hx hb dX7_load_5 rfl (lv_at hl 0 rfl) ?_
      refine va_get (D := g.1) (ci := 7) (fs := fcF bF (bD 0) (bS 0) (bH 0 0) qF3 qF4 vF) (v := .ref (bD 0)) (C := RX7) (T := TX7) (N := 12) hx hb htu hinX7 hown hK hP 0 rfl rfl 0 (by decide) k_2_18 (fun _ h9 => h9) rfl dX7_load_6 ?_
      refine va_get (D := g.1) (ci := 5) (fs := fcD bD (bS2 0) vD) (v := .int (vD.1 1)) (C := RX5) (T := TX5) (N := 10) hx hb htu hinX5 hown hK hP 23 rfl rfl 1 (by decide) k_1_163 (fun _ h9 => h9) rfl dX7_load_9 ?_
      refine lv_icmp_le (tgt := 25) hx hb dX7_load_12 (by decide) (fun c5 => ?_) (fun c5 => ?_)
      · have hf := it_t hf c5
        refine lv_aload_n hx hb dX7_load_25 rfl (lv_at hl 0 rfl) ?_
        refine va_get (D := g.1) (ci := 7) (fs := fcF bF (bD 0) (bS 0) (bH 0 0) qF3 qF4 vF) (v := .ref (bD 0)) (C := RX7) (T := TX7) (N := 12) hx hb htu hinX7 hown hK hP 0 rfl rfl 0 (by decide) k_2_18 (fun _ h9 => h9) rfl dX7_load_26 ?_
        refine lv_iload_n hx hb dX7_load_29 rfl (lv_at hl 1 rfl) ?_
        obtain ⟨r6, vD_7, vE_8, vU_9, hg10, hf⟩ := o4_at hf
        refine k_viQ ⟨hx, hb, hml, hown, htu⟩ hK hP hD hS hA hG (c_X5_read l g bD vD bS2 bE vE bU vU x1 r6 vD_7 vE_8 vU_9 hg10) (cwV 1 htu (gU_V mw_3_176 hcX5_read) rfl rfl rfl hdX5_read ⟨Nat.le_of_ble_eq_true rfl, Nat.le_of_ble_eq_true rfl⟩) (q0 := 23) (ci := 5) (fs := fcD bD (bS2 0) vD) (q := (RX5, TX5, 10)) rfl rfl rfl (wr := (cF g bF (bD 0) (bS 0) (bH 0 0) qF3 qF4 vF ++ (cS g bS (bC 0) (bT 0) ++ (cC g bC vC ++ (cT g bT vT ++ (cH g bH vH)))))) (w2 := cF g bF (bD 0) (bS 0) (bH 0 0) qF3 qF4 vF ++ (cS g bS (bC 0) (bT 0) ++ (cC g bC vC ++ (cT g bT vT ++ (cD g bD (bS2 0) vD_7 ++ (cS g bS2 (bE 0) (bU 0) ++ (cC g bE vE_8 ++ (cT g bU vU_9 ++ (cH g bH vH))))))))) (kpc (fun P => by simp only [List.countP_append] <;> omega)) (kpc (fun P => by simp only [List.countP_append] <;> omega)) (As := [.int x1]) (rest := []) rfl rfl hl.1 (Nat.le_of_ble_eq_true rfl) dX7_load_30 (k1 := 0) (n1 := 0) rfl rfl ⟨Nat.zero_le _, Nat.zero_le _⟩ (fun H locs hP hD hS => ?_)
        refine lv_istore_n (lv' := [(2, .int r6), (0, .ref (bF 0)), (1, .int x1)]) hx hb dX7_load_33 rfl hl (by decide) rfl (fun ls hl => ?_)
        refine lv_iload_n hx hb dX7_load_34 rfl (lv_at hl 0 rfl) ?_
        refine lv_if_eq (tgt := 40) hx hb dX7_load_35 (by decide) (fun c11 => ?_) (fun c11 => ?_)
        · have hf := it_t hf c11
          refine lv_aload_n hx hb dX7_load_40 rfl (lv_at hl 1 rfl) ?_
          refine va_get (D := g.1) (ci := 7) (fs := fcF bF (bD 0) (bS 0) (bH 0 0) qF3 qF4 vF) (v := .ref (bH 0 0)) (C := RX7) (T := TX7) (N := 12) hx hb htu hinX7 hown hK hP 0 rfl rfl 2 (by decide) k_2_20 (fun _ h9 => h9) rfl dX7_load_41 ?_
          refine lv_aload_n hx hb dX7_load_44 rfl (lv_at hl 1 rfl) ?_
          refine va_get (D := g.1) (ci := 7) (fs := fcF bF (bD 0) (bS 0) (bH 0 0) qF3 qF4 vF) (v := .ref (bS 0)) (C := RX7) (T := TX7) (N := 12) hx hb htu hinX7 hown hK hP 0 rfl rfl 1 (by decide) k_2_19 (fun _ h9 => h9) rfl dX7_load_45 ?_
          obtain ⟨vH_12, hg13, hf⟩ := o1_at hf
          refine k_vvQ ⟨hx, hb, hml, hown, htu⟩ hK hP hD hS hA hG (c_X1_push l g bS bC vC bT vT bH vH vH_12 hg13) (cwV 1 htu (gU_V mw_2_215 hcX1_push) rfl rfl rfl hdX1_push ⟨Nat.le_of_ble_eq_true rfl, Nat.le_of_ble_eq_true rfl⟩) (q0 := 42) (ci := 1) (fs := fcH bH vH) (q := (RX1, TX1, 3)) rfl rfl rfl (wr := (cF g bF (bD 0) (bS 0) (bH 0 0) qF3 qF4 vF ++ (cD g bD (bS2 0) vD_7 ++ (cS g bS2 (bE 0) (bU 0) ++ (cC g bE vE_8 ++ (cT g bU vU_9)))))) (w2 := cF g bF (bD 0) (bS 0) (bH 0 0) qF3 qF4 vF ++ (cS g bS (bC 0) (bT 0) ++ (cC g bC vC ++ (cT g bT vT ++ (cD g bD (bS2 0) vD_7 ++ (cS g bS2 (bE 0) (bU 0) ++ (cC g bE vE_8 ++ (cT g bU vU_9 ++ (cH g bH vH_12))))))))) (kpc (fun P => by simp only [List.countP_append] <;> omega)) (kpc (fun P => by simp only [List.countP_append] <;> omega)) (As := [.ref (bS 0)]) (rest := []) rfl rfl hl.1 (Nat.le_of_ble_eq_true rfl) dX7_load_48 (k1 := 0) (n1 := 0) rfl rfl ⟨Nat.zero_le _, Nat.zero_le _⟩ (fun H locs hP hD hS => ?_)
          refine lv_aload_n hx hb dX7_load_51 rfl (lv_at hl 1 rfl) ?_
          refine va_get (D := g.1) (ci := 7) (fs := fcF bF (bD 0) (bS 0) (bH 0 0) qF3 qF4 vF) (v := .ref (bS 0)) (C := RX7) (T := TX7) (N := 12) hx hb htu hinX7 hown hK hP 0 rfl rfl 1 (by decide) k_2_19 (fun _ h9 => h9) rfl dX7_load_52 ?_
          refine lv_aload_n hx hb dX7_load_55 rfl (lv_at hl 1 rfl) ?_
          refine va_get (D := g.1) (ci := 7) (fs := fcF bF (bD 0) (bS 0) (bH 0 0) qF3 qF4 vF) (v := .ref (bD 0)) (C := RX7) (T := TX7) (N := 12) hx hb htu hinX7 hown hK hP 0 rfl rfl 0 (by decide) k_2_18 (fun _ h9 => h9) rfl dX7_load_56 ?_
          refine va_get (D := g.1) (ci := 5) (fs := fcD bD (bS2 0) vD_7) (v := .ref (bS2 0)) (C := RX5) (T := TX5) (N := 10) hx hb htu hinX5 hown hK hP 23 rfl rfl 0 (by decide) k_1_161 (fun _ h9 => h9) rfl dX7_load_59 ?_
          obtain ⟨vC_14, vT_15, hg16, hf⟩ := o2_at hf
          refine k_vvQ ⟨hx, hb, hml, hown, htu⟩ hK hP hD hS hA hG (c_X4_copyFrom l g bS bC vC bT vT bS2 bE vE_8 bU vU_9 vC_14 vT_15 hg16) (cwV 1 htu (gU_V mw_4_116 hcX4_copyFrom) rfl rfl rfl hdX4_copyFrom ⟨Nat.le_of_ble_eq_true rfl, Nat.le_of_ble_eq_true rfl⟩) (q0 := 6) (ci := 4) (fs := fcS bS (bC 0) (bT 0)) (q := (RX4, TX4, 2)) rfl rfl rfl (wr := (cF g bF (bD 0) (bS 0) (bH 0 0) qF3 qF4 vF ++ (cD g bD (bS2 0) vD_7 ++ (cH g bH vH_12)))) (w2 := cF g bF (bD 0) (bS 0) (bH 0 0) qF3 qF4 vF ++ (cS g bS (bC 0) (bT 0) ++ (cC g bC vC_14 ++ (cT g bT vT_15 ++ (cD g bD (bS2 0) vD_7 ++ (cS g bS2 (bE 0) (bU 0) ++ (cC g bE vE_8 ++ (cT g bU vU_9 ++ (cH g bH vH_12))))))))) (kpc (fun P => by simp only [List.countP_append] <;> omega)) (kpc (fun P => by simp only [List.countP_append] <;> omega)) (As := [.ref (bS2 0)]) (rest := []) rfl rfl hl.1 (Nat.le_of_ble_eq_true rfl) dX7_load_62 (k1 := 0) (n1 := 0) rfl rfl ⟨Nat.zero_le _, Nat.zero_le _⟩ (fun H locs hP hD hS => ?_)
          refine lv_aload_n hx hb dX7_load_65 rfl (lv_at hl 1 rfl) ?_
          obtain ⟨vF_17, hg18, hf⟩ := o1_at hf
          refine k_vvQ ⟨hx, hb, hml, hown, htu⟩ hK hP hD hS hA hG (c_X7_forgetRows l g bF (bD 0) (bS 0) (bH 0 0) qF3 qF4 vF vF_17 hg18) (cwV 0 htu (gU_V mw_3_34 hcX7_forgetRows) rfl rfl rfl hdX7_forgetRows ⟨Nat.le_of_ble_eq_true rfl, Nat.le_of_ble_eq_true rfl⟩) (q0 := 0) (ci := 7) (fs := fcF bF (bD 0) (bS 0) (bH 0 0) qF3 qF4 vF) (q := (RX7, TX7, 12)) rfl rfl rfl (wr := (cS g bS (bC 0) (bT 0) ++ (cC g bC vC_14 ++ (cT g bT vT_15 ++ (cD g bD (bS2 0) vD_7 ++ (cS g bS2 (bE 0) (bU 0) ++ (cC g bE vE_8 ++ (cT g bU vU_9 ++ (cH g bH vH_12))))))))) (w2 := cF g bF (bD 0) (bS 0) (bH 0 0) qF3 qF4 vF_17 ++ (cS g bS (bC 0) (bT 0) ++ (cC g bC vC_14 ++ (cT g bT vT_15 ++ (cD g bD (bS2 0) vD_7 ++ (cS g bS2 (bE 0) (bU 0) ++ (cC g bE vE_8 ++ (cT g bU vU_9 ++ (cH g bH vH_12))))))))) (kpc (fun P => by simp only [List.countP_append] <;> omega)) (kpc (fun P => by simp only [List.countP_append] <;> omega)) (As := []) (rest := []) rfl rfl hl.1 (Nat.le_of_ble_eq_true rfl) dX7_load_66 (k1 := 0) (n1 := 0) rfl rfl ⟨Nat.zero_le _, Nat.zero_le _⟩ (fun H locs hP hD hS => ?_)
          refine lv_aload_n hx hb dX7_load_69 rfl (lv_at hl 1 rfl) ?_
          refine va_get (D := g.1) (ci := 7) (fs := fcF bF (bD 0) (bS 0) (bH 0 0) qF3 qF4 vF_17) (v := .ref (bS 0)) (C := RX7) (T := TX7) (N := 12) hx hb htu hinX7 hown hK hP 0 rfl rfl 1 (by decide) k_2_19 (fun _ h9 => h9) rfl dX7_load_70 ?_
          refine va_get (D := g.1) (ci := 4) (fs := fcS bS (bC 0) (bT 0)) (v := .ref (bC 0)) (C := RX4) (T := TX4) (N := 2) hx hb htu hinX4 hown hK hP 6 rfl rfl 0 (by decide) k_1_150 (fun _ h9 => h9) rfl dX7_load_73 ?_
          refine va_get (D := g.1) (ci := 0) (fs := fcC bC vC_14) (v := .int (vC_14.1 1)) (C := RX0) (T := TX0) (N := 14) hx hb htu hinX0 hown hK hP 7 rfl rfl 1 (by decide) k_1_60 (fun _ h9 => h9) rfl dX7_load_76 ?_
          exact absurd (kp_9 hf).1.symm hek
        · have hf := it_f hf c11
          refine lv_iload_n hx hb dX7_load_38 rfl (lv_at hl 0 rfl) ?_
          exact absurd (kp_9 hf).1.symm hek
      · have hf := it_f hf c5
        exact hJ2 hf H locs hP hD hS _ (lv_sub hl [] rfl)
  rw [hH, hlo] at hW
  exact hW
