def f_X7_addTest (vF : Vs) (vC : Vs) (vT : Vs) (vH : Hv) (x1 : Int32) (x2 : Int32) : Option (Nat × Int32 × Vs × Vs × Hv) :=
  o1 (f_X7_areInputs vF vC x1) (fun (r1 : Int32) => jn (some (1, (0 : Int32), vF, vT, vH)) (fun k3 => if r1 = 0 then k3 else o1 (f_X7_areInputs vF vC x2) (fun (r7 : Int32) => if r7 = 0 then k3 else if (x1 &&& x2) = 0 then if (vT.1 0) < (16 : Int32) then o1 (f_X1_push vC vT vH) (fun (vH_12 : Hv) => o1 (f_X6_put vT x1 x2) (fun (vT_14 : Vs) => bn (sF vF 6 (0 : Int32)) (fun (vF_16 : Vs) => some (0, ((vT_14.1 0) - (1 : Int32)), vF_16, vT_14, vH_12)))) else some (4, (0 : Int32), vF, vT, vH) else k3)))
abbrev wsX7_addTest : List Cond := .code yX7_addTest cX7_addTest 3 (some .int) :: UW
abbrev rmX7_addTest : Room := { frames := 4, cells := 0, slots := 0, locals := 123 }
set_option maxHeartbeats 4000000 in
set_option maxRecDepth 100000 in
theorem c_X7_addTest (l : Launch) (g : Gx) (bF : Nat → Nat) (qF0 : Nat) (qF3 : Nat) (qF4 : Nat) (vF : Vs) (bS : Nat → Nat) (bC : Nat → Nat) (vC : Vs) (bT : Nat → Nat) (vT : Vs) (bH : Nat → Nat → Nat) (vH : Hv) (x1 : Int32) (x2 : Int32) (r : Int32) (vF1 : Vs) (vT1 : Vs) (vH1 : Hv) (hf : f_X7_addTest vF vC vT vH x1 x2 = some (0, r, vF1, vT1, vH1)) : CtI l yX7_addTest wsX7_addTest rmX7_addTest g [.ref (bF 0), .int x1, .int x2] (cF g bF qF0 (bS 0) (bH 0 0) qF3 qF4 vF ++ (cS g bS (bC 0) (bT 0) ++ (cC g bC vC ++ (cT g bT vT ++ (cH g bH vH))))) (cF g bF qF0 (bS 0) (bH 0 0) qF3 qF4 vF1 ++ (cS g bS (bC 0) (bT 0) ++ (cC g bC vC ++ (cT g bT vT1 ++ (cH g bH vH1))))) r 0 0 := by
  unfold CtI
  intro sz
  refine Met.ofW (cc := cX7_addTest) (maxL := 3) (ret := (some .int)) (by decide) rfl ?_
  intro p e s m args below meth c s₁ B hml hv
  obtain ⟨rfl, hsz, hP, hK, hD0, hG⟩ := hv
  have hx := B.exec
  have hb := B.bytes
  have hr := B.returns
  have hts := atoms_spec (ws := wsX7_addTest) B.pre
  have hown : s.vm.findClass RX7 = some m.cls := findClass_of_methodNamed B.named
  have hlocks := B.notSynchronized
  subst hsz
  have hD := hD0.self (sz := s.heap.size)
  generalize hAe : va_A (cF g bF qF0 (bS 0) (bH 0 0) qF3 qF4 vF ++ (cS g bS (bC 0) (bT 0) ++ (cC g bC vC ++ (cT g bT vT ++ (cH g bH vH))))) s.heap.size = A at hD hG ⊢
  have hA : ∀ q : Nat, s.heap.size ≤ q → A q := fun q h => by rw [← hAe]; exact Or.inr h
  clear hAe hD0
  have hS : va_S A s.heap s.heap [] := va_S.rf
  have hl := lv_entry ([.ref (bF 0), .int x1, .int x2]) (n := 3) (Nat.le_of_ble_eq_true rfl)
  rw [lg_entry_eq]
  generalize (lg_sl ([.ref (bF 0), .int x1, .int x2]) ++ List.replicate (3 - (lg_sl ([.ref (bF 0), .int x1, .int x2])).length) Slot.unset).toArray = ls at hl ⊢
  have hl : lv_has ls 3 [(0, .ref (bF 0)), (1, .int x1), (2, .int x2)] := hl
  have htu : ∀ w ∈ UW, w.before _ s = true := fun w h => hts w (List.mem_cons_of_mem _ h)
  have k_2_12 := htu _ mw_2_12
  have k_1_150 := htu _ mw_1_150
  have k_1_128 := htu _ mw_1_128
  have k_2_13 := htu _ mw_2_13
  have k_2_17 := htu _ mw_2_17
  unfold f_X7_addTest at hf
  obtain ⟨H, hH⟩ : ∃ z, z = s.heap := ⟨_, rfl⟩
  obtain ⟨locs, hlo⟩ : ∃ z : List Loc, z = [] := ⟨_, rfl⟩
  have hS : va_S A s.heap H locs := by rw [hH, hlo]; exact hS
  rw [← hH] at hP
  have hW : W p l e (headSpec wsX7_addTest rmX7_addTest).room s m ([.ref (bF 0), .int x1, .int x2] : List Value).toArray below meth c H locs 0 0 (MQ below (qI g A (cF g bF qF0 (bS 0) (bH 0 0) qF3 qF4 vF1 ++ (cS g bS (bC 0) (bT 0) ++ (cC g bC vC ++ (cT g bT vT1 ++ (cH g bH vH1))))) r) ([.ref (bF 0), .int x1, .int x2] : List Value).toArray s 0 0 A) (F0 m 0 ls []) := by
    refine lv_aload_n hx hb dX7_addTest_0 rfl (lv_at hl 0 rfl) ?_
    refine lv_iload_n hx hb dX7_addTest_1 rfl (lv_at hl 1 rfl) ?_
    obtain ⟨r1, hg2, hf⟩ := o1_at hf
    refine k_viQ ⟨hx, hb, hml, hown, htu⟩ hK hP hD hS hA hG (c_X7_areInputs l g bF qF0 (bH 0 0) qF3 qF4 vF bS (bT 0) bC vC x1 r1 hg2) (cwV 1 htu (gU_V mw_3_29 hcX7_areInputs) rfl rfl rfl hdX7_areInputs ⟨Nat.le_of_ble_eq_true rfl, Nat.le_of_ble_eq_true rfl⟩) (q0 := 0) (ci := 7) (fs := fcF bF qF0 (bS 0) (bH 0 0) qF3 qF4 vF) (q := (RX7, TX7, 12)) rfl rfl rfl (wr := (cT g bT vT ++ (cH g bH vH))) (w2 := cF g bF qF0 (bS 0) (bH 0 0) qF3 qF4 vF ++ (cS g bS (bC 0) (bT 0) ++ (cC g bC vC ++ (cT g bT vT ++ (cH g bH vH))))) (kpc (fun P => by simp only [List.countP_append] <;> omega)) (kpc (fun P => by simp only [List.countP_append] <;> omega)) (As := [.int x1]) (rest := []) rfl rfl hl.1 (Nat.le_of_ble_eq_true rfl) dX7_addTest_2 (k1 := 0) (n1 := 0) rfl rfl ⟨Nat.zero_le _, Nat.zero_le _⟩ (fun H locs hP hD hS => ?_)
    obtain ⟨k3, hk5, hf⟩ := jn_at hf
    have hJ4 : k3 = some (0, r, vF1, vT1, vH1) → ∀ (H : Heap) (locs : List Loc), va_P g.1 vwCl (cF g bF qF0 (bS 0) (bH 0 0) qF3 qF4 vF ++ (cS g bS (bC 0) (bT 0) ++ (cC g bC vC ++ (cT g bT vT ++ (cH g bH vH))))) H → va_D A (cF g bF qF0 (bS 0) (bH 0 0) qF3 qF4 vF ++ (cS g bS (bC 0) (bT 0) ++ (cC g bC vC ++ (cT g bT vT ++ (cH g bH vH))))) → va_S A s.heap H locs → ∀ ls : Array Slot, lv_has ls 3 [] → W p l e (headSpec wsX7_addTest rmX7_addTest).room s m ([.ref (bF 0), .int x1, .int x2] : List Value).toArray below meth c H locs 0 0 (MQ below (qI g A (cF g bF qF0 (bS 0) (bH 0 0) qF3 qF4 vF1 ++ (cS g bS (bC 0) (bT 0) ++ (cC g bC vC ++ (cT g bT vT1 ++ (cH g bH vH1))))) r) ([.ref (bF 0), .int x1, .int x2] : List Value).toArray s 0 0 A) (F0 m 22 ls []) := by
      intro hf H locs hP hD hS ls hl
      rw [hk5] at hf
      clear hk5
      exact absurd (kp_5 hf).1 (by decide)
    refine lv_if_eq (tgt := 22) hx hb dX7_addTest_5 (by decide) (fun c6 => ?_) (fun c6 => ?_)
    · have hf := it_t hf c6
      exact hJ4 hf H locs hP hD hS _ (lv_sub hl [] rfl)
    · have hf := it_f hf c6
      refine lv_aload_n hx hb dX7_addTest_8 rfl (lv_at hl 0 rfl) ?_
      refine lv_iload_n hx hb dX7_addTest_9 rfl (lv_at hl 2 rfl) ?_
      obtain ⟨r7, hg8, hf⟩ := o1_at hf
      refine k_viQ ⟨hx, hb, hml, hown, htu⟩ hK hP hD hS hA hG (c_X7_areInputs l g bF qF0 (bH 0 0) qF3 qF4 vF bS (bT 0) bC vC x2 r7 hg8) (cwV 1 htu (gU_V mw_3_29 hcX7_areInputs) rfl rfl rfl hdX7_areInputs ⟨Nat.le_of_ble_eq_true rfl, Nat.le_of_ble_eq_true rfl⟩) (q0 := 0) (ci := 7) (fs := fcF bF qF0 (bS 0) (bH 0 0) qF3 qF4 vF) (q := (RX7, TX7, 12)) rfl rfl rfl (wr := (cT g bT vT ++ (cH g bH vH))) (w2 := cF g bF qF0 (bS 0) (bH 0 0) qF3 qF4 vF ++ (cS g bS (bC 0) (bT 0) ++ (cC g bC vC ++ (cT g bT vT ++ (cH g bH vH))))) (kpc (fun P => by simp only [List.countP_append] <;> omega)) (kpc (fun P => by simp only [List.countP_append] <;> omega)) (As := [.int x2]) (rest := []) rfl rfl hl.1 (Nat.le_of_ble_eq_true rfl) dX7_addTest_10 (k1 := 0) (n1 := 0) rfl rfl ⟨Nat.zero_le _, Nat.zero_le _⟩ (fun H locs hP hD hS => ?_)
      refine lv_if_eq (tgt := 22) hx hb dX7_addTest_13 (by decide) (fun c9 => ?_) (fun c9 => ?_)
      · have hf := it_t hf c9
        exact hJ4 hf H locs hP hD hS _ (lv_sub hl [] rfl)
      · have hf := it_f hf c9
        refine lv_iload_n hx hb dX7_addTest_16 rfl (lv_at hl 1 rfl) ?_
        refine lv_iload_n hx hb dX7_addTest_17 rfl (lv_at hl 2 rfl) ?_
        refine lv_iand hx hb dX7_addTest_18 ?_
        refine lv_if_eq (tgt := 32) hx hb dX7_addTest_19 (by decide) (fun c10 => ?_) (fun c10 => ?_)
        · have hf := it_t hf c10
          refine lv_aload_n hx hb dX7_addTest_32 rfl (lv_at hl 0 rfl) ?_
          refine va_get (D := g.1) (ci := 7) (fs := fcF bF qF0 (bS 0) (bH 0 0) qF3 qF4 vF) (v := .ref (bS 0)) (C := RX7) (T := TX7) (N := 12) hx hb htu hinX7 hown hK hP 0 rfl rfl 1 (by decide) k_2_12 (fun _ h9 => h9) rfl dX7_addTest_33 ?_
          refine va_get (D := g.1) (ci := 4) (fs := fcS bS (bC 0) (bT 0)) (v := .ref (bT 0)) (C := RX4) (T := TX4) (N := 2) hx hb htu hinX4 hown hK hP 6 rfl rfl 1 (by decide) k_1_150 (fun _ h9 => h9) rfl dX7_addTest_36 ?_
          refine va_get (D := g.1) (ci := 6) (fs := fcT bT vT) (v := .int (vT.1 0)) (C := RX6) (T := TX6) (N := 5) hx hb htu hinX6 hown hK hP 18 rfl rfl 0 (by decide) k_1_128 (fun _ h9 => h9) rfl dX7_addTest_39 ?_
          refine lv_bipush (v := (16 : Int32)) hx hb dX7_addTest_42 (by decide) ?_
          refine lv_icmp_lt (tgt := 57) hx hb dX7_addTest_44 (by decide) (fun c11 => ?_) (fun c11 => ?_)
          · have hf := it_t hf c11
            refine lv_aload_n hx hb dX7_addTest_57 rfl (lv_at hl 0 rfl) ?_
            refine va_get (D := g.1) (ci := 7) (fs := fcF bF qF0 (bS 0) (bH 0 0) qF3 qF4 vF) (v := .ref (bH 0 0)) (C := RX7) (T := TX7) (N := 12) hx hb htu hinX7 hown hK hP 0 rfl rfl 2 (by decide) k_2_13 (fun _ h9 => h9) rfl dX7_addTest_58 ?_
            refine lv_aload_n hx hb dX7_addTest_61 rfl (lv_at hl 0 rfl) ?_
            refine va_get (D := g.1) (ci := 7) (fs := fcF bF qF0 (bS 0) (bH 0 0) qF3 qF4 vF) (v := .ref (bS 0)) (C := RX7) (T := TX7) (N := 12) hx hb htu hinX7 hown hK hP 0 rfl rfl 1 (by decide) k_2_12 (fun _ h9 => h9) rfl dX7_addTest_62 ?_
            obtain ⟨vH_12, hg13, hf⟩ := o1_at hf
            refine k_vvQ ⟨hx, hb, hml, hown, htu⟩ hK hP hD hS hA hG (c_X1_push l g bS bC vC bT vT bH vH vH_12 hg13) (cwV 1 htu (gU_V mw_3_50 hcX1_push) rfl rfl rfl hdX1_push ⟨Nat.le_of_ble_eq_true rfl, Nat.le_of_ble_eq_true rfl⟩) (q0 := 23) (ci := 1) (fs := fcH bH vH) (q := (RX1, TX1, 3)) rfl rfl rfl (wr := (cF g bF qF0 (bS 0) (bH 0 0) qF3 qF4 vF)) (w2 := cF g bF qF0 (bS 0) (bH 0 0) qF3 qF4 vF ++ (cS g bS (bC 0) (bT 0) ++ (cC g bC vC ++ (cT g bT vT ++ (cH g bH vH_12))))) (kpc (fun P => by simp only [List.countP_append] <;> omega)) (kpc (fun P => by simp only [List.countP_append] <;> omega)) (As := [.ref (bS 0)]) (rest := []) rfl rfl hl.1 (Nat.le_of_ble_eq_true rfl) dX7_addTest_65 (k1 := 0) (n1 := 0) rfl rfl ⟨Nat.zero_le _, Nat.zero_le _⟩ (fun H locs hP hD hS => ?_)
            refine lv_aload_n hx hb dX7_addTest_68 rfl (lv_at hl 0 rfl) ?_
            refine va_get (D := g.1) (ci := 7) (fs := fcF bF qF0 (bS 0) (bH 0 0) qF3 qF4 vF) (v := .ref (bS 0)) (C := RX7) (T := TX7) (N := 12) hx hb htu hinX7 hown hK hP 0 rfl rfl 1 (by decide) k_2_12 (fun _ h9 => h9) rfl dX7_addTest_69 ?_
            refine va_get (D := g.1) (ci := 4) (fs := fcS bS (bC 0) (bT 0)) (v := .ref (bT 0)) (C := RX4) (T := TX4) (N := 2) hx hb htu hinX4 hown hK hP 6 rfl rfl 1 (by decide) k_1_150 (fun _ h9 => h9) rfl dX7_addTest_72 ?_
            refine lv_iload_n hx hb dX7_addTest_75 rfl (lv_at hl 1 rfl) ?_
            refine lv_iload_n hx hb dX7_addTest_76 rfl (lv_at hl 2 rfl) ?_
            obtain ⟨vT_14, hg15, hf⟩ := o1_at hf
            refine k_vvQ ⟨hx, hb, hml, hown, htu⟩ hK hP hD hS hA hG (c_X6_put l g bT vT x1 x2 vT_14 hg15) (cwV 2 htu (gU_V mw_3_71 hcX6_put) rfl rfl rfl hdX6_put ⟨Nat.le_of_ble_eq_true rfl, Nat.le_of_ble_eq_true rfl⟩) (q0 := 18) (ci := 6) (fs := fcT bT vT) (q := (RX6, TX6, 5)) rfl rfl rfl (wr := (cF g bF qF0 (bS 0) (bH 0 0) qF3 qF4 vF ++ (cS g bS (bC 0) (bT 0) ++ (cC g bC vC ++ (cH g bH vH_12))))) (w2 := cF g bF qF0 (bS 0) (bH 0 0) qF3 qF4 vF ++ (cS g bS (bC 0) (bT 0) ++ (cC g bC vC ++ (cT g bT vT_14 ++ (cH g bH vH_12))))) (kpc (fun P => by simp only [List.countP_append] <;> omega)) (kpc (fun P => by simp only [List.countP_append] <;> omega)) (As := [.int x1, .int x2]) (rest := []) rfl rfl hl.1 (Nat.le_of_ble_eq_true rfl) dX7_addTest_77 (k1 := 0) (n1 := 0) rfl rfl ⟨Nat.zero_le _, Nat.zero_le _⟩ (fun H locs hP hD hS => ?_)
            refine lv_aload_n hx hb dX7_addTest_80 rfl (lv_at hl 0 rfl) ?_
            refine lv_iconst (v := (0 : Int32)) hx hb dX7_addTest_81 (by decide) ?_
            refine va_put (D := g.1) (ci := 7) (fs := fcF bF qF0 (bS 0) (bH 0 0) qF3 qF4 vF) (v := .int (0 : Int32)) (ty := .boolean) (C := RX7) (T := TX7) (N := 12) hx hb htu hinX7 tyX7 tyX7_ok nmX7 hown hK hP hD hS 0 rfl rfl 6 (by decide) k_2_17 (fun _ h9 => h9) rfl (by decide +kernel) rfl rfl (Nat.le_of_ble_eq_true rfl) dX7_addTest_82 (fun H locs hP hD hS => ?_)
            obtain ⟨vF_16, evF_16⟩ : ∃ z, z = sF vF 6 (0 : Int32) := ⟨_, rfl⟩
            have hf := bn_at hf evF_16
            have hP : va_P g.1 vwCl (cF g bF qF0 (bS 0) (bH 0 0) qF3 qF4 vF_16 ++ (cS g bS (bC 0) (bT 0) ++ (cC g bC vC ++ (cT g bT vT_14 ++ (cH g bH vH_12))))) H := by rw [evF_16]; exact hP
            have hD : va_D A (cF g bF qF0 (bS 0) (bH 0 0) qF3 qF4 vF_16 ++ (cS g bS (bC 0) (bT 0) ++ (cC g bC vC ++ (cT g bT vT_14 ++ (cH g bH vH_12))))) := by rw [evF_16]; exact hD
            refine lv_aload_n hx hb dX7_addTest_85 rfl (lv_at hl 0 rfl) ?_
            refine va_get (D := g.1) (ci := 7) (fs := fcF bF qF0 (bS 0) (bH 0 0) qF3 qF4 vF_16) (v := .ref (bS 0)) (C := RX7) (T := TX7) (N := 12) hx hb htu hinX7 hown hK hP 0 rfl rfl 1 (by decide) k_2_12 (fun _ h9 => h9) rfl dX7_addTest_86 ?_
            refine va_get (D := g.1) (ci := 4) (fs := fcS bS (bC 0) (bT 0)) (v := .ref (bT 0)) (C := RX4) (T := TX4) (N := 2) hx hb htu hinX4 hown hK hP 6 rfl rfl 1 (by decide) k_1_150 (fun _ h9 => h9) rfl dX7_addTest_89 ?_
            refine va_get (D := g.1) (ci := 6) (fs := fcT bT vT_14) (v := .int (vT_14.1 0)) (C := RX6) (T := TX6) (N := 5) hx hb htu hinX6 hown hK hP 18 rfl rfl 0 (by decide) k_1_128 (fun _ h9 => h9) rfl dX7_addTest_92 ?_
            refine lv_iconst (v := (1 : Int32)) hx hb dX7_addTest_95 (by decide) ?_
            refine lv_isub hx hb dX7_addTest_96 ?_
            obtain ⟨e17, e18, e19, e20, e21⟩ := kp_5 hf
            rw [e19] at hP hD
            rw [e20] at hP hD
            rw [e21] at hP hD
            exact k_iret hx hb hr hlocks hK hP hD hS e18 dX7_addTest_97
          · have hf := it_f hf c11
            exact absurd (kp_5 hf).1 (by decide)
        · have hf := it_f hf c10
          exact hJ4 hf H locs hP hD hS _ (lv_sub hl [] rfl)
  rw [hH, hlo] at hW
  exact hW
def f_X7_load (vF : Vs) (vC : Vs) (vT : Vs) (vD : Vs) (vE : Vs) (vU : Vs) (vH : Hv) (x1 : Int32) : Option (Nat × Int32 × Vs × Vs × Vs × Vs × Vs × Vs × Hv) :=
  jn (some (1, (0 : Int32), vF, vC, vT, vD, vE, vU, vH)) (fun k1 => if x1 < 0 then k1 else if x1 ≤ (vD.1 1) then o4 (f_X5_read vD vE vU x1) (fun (r6 : Int32) (vD_7 : Vs) (vE_8 : Vs) (vU_9 : Vs) => if r6 = 0 then o1 (f_X1_push vC vT vH) (fun (vH_12 : Hv) => o2 (f_X4_copyFrom vC vT vE_8 vU_9) (fun (vC_14 : Vs) (vT_15 : Vs) => o1 (f_X7_forgetRows vF) (fun (vF_17 : Vs) => some (0, (vC_14.1 1), vF_17, vC_14, vT_15, vD_7, vE_8, vU_9, vH_12)))) else some (0, r6, vF, vC, vT, vD_7, vE_8, vU_9, vH)) else k1)
abbrev wsX7_load : List Cond := .code yX7_load cX7_load 3 (some .int) :: UW
abbrev rmX7_load : Room := { frames := 9, cells := 0, slots := 0, locals := 194 }
set_option maxHeartbeats 4000000 in
set_option maxRecDepth 100000 in
theorem c_X7_load (l : Launch) (g : Gx) (bF : Nat → Nat) (qF3 : Nat) (qF4 : Nat) (vF : Vs) (bS : Nat → Nat) (bC : Nat → Nat) (vC : Vs) (bT : Nat → Nat) (vT : Vs) (bD : Nat → Nat) (vD : Vs) (bS2 : Nat → Nat) (bE : Nat → Nat) (vE : Vs) (bU : Nat → Nat) (vU : Vs) (bH : Nat → Nat → Nat) (vH : Hv) (x1 : Int32) (r : Int32) (vF1 : Vs) (vC1 : Vs) (vT1 : Vs) (vD1 : Vs) (vE1 : Vs) (vU1 : Vs) (vH1 : Hv) (hf : f_X7_load vF vC vT vD vE vU vH x1 = some (0, r, vF1, vC1, vT1, vD1, vE1, vU1, vH1)) : CtI l yX7_load wsX7_load rmX7_load g [.ref (bF 0), .int x1] (cF g bF (bD 0) (bS 0) (bH 0 0) qF3 qF4 vF ++ (cS g bS (bC 0) (bT 0) ++ (cC g bC vC ++ (cT g bT vT ++ (cD g bD (bS2 0) vD ++ (cS g bS2 (bE 0) (bU 0) ++ (cC g bE vE ++ (cT g bU vU ++ (cH g bH vH))))))))) (cF g bF (bD 0) (bS 0) (bH 0 0) qF3 qF4 vF1 ++ (cS g bS (bC 0) (bT 0) ++ (cC g bC vC1 ++ (cT g bT vT1 ++ (cD g bD (bS2 0) vD1 ++ (cS g bS2 (bE 0) (bU 0) ++ (cC g bE vE1 ++ (cT g bU vU1 ++ (cH g bH vH1))))))))) r 0 0 := by
  unfold CtI
  intro sz
  refine Met.ofW (cc := cX7_load) (maxL := 3) (ret := (some .int)) (by decide) rfl ?_
  intro p e s m args below meth c s₁ B hml hv
  obtain ⟨rfl, hsz, hP, hK, hD0, hG⟩ := hv
  have hx := B.exec
  have hb := B.bytes
  have hr := B.returns
  have hts := atoms_spec (ws := wsX7_load) B.pre
  have hown : s.vm.findClass RX7 = some m.cls := findClass_of_methodNamed B.named
  have hlocks := B.notSynchronized
  subst hsz
  have hD := hD0.self (sz := s.heap.size)
  generalize hAe : va_A (cF g bF (bD 0) (bS 0) (bH 0 0) qF3 qF4 vF ++ (cS g bS (bC 0) (bT 0) ++ (cC g bC vC ++ (cT g bT vT ++ (cD g bD (bS2 0) vD ++ (cS g bS2 (bE 0) (bU 0) ++ (cC g bE vE ++ (cT g bU vU ++ (cH g bH vH))))))))) s.heap.size = A at hD hG ⊢
  have hA : ∀ q : Nat, s.heap.size ≤ q → A q := fun q h => by rw [← hAe]; exact Or.inr h
  clear hAe hD0
  have hS : va_S A s.heap s.heap [] := va_S.rf
  have hl := lv_entry ([.ref (bF 0), .int x1]) (n := 3) (Nat.le_of_ble_eq_true rfl)
  rw [lg_entry_eq]
  generalize (lg_sl ([.ref (bF 0), .int x1]) ++ List.replicate (3 - (lg_sl ([.ref (bF 0), .int x1])).length) Slot.unset).toArray = ls at hl ⊢
  have hl : lv_has ls 3 [(0, .ref (bF 0)), (1, .int x1)] := hl
  have htu : ∀ w ∈ UW, w.before _ s = true := fun w h => hts w (List.mem_cons_of_mem _ h)
  have k_2_11 := htu _ mw_2_11
  have k_1_160 := htu _ mw_1_160
  have k_2_13 := htu _ mw_2_13
  have k_2_12 := htu _ mw_2_12
  have k_1_158 := htu _ mw_1_158
  have k_1_147 := htu _ mw_1_147
  have k_1_64 := htu _ mw_1_64
  unfold f_X7_load at hf
  obtain ⟨H, hH⟩ : ∃ z, z = s.heap := ⟨_, rfl⟩
  obtain ⟨locs, hlo⟩ : ∃ z : List Loc, z = [] := ⟨_, rfl⟩
  have hS : va_S A s.heap H locs := by rw [hH, hlo]; exact hS
  rw [← hH] at hP
  have hW : W p l e (headSpec wsX7_load rmX7_load).room s m ([.ref (bF 0), .int x1] : List Value).toArray below meth c H locs 0 0 (MQ below (qI g A (cF g bF (bD 0) (bS 0) (bH 0 0) qF3 qF4 vF1 ++ (cS g bS (bC 0) (bT 0) ++ (cC g bC vC1 ++ (cT g bT vT1 ++ (cD g bD (bS2 0) vD1 ++ (cS g bS2 (bE 0) (bU 0) ++ (cC g bE vE1 ++ (cT g bU vU1 ++ (cH g bH vH1))))))))) r) ([.ref (bF 0), .int x1] : List Value).toArray s 0 0 A) (F0 m 0 ls []) := by
    refine lv_iload_n hx hb dX7_load_0 rfl (lv_at hl 1 rfl) ?_
    obtain ⟨k1, hk3, hf⟩ := jn_at hf
    have hJ2 : k1 = some (0, r, vF1, vC1, vT1, vD1, vE1, vU1, vH1) → ∀ (H : Heap) (locs : List Loc), va_P g.1 vwCl (cF g bF (bD 0) (bS 0) (bH 0 0) qF3 qF4 vF ++ (cS g bS (bC 0) (bT 0) ++ (cC g bC vC ++ (cT g bT vT ++ (cD g bD (bS2 0) vD ++ (cS g bS2 (bE 0) (bU 0) ++ (cC g bE vE ++ (cT g bU vU ++ (cH g bH vH))))))))) H → va_D A (cF g bF (bD 0) (bS 0) (bH 0 0) qF3 qF4 vF ++ (cS g bS (bC 0) (bT 0) ++ (cC g bC vC ++ (cT g bT vT ++ (cD g bD (bS2 0) vD ++ (cS g bS2 (bE 0) (bU 0) ++ (cC g bE vE ++ (cT g bU vU ++ (cH g bH vH))))))))) → va_S A s.heap H locs → ∀ ls : Array Slot, lv_has ls 3 [] → W p l e (headSpec wsX7_load rmX7_load).room s m ([.ref (bF 0), .int x1] : List Value).toArray below meth c H locs 0 0 (MQ below (qI g A (cF g bF (bD 0) (bS 0) (bH 0 0) qF3 qF4 vF1 ++ (cS g bS (bC 0) (bT 0) ++ (cC g bC vC1 ++ (cT g bT vT1 ++ (cD g bD (bS2 0) vD1 ++ (cS g bS2 (bE 0) (bU 0) ++ (cC g bE vE1 ++ (cT g bU vU1 ++ (cH g bH vH1))))))))) r) ([.ref (bF 0), .int x1] : List Value).toArray s 0 0 A) (F0 m 15 ls []) := by
      intro hf H locs hP hD hS ls hl
      rw [hk3] at hf
      clear hk3
      exact absurd (kp_9 hf).1 (by decide)
    refine lv_if_lt (tgt := 15) hx hb dX7_load_1 (by decide) (fun c4 => ?_) (fun c4 => ?_)
    · have hf := it_t hf c4
      exact hJ2 hf H locs hP hD hS _ (lv_sub hl [] rfl)
    · have hf := it_f hf c4
      refine lv_iload_n hx hb dX7_load_4 rfl (lv_at hl 1 rfl) ?_
      refine lv_aload_n hx hb dX7_load_5 rfl (lv_at hl 0 rfl) ?_
      refine va_get (D := g.1) (ci := 7) (fs := fcF bF (bD 0) (bS 0) (bH 0 0) qF3 qF4 vF) (v := .ref (bD 0)) (C := RX7) (T := TX7) (N := 12) hx hb htu hinX7 hown hK hP 0 rfl rfl 0 (by decide) k_2_11 (fun _ h9 => h9) rfl dX7_load_6 ?_
      refine va_get (D := g.1) (ci := 5) (fs := fcD bD (bS2 0) vD) (v := .int (vD.1 1)) (C := RX5) (T := TX5) (N := 10) hx hb htu hinX5 hown hK hP 23 rfl rfl 1 (by decide) k_1_160 (fun _ h9 => h9) rfl dX7_load_9 ?_
      refine lv_icmp_le (tgt := 25) hx hb dX7_load_12 (by decide) (fun c5 => ?_) (fun c5 => ?_)
      · have hf := it_t hf c5
        refine lv_aload_n hx hb dX7_load_25 rfl (lv_at hl 0 rfl) ?_
        refine va_get (D := g.1) (ci := 7) (fs := fcF bF (bD 0) (bS 0) (bH 0 0) qF3 qF4 vF) (v := .ref (bD 0)) (C := RX7) (T := TX7) (N := 12) hx hb htu hinX7 hown hK hP 0 rfl rfl 0 (by decide) k_2_11 (fun _ h9 => h9) rfl dX7_load_26 ?_
        refine lv_iload_n hx hb dX7_load_29 rfl (lv_at hl 1 rfl) ?_
        obtain ⟨r6, vD_7, vE_8, vU_9, hg10, hf⟩ := o4_at hf
        refine k_viQ ⟨hx, hb, hml, hown, htu⟩ hK hP hD hS hA hG (c_X5_read l g bD vD bS2 bE vE bU vU x1 r6 vD_7 vE_8 vU_9 hg10) (cwV 1 htu (gU_V mw_3_214 hcX5_read) rfl rfl rfl hdX5_read ⟨Nat.le_of_ble_eq_true rfl, Nat.le_of_ble_eq_true rfl⟩) (q0 := 23) (ci := 5) (fs := fcD bD (bS2 0) vD) (q := (RX5, TX5, 10)) rfl rfl rfl (wr := (cF g bF (bD 0) (bS 0) (bH 0 0) qF3 qF4 vF ++ (cS g bS (bC 0) (bT 0) ++ (cC g bC vC ++ (cT g bT vT ++ (cH g bH vH)))))) (w2 := cF g bF (bD 0) (bS 0) (bH 0 0) qF3 qF4 vF ++ (cS g bS (bC 0) (bT 0) ++ (cC g bC vC ++ (cT g bT vT ++ (cD g bD (bS2 0) vD_7 ++ (cS g bS2 (bE 0) (bU 0) ++ (cC g bE vE_8 ++ (cT g bU vU_9 ++ (cH g bH vH))))))))) (kpc (fun P => by simp only [List.countP_append] <;> omega)) (kpc (fun P => by simp only [List.countP_append] <;> omega)) (As := [.int x1]) (rest := []) rfl rfl hl.1 (Nat.le_of_ble_eq_true rfl) dX7_load_30 (k1 := 0) (n1 := 0) rfl rfl ⟨Nat.zero_le _, Nat.zero_le _⟩ (fun H locs hP hD hS => ?_)
        refine lv_istore_n (lv' := [(2, .int r6), (0, .ref (bF 0)), (1, .int x1)]) hx hb dX7_load_33 rfl hl (by decide) rfl (fun ls hl => ?_)
        refine lv_iload_n hx hb dX7_load_34 rfl (lv_at hl 0 rfl) ?_
        refine lv_if_eq (tgt := 40) hx hb dX7_load_35 (by decide) (fun c11 => ?_) (fun c11 => ?_)
        · have hf := it_t hf c11
          refine lv_aload_n hx hb dX7_load_40 rfl (lv_at hl 1 rfl) ?_
          refine va_get (D := g.1) (ci := 7) (fs := fcF bF (bD 0) (bS 0) (bH 0 0) qF3 qF4 vF) (v := .ref (bH 0 0)) (C := RX7) (T := TX7) (N := 12) hx hb htu hinX7 hown hK hP 0 rfl rfl 2 (by decide) k_2_13 (fun _ h9 => h9) rfl dX7_load_41 ?_
          refine lv_aload_n hx hb dX7_load_44 rfl (lv_at hl 1 rfl) ?_
          refine va_get (D := g.1) (ci := 7) (fs := fcF bF (bD 0) (bS 0) (bH 0 0) qF3 qF4 vF) (v := .ref (bS 0)) (C := RX7) (T := TX7) (N := 12) hx hb htu hinX7 hown hK hP 0 rfl rfl 1 (by decide) k_2_12 (fun _ h9 => h9) rfl dX7_load_45 ?_
          obtain ⟨vH_12, hg13, hf⟩ := o1_at hf
          refine k_vvQ ⟨hx, hb, hml, hown, htu⟩ hK hP hD hS hA hG (c_X1_push l g bS bC vC bT vT bH vH vH_12 hg13) (cwV 1 htu (gU_V mw_3_50 hcX1_push) rfl rfl rfl hdX1_push ⟨Nat.le_of_ble_eq_true rfl, Nat.le_of_ble_eq_true rfl⟩) (q0 := 42) (ci := 1) (fs := fcH bH vH) (q := (RX1, TX1, 3)) rfl rfl rfl (wr := (cF g bF (bD 0) (bS 0) (bH 0 0) qF3 qF4 vF ++ (cD g bD (bS2 0) vD_7 ++ (cS g bS2 (bE 0) (bU 0) ++ (cC g bE vE_8 ++ (cT g bU vU_9)))))) (w2 := cF g bF (bD 0) (bS 0) (bH 0 0) qF3 qF4 vF ++ (cS g bS (bC 0) (bT 0) ++ (cC g bC vC ++ (cT g bT vT ++ (cD g bD (bS2 0) vD_7 ++ (cS g bS2 (bE 0) (bU 0) ++ (cC g bE vE_8 ++ (cT g bU vU_9 ++ (cH g bH vH_12))))))))) (kpc (fun P => by simp only [List.countP_append] <;> omega)) (kpc (fun P => by simp only [List.countP_append] <;> omega)) (As := [.ref (bS 0)]) (rest := []) rfl rfl hl.1 (Nat.le_of_ble_eq_true rfl) dX7_load_48 (k1 := 0) (n1 := 0) rfl rfl ⟨Nat.zero_le _, Nat.zero_le _⟩ (fun H locs hP hD hS => ?_)
          refine lv_aload_n hx hb dX7_load_51 rfl (lv_at hl 1 rfl) ?_
          refine va_get (D := g.1) (ci := 7) (fs := fcF bF (bD 0) (bS 0) (bH 0 0) qF3 qF4 vF) (v := .ref (bS 0)) (C := RX7) (T := TX7) (N := 12) hx hb htu hinX7 hown hK hP 0 rfl rfl 1 (by decide) k_2_12 (fun _ h9 => h9) rfl dX7_load_52 ?_
          refine lv_aload_n hx hb dX7_load_55 rfl (lv_at hl 1 rfl) ?_
          refine va_get (D := g.1) (ci := 7) (fs := fcF bF (bD 0) (bS 0) (bH 0 0) qF3 qF4 vF) (v := .ref (bD 0)) (C := RX7) (T := TX7) (N := 12) hx hb htu hinX7 hown hK hP 0 rfl rfl 0 (by decide) k_2_11 (fun _ h9 => h9) rfl dX7_load_56 ?_
          refine va_get (D := g.1) (ci := 5) (fs := fcD bD (bS2 0) vD_7) (v := .ref (bS2 0)) (C := RX5) (T := TX5) (N := 10) hx hb htu hinX5 hown hK hP 23 rfl rfl 0 (by decide) k_1_158 (fun _ h9 => h9) rfl dX7_load_59 ?_
          obtain ⟨vC_14, vT_15, hg16, hf⟩ := o2_at hf
          refine k_vvQ ⟨hx, hb, hml, hown, htu⟩ hK hP hD hS hA hG (c_X4_copyFrom l g bS bC vC bT vT bS2 bE vE_8 bU vU_9 vC_14 vT_15 hg16) (cwV 1 htu (gU_V mw_4_114 hcX4_copyFrom) rfl rfl rfl hdX4_copyFrom ⟨Nat.le_of_ble_eq_true rfl, Nat.le_of_ble_eq_true rfl⟩) (q0 := 6) (ci := 4) (fs := fcS bS (bC 0) (bT 0)) (q := (RX4, TX4, 2)) rfl rfl rfl (wr := (cF g bF (bD 0) (bS 0) (bH 0 0) qF3 qF4 vF ++ (cD g bD (bS2 0) vD_7 ++ (cH g bH vH_12)))) (w2 := cF g bF (bD 0) (bS 0) (bH 0 0) qF3 qF4 vF ++ (cS g bS (bC 0) (bT 0) ++ (cC g bC vC_14 ++ (cT g bT vT_15 ++ (cD g bD (bS2 0) vD_7 ++ (cS g bS2 (bE 0) (bU 0) ++ (cC g bE vE_8 ++ (cT g bU vU_9 ++ (cH g bH vH_12))))))))) (kpc (fun P => by simp only [List.countP_append] <;> omega)) (kpc (fun P => by simp only [List.countP_append] <;> omega)) (As := [.ref (bS2 0)]) (rest := []) rfl rfl hl.1 (Nat.le_of_ble_eq_true rfl) dX7_load_62 (k1 := 0) (n1 := 0) rfl rfl ⟨Nat.zero_le _, Nat.zero_le _⟩ (fun H locs hP hD hS => ?_)
          refine lv_aload_n hx hb dX7_load_65 rfl (lv_at hl 1 rfl) ?_
          obtain ⟨vF_17, hg18, hf⟩ := o1_at hf
          refine k_vvQ ⟨hx, hb, hml, hown, htu⟩ hK hP hD hS hA hG (c_X7_forgetRows l g bF (bD 0) (bS 0) (bH 0 0) qF3 qF4 vF vF_17 hg18) (cwV 0 htu (gU_V mw_4_115 hcX7_forgetRows) rfl rfl rfl hdX7_forgetRows ⟨Nat.le_of_ble_eq_true rfl, Nat.le_of_ble_eq_true rfl⟩) (q0 := 0) (ci := 7) (fs := fcF bF (bD 0) (bS 0) (bH 0 0) qF3 qF4 vF) (q := (RX7, TX7, 12)) rfl rfl rfl (wr := (cS g bS (bC 0) (bT 0) ++ (cC g bC vC_14 ++ (cT g bT vT_15 ++ (cD g bD (bS2 0) vD_7 ++ (cS g bS2 (bE 0) (bU 0) ++ (cC g bE vE_8 ++ (cT g bU vU_9 ++ (cH g bH vH_12))))))))) (w2 := cF g bF (bD 0) (bS 0) (bH 0 0) qF3 qF4 vF_17 ++ (cS g bS (bC 0) (bT 0) ++ (cC g bC vC_14 ++ (cT g bT vT_15 ++ (cD g bD (bS2 0) vD_7 ++ (cS g bS2 (bE 0) (bU 0) ++ (cC g bE vE_8 ++ (cT g bU vU_9 ++ (cH g bH vH_12))))))))) (kpc (fun P => by simp only [List.countP_append] <;> omega)) (kpc (fun P => by simp only [List.countP_append] <;> omega)) (As := []) (rest := []) rfl rfl hl.1 (Nat.le_of_ble_eq_true rfl) dX7_load_66 (k1 := 0) (n1 := 0) rfl rfl ⟨Nat.zero_le _, Nat.zero_le _⟩ (fun H locs hP hD hS => ?_)
          refine lv_aload_n hx hb dX7_load_69 rfl (lv_at hl 1 rfl) ?_
          refine va_get (D := g.1) (ci := 7) (fs := fcF bF (bD 0) (bS 0) (bH 0 0) qF3 qF4 vF_17) (v := .ref (bS 0)) (C := RX7) (T := TX7) (N := 12) hx hb htu hinX7 hown hK hP 0 rfl rfl 1 (by decide) k_2_12 (fun _ h9 => h9) rfl dX7_load_70 ?_
          refine va_get (D := g.1) (ci := 4) (fs := fcS bS (bC 0) (bT 0)) (v := .ref (bC 0)) (C := RX4) (T := TX4) (N := 2) hx hb htu hinX4 hown hK hP 6 rfl rfl 0 (by decide) k_1_147 (fun _ h9 => h9) rfl dX7_load_73 ?_
          refine va_get (D := g.1) (ci := 0) (fs := fcC bC vC_14) (v := .int (vC_14.1 1)) (C := RX0) (T := TX0) (N := 14) hx hb htu hinX0 hown hK hP 7 rfl rfl 1 (by decide) k_1_64 (fun _ h9 => h9) rfl dX7_load_76 ?_
          obtain ⟨e19, e20, e21, e22, e23, e24, e25, e26, e27⟩ := kp_9 hf
          rw [e21] at hP hD
          rw [e22] at hP hD
          rw [e23] at hP hD
          rw [e24] at hP hD
          rw [e25] at hP hD
          rw [e26] at hP hD
          rw [e27] at hP hD
          exact k_iret hx hb hr hlocks hK hP hD hS e20 dX7_load_79
        · have hf := it_f hf c11
          refine lv_iload_n hx hb dX7_load_38 rfl (lv_at hl 0 rfl) ?_
          obtain ⟨e28, e29, e30, e31, e32, e33, e34, e35, e36⟩ := kp_9 hf
          rw [e30] at hP hD
          rw [e31] at hP hD
          rw [e32] at hP hD
          rw [e33] at hP hD
          rw [e34] at hP hD
          rw [e35] at hP hD
          rw [e36] at hP hD
          exact k_iret hx hb hr hlocks hK hP hD hS e29 dX7_load_39
      · have hf := it_f hf c5
        exact hJ2 hf H locs hP hD hS _ (lv_sub hl [] rfl)
  rw [hH, hlo] at hW
  exact hW
