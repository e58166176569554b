def f_X1_push (vC : Vs) (vT : Vs) (vH : Hv) : Option (Hv) :=
  gd (inb (vH.1.1 1) 8) (o2 (f_X4_copyFrom (vH.2.1 ((vH.1.1 1)).toNatClampNeg) (vH.2.2 ((vH.1.1 1)).toNatClampNeg) vC vT) (fun (vC_3 : Vs) (vT_4 : Vs) => bn ((vH.1, upH vH.2.1 ((vH.1.1 1)).toNatClampNeg vC_3, upH vH.2.2 ((vH.1.1 1)).toNatClampNeg vT_4) : Hv) (fun (vH_5 : Hv) => gd (nz (8 : Int32)) (bn ((sF vH_5.1 1 (((vH_5.1.1 1) + (1 : Int32)) - ((vH_5.1.1 1) + (1 : Int32)) / (8 : Int32) * (8 : Int32)), vH_5.2)) (fun (vH_7 : Hv) => bn ((sF vH_7.1 0 (if (8 : Int32) < ((vH_7.1.1 0) + (1 : Int32)) then (8 : Int32) else ((vH_7.1.1 0) + (1 : Int32))), vH_7.2)) (fun (vH_8 : Hv) => some (vH_8)))))))
abbrev wsX1_push : List Cond := .code yX1_push cX1_push 2 none :: UW
abbrev rmX1_push : Room := { frames := 3, cells := 0, slots := 0, locals := 102 }
set_option maxHeartbeats 4000000 in
set_option maxRecDepth 100000 in
theorem c_X1_push (l : Launch) (g : Gx) (bS : Nat → Nat) (bC : Nat → Nat) (vC : Vs) (bT : Nat → Nat) (vT : Vs) (bH : Nat → Nat → Nat) (vH : Hv) (vH1 : Hv) (hf : f_X1_push vC vT vH = some vH1) : CtV l yX1_push wsX1_push rmX1_push g [.ref (bH 0 0), .ref (bS 0)] (cS g bS (bC 0) (bT 0) ++ (cC g bC vC ++ (cT g bT vT ++ (cH g bH vH)))) (cS g bS (bC 0) (bT 0) ++ (cC g bC vC ++ (cT g bT vT ++ (cH g bH vH1)))) 0 0 := by
  unfold CtV
  intro sz
  refine Met.ofW (cc := cX1_push) (maxL := 2) (ret := none) (by decide) rfl ?_
  intro p e s m args below meth c s₁ B hml hv
  obtain ⟨rfl, hsz, hP, hK, hD0, hG⟩ := hv
  have hx := B.exec
  have hb := B.bytes
  have hr := B.returns
  have hts := atoms_spec (ws := wsX1_push) B.pre
  have hown : s.vm.findClass RX1 = some m.cls := findClass_of_methodNamed B.named
  have hlocks := B.notSynchronized
  subst hsz
  have hD := hD0.self (sz := s.heap.size)
  generalize hAe : va_A (cS g bS (bC 0) (bT 0) ++ (cC g bC vC ++ (cT g bT vT ++ (cH g bH vH)))) s.heap.size = A at hD hG ⊢
  have hA : ∀ q : Nat, s.heap.size ≤ q → A q := fun q h => by rw [← hAe]; exact Or.inr h
  clear hAe hD0
  have hS : va_S A s.heap s.heap [] := va_S.rf
  have hl := lv_entry ([.ref (bH 0 0), .ref (bS 0)]) (n := 2) (Nat.le_of_ble_eq_true rfl)
  rw [lg_entry_eq]
  generalize (lg_sl ([.ref (bH 0 0), .ref (bS 0)]) ++ List.replicate (2 - (lg_sl ([.ref (bH 0 0), .ref (bS 0)])).length) Slot.unset).toArray = ls at hl ⊢
  have hl : lv_has ls 2 [(0, .ref (bH 0 0)), (1, .ref (bS 0))] := hl
  have htu : ∀ w ∈ UW, w.before _ s = true := fun w h => hts w (List.mem_cons_of_mem _ h)
  have k_1_203 := htu _ mw_1_203
  have k_1_202 := htu _ mw_1_202
  have k_1_201 := htu _ mw_1_201
  have k_3_70 := htu _ mw_3_70
  have k_2_116 := htu _ mw_2_116
  have k_1_7 := htu _ mw_1_7
  have k_2_117 := htu _ mw_2_117
  unfold f_X1_push at hf
  obtain ⟨H, hH⟩ : ∃ z, z = s.heap := ⟨_, rfl⟩
  obtain ⟨locs, hlo⟩ : ∃ z : List Loc, z = [] := ⟨_, rfl⟩
  have hS : va_S A s.heap H locs := by rw [hH, hlo]; exact hS
  rw [← hH] at hP
  have hW : W p l e (headSpec wsX1_push rmX1_push).room s m ([.ref (bH 0 0), .ref (bS 0)] : List Value).toArray below meth c H locs 0 0 (MQ below (qV g A (cS g bS (bC 0) (bT 0) ++ (cC g bC vC ++ (cT g bT vT ++ (cH g bH vH1))))) ([.ref (bH 0 0), .ref (bS 0)] : List Value).toArray s 0 0 A) (F0 m 0 ls []) := by
    refine lv_aload_n hx hb dX1_push_0 rfl (lv_at hl 0 rfl) ?_
    refine va_get (D := g.1) (ci := 1) (fs := fcH bH vH) (v := .ref (bH 0 3)) (C := RX1) (T := TX1) (N := 3) hx hb htu hinX1 hown hK hP 17 rfl rfl 2 (by decide) k_1_203 (fun _ h9 => h9) rfl dX1_push_1 ?_
    refine lv_aload_n hx hb dX1_push_4 rfl (lv_at hl 0 rfl) ?_
    refine va_get (D := g.1) (ci := 1) (fs := fcH bH vH) (v := .int (vH.1.1 1)) (C := RX1) (T := TX1) (N := 3) hx hb htu hinX1 hown hK hP 17 rfl rfl 1 (by decide) k_1_202 (fun _ h9 => h9) rfl dX1_push_5 ?_
    obtain ⟨h1, hf⟩ := gd_in hf
    refine va_aldq (D := g.1) (f := rfH bH) (C := "FaultTests$Setup") hx hb hK hP 18 3 rfl rfl h1 dX1_push_8 ?_
    refine lv_aload_n hx hb dX1_push_9 rfl (lv_at hl 1 rfl) ?_
    obtain ⟨vC_3, vT_4, hg2, hf⟩ := o2_at hf
    obtain ⟨vH_5, evH_5⟩ : ∃ z : Hv, z = (vH.1, upH vH.2.1 ((vH.1.1 1)).toNatClampNeg vC_3, upH vH.2.2 ((vH.1.1 1)).toNatClampNeg vT_4) := ⟨_, rfl⟩
    have hf := bn_at hf evH_5
    have hk8 := in8 h1
    rw [rf_is bH hk8]
    have hpm : (cS g bS (bC 0) (bT 0) ++ (cC g bC vC ++ (cT g bT vT ++ (cH g bH vH)))).Perm ((cS g bS (bC 0) (bT 0) ++ (cC g bC vC ++ cT g bT vT)) ++ (blk g bH vH ((vH.1.1 1)).toNatClampNeg ++ rsH g bH vH ((vH.1.1 1)).toNatClampNeg)) := by
      refine List.Perm.trans ?_ (List.Perm.append_left (cS g bS (bC 0) (bT 0) ++ (cC g bC vC ++ cT g bT vT)) (cH_perm g bH vH hk8))
      exact kpc (fun P => by simp only [List.countP_append] <;> omega)
    have hpq : ((cS g bS (bC 0) (bT 0) ++ (cC g bC vC ++ cT g bT vT)) ++ (blk g bH vH_5 ((vH.1.1 1)).toNatClampNeg ++ rsH g bH vH_5 ((vH.1.1 1)).toNatClampNeg)).Perm (cS g bS (bC 0) (bT 0) ++ (cC g bC vC ++ (cT g bT vT ++ (cH g bH vH_5)))) := by
      refine List.Perm.trans (List.Perm.append_left (cS g bS (bC 0) (bT 0) ++ (cC g bC vC ++ cT g bT vT)) (cH_perm g bH vH_5 hk8).symm) ?_
      exact kpc (fun P => by simp only [List.countP_append] <;> omega)
    rw [evH_5, blk_eq, rsH_eq, ← evH_5] at hpq
    obtain ⟨q0, he⟩ := List.getElem?_of_mem (hpm.mem_iff.mpr (List.mem_append_right _ (List.mem_append_left _ (List.mem_append_left _ (List.mem_cons_self (a := (((bH (1 + 3 * ((vH.1.1 1)).toNatClampNeg)) 0, Sum.inr (4, fcS (bH (1 + 3 * ((vH.1.1 1)).toNatClampNeg)) ((bH (2 + 3 * ((vH.1.1 1)).toNatClampNeg)) 0) ((bH (3 + 3 * ((vH.1.1 1)).toNatClampNeg)) 0))) : Nat × va_E)))))))
    unfold blk at hpm
    refine k_vvQ ⟨hx, hb, hml, hown, htu⟩ hK hP hD hS hA hG (c_X4_copyFrom l g (bH (1 + 3 * ((vH.1.1 1)).toNatClampNeg)) (bH (2 + 3 * ((vH.1.1 1)).toNatClampNeg)) (vH.2.1 ((vH.1.1 1)).toNatClampNeg) (bH (3 + 3 * ((vH.1.1 1)).toNatClampNeg)) (vH.2.2 ((vH.1.1 1)).toNatClampNeg) bS bC vC bT vT vC_3 vT_4 hg2) (cwV 1 htu (gU_V mw_3_54 hcX4_copyFrom) rfl rfl rfl hdX4_copyFrom ⟨Nat.le_of_ble_eq_true rfl, Nat.le_of_ble_eq_true rfl⟩) (q0 := q0) (ci := 4) (fs := fcS (bH (1 + 3 * ((vH.1.1 1)).toNatClampNeg)) ((bH (2 + 3 * ((vH.1.1 1)).toNatClampNeg)) 0) ((bH (3 + 3 * ((vH.1.1 1)).toNatClampNeg)) 0)) (q := (RX4, TX4, 2)) rfl he rfl (wr := rsH g bH vH ((vH.1.1 1)).toNatClampNeg) (w2 := cS g bS (bC 0) (bT 0) ++ (cC g bC vC ++ (cT g bT vT ++ (cH g bH vH_5)))) (hpm.trans (by exact kpc (fun P => by simp only [List.countP_append] <;> omega))) (List.Perm.trans (by exact kpc (fun P => by simp only [List.countP_append] <;> omega)) hpq) (As := [.ref (bS 0)]) (rest := []) rfl rfl hl.1 (Nat.le_of_ble_eq_true rfl) dX1_push_10 (k1 := 0) (n1 := 0) rfl rfl ⟨Nat.zero_le _, Nat.zero_le _⟩ (fun H locs hP hD hS => ?_)
    refine lv_aload_n hx hb dX1_push_13 rfl (lv_at hl 0 rfl) ?_
    refine lv_aload_n hx hb dX1_push_14 rfl (lv_at hl 0 rfl) ?_
    refine va_get (D := g.1) (ci := 1) (fs := fcH bH vH_5) (v := .int (vH_5.1.1 1)) (C := RX1) (T := TX1) (N := 3) hx hb htu hinX1 hown hK hP 17 rfl rfl 1 (by decide) k_1_202 (fun _ h9 => h9) rfl dX1_push_15 ?_
    refine lv_iconst (v := (1 : Int32)) hx hb dX1_push_18 (by decide) ?_
    refine lv_iadd hx hb dX1_push_19 ?_
    refine lv_bipush (v := (8 : Int32)) hx hb dX1_push_20 (by decide) ?_
    obtain ⟨h6, hf⟩ := gd_nz hf
    refine lv_irem hx hb dX1_push_22 h6 ?_
    refine va_put (D := g.1) (ci := 1) (fs := fcH bH vH_5) (v := .int (((vH_5.1.1 1) + (1 : Int32)) - ((vH_5.1.1 1) + (1 : Int32)) / (8 : Int32) * (8 : Int32))) (ty := .int) (C := RX1) (T := TX1) (N := 3) hx hb htu hinX1 tyX1 tyX1_ok nmX1 hown hK hP hD hS 17 rfl rfl 1 (by decide) k_1_202 (fun _ h9 => h9) rfl (by decide +kernel) rfl rfl (Nat.le_of_ble_eq_true rfl) dX1_push_23 (fun H locs hP hD hS => ?_)
    obtain ⟨vH_7, evH_7⟩ : ∃ z, z = (sF vH_5.1 1 (((vH_5.1.1 1) + (1 : Int32)) - ((vH_5.1.1 1) + (1 : Int32)) / (8 : Int32) * (8 : Int32)), vH_5.2) := ⟨_, rfl⟩
    have hf := bn_at hf evH_7
    have hP : va_P g.1 vwCl (cS g bS (bC 0) (bT 0) ++ (cC g bC vC ++ (cT g bT vT ++ (cH g bH vH_7)))) H := by rw [evH_7]; exact hP
    have hD : va_D A (cS g bS (bC 0) (bT 0) ++ (cC g bC vC ++ (cT g bT vT ++ (cH g bH vH_7)))) := by rw [evH_7]; exact hD
    refine lv_aload_n hx hb dX1_push_26 rfl (lv_at hl 0 rfl) ?_
    refine lv_aload_n hx hb dX1_push_27 rfl (lv_at hl 0 rfl) ?_
    refine va_get (D := g.1) (ci := 1) (fs := fcH bH vH_7) (v := .int (vH_7.1.1 0)) (C := RX1) (T := TX1) (N := 3) hx hb htu hinX1 hown hK hP 17 rfl rfl 0 (by decide) k_1_201 (fun _ h9 => h9) rfl dX1_push_28 ?_
    refine lv_iconst (v := (1 : Int32)) hx hb dX1_push_31 (by decide) ?_
    refine lv_iadd hx hb dX1_push_32 ?_
    refine lv_bipush (v := (8 : Int32)) hx hb dX1_push_33 (by decide) ?_
    refine va_mmin hx hb (hml.trans hl.1.symm) hown k_3_70 k_2_116 k_1_7 k_2_117 (Nat.le_of_ble_eq_true rfl) (Nat.le_of_ble_eq_true rfl) (Nat.zero_le _) (Nat.zero_le _) dX1_push_35 ?_
    refine va_put (D := g.1) (ci := 1) (fs := fcH bH vH_7) (v := .int (if (8 : Int32) < ((vH_7.1.1 0) + (1 : Int32)) then (8 : Int32) else ((vH_7.1.1 0) + (1 : Int32)))) (ty := .int) (C := RX1) (T := TX1) (N := 3) hx hb htu hinX1 tyX1 tyX1_ok nmX1 hown hK hP hD hS 17 rfl rfl 0 (by decide) k_1_201 (fun _ h9 => h9) rfl (by decide +kernel) rfl rfl (Nat.le_of_ble_eq_true rfl) dX1_push_38 (fun H locs hP hD hS => ?_)
    obtain ⟨vH_8, evH_8⟩ : ∃ z, z = (sF vH_7.1 0 (if (8 : Int32) < ((vH_7.1.1 0) + (1 : Int32)) then (8 : Int32) else ((vH_7.1.1 0) + (1 : Int32))), vH_7.2) := ⟨_, rfl⟩
    have hf := bn_at hf evH_8
    have hP : va_P g.1 vwCl (cS g bS (bC 0) (bT 0) ++ (cC g bC vC ++ (cT g bT vT ++ (cH g bH vH_8)))) H := by rw [evH_8]; exact hP
    have hD : va_D A (cS g bS (bC 0) (bT 0) ++ (cC g bC vC ++ (cT g bT vT ++ (cH g bH vH_8)))) := by rw [evH_8]; exact hD
    have e9 := Option.some.inj hf
    rw [e9] at hP hD
    exact k_vret hx hb hr hlocks hK hP hD hS dX1_push_41
  rw [hH, hlo] at hW
  exact hW
