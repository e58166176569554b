def f_X8_init (vM : Vs) (x1 : Int32) (x2 : Int32) : Option (Vs × Vs × Vs × Vs) :=
  gd (decide (¬ (3 : Int32) < 0 ∧ ((3 : Int32)).toNatClampNeg ≤ 65536 ∧ 0 + 1 ≤ 3 ∧ 0 + ((3 : Int32)).toNatClampNeg ≤ 40)) (bn (aV (3 : Int32) (fun _ => 0)) (fun (vN6_3 : Vs) => bn (sF vM 6 (-1 : Int32)) (fun (vM_4 : Vs) => bn (sF vM_4 0 x1) (fun (vM_5 : Vs) => bn (sF vM_5 1 x2) (fun (vM_6 : Vs) => gd (decide (¬ x2 < 0 ∧ (x2).toNatClampNeg ≤ 65536 ∧ (0 + 1) + 1 ≤ 3 ∧ (0 + ((3 : Int32)).toNatClampNeg) + (x2).toNatClampNeg ≤ 40)) (bn (aV x2 (fun _ => 0)) (fun (vN28_9 : Vs) => gd (decide (¬ x2 < 0 ∧ (x2).toNatClampNeg ≤ 65536 ∧ ((0 + 1) + 1) + 1 ≤ 3 ∧ ((0 + ((3 : Int32)).toNatClampNeg) + (x2).toNatClampNeg) + (x2).toNatClampNeg ≤ 40)) (bn (qV0 x2) (fun (vN35_12 : Vs) => gd (decide ((((0 + 1) + 1) + 1) ≤ 3 ∧ (((0 + ((3 : Int32)).toNatClampNeg) + (x2).toNatClampNeg) + (x2).toNatClampNeg) ≤ 40)) (some (vM_6, vN28_9, vN6_3, vN35_12)))))))))))
abbrev wsX8_init : List Cond := .code yX8_init cX8_init 3 none :: UW
abbrev rmX8_init : Room := { frames := 1, cells := 3, slots := 40, locals := 60 }
set_option maxHeartbeats 4000000 in
set_option maxRecDepth 100000 in
theorem c_X8_init (l : Launch) (g : Gx) (aM : Nat) (vM : Vs) (x1 : Int32) (x2 : Int32) (vM1 : Vs) (vR01 : Vs) (vR11 : Vs) (vR21 : Vs) (hf : f_X8_init vM x1 x2 = some (vM1, vR01, vR11, vR21)) : CtG l yX8_init wsX8_init rmX8_init g [.ref aM, .int x1, .int x2] (cM g aM .null .null .null vM) (fun (u : Nat → Nat) => cM g aM (.ref (u 0)) (.ref (u 2)) (.ref (u 1)) vM1 ++ (cA g (u 0) vR01 ++ (cA g (u 1) vR11 ++ (cQ g (u 2) (fun _ => 0) vR21)))) (fun (u : Nat → Nat) => (fun _ => none) u) 3 40 := by
  unfold CtG
  intro sz
  refine Met.ofW (cc := cX8_init) (maxL := 3) (ret := none) (by decide) rfl ?_
  intro p e s m args below meth c s₁ B hml hv
  obtain ⟨rfl, hsz, hP, hK, hD0, hG⟩ := hv
  have hx := B.exec
  have hb := B.bytes
  have hr := B.returns
  have hts := atoms_spec (ws := wsX8_init) B.pre
  have hown : s.vm.findClass RX8 = some m.cls := findClass_of_methodNamed B.named
  have hlocks := B.notSynchronized
  have hin : meth.name = "<init>" := (name_of_methodNamed B.named B.method).1
  subst hsz
  have hD := hD0.self (sz := s.heap.size)
  generalize hAe : va_A (cM g aM .null .null .null vM) s.heap.size = A at hD hG ⊢
  have hA : ∀ q : Nat, s.heap.size ≤ q → A q := fun q h => by rw [← hAe]; exact Or.inr h
  clear hAe hD0
  have hS : va_S A s.heap s.heap [] := va_S.rf
  have hl := lv_entry ([.ref aM, .int x1, .int x2]) (n := 3) (Nat.le_of_ble_eq_true rfl)
  rw [lg_entry_eq]
  generalize (lg_sl ([.ref aM, .int x1, .int x2]) ++ List.replicate (3 - (lg_sl ([.ref aM, .int x1, .int x2])).length) Slot.unset).toArray = ls at hl ⊢
  have hl : lv_has ls 3 [(0, .ref aM), (1, .int x1), (2, .int x2)] := hl
  have htu : ∀ w ∈ UW, w.before _ s = true := fun w h => hts w (List.mem_cons_of_mem _ h)
  have k_3_80 := htu _ mw_3_80
  have k_1_119 := htu _ mw_1_119
  have k_3_89 := htu _ mw_3_89
  have k_3_93 := htu _ mw_3_93
  have k_3_83 := htu _ mw_3_83
  have k_3_84 := htu _ mw_3_84
  have k_3_85 := htu _ mw_3_85
  have k_3_81 := htu _ mw_3_81
  have k_3_87 := htu _ mw_3_87
  unfold f_X8_init at hf
  obtain ⟨H, hH⟩ : ∃ z, z = s.heap := ⟨_, rfl⟩
  obtain ⟨locs, hlo⟩ : ∃ z : List Loc, z = [] := ⟨_, rfl⟩
  have hS : va_S A s.heap H locs := by rw [hH, hlo]; exact hS
  rw [← hH] at hP
  have hW : W p l e (headSpec wsX8_init rmX8_init).room s m ([.ref aM, .int x1, .int x2] : List Value).toArray below meth c H locs 0 0 (MQ below (qG g A (fun (u : Nat → Nat) => cM g aM (.ref (u 0)) (.ref (u 2)) (.ref (u 1)) vM1 ++ (cA g (u 0) vR01 ++ (cA g (u 1) vR11 ++ (cQ g (u 2) (fun _ => 0) vR21)))) (fun (u : Nat → Nat) => (fun _ => none) u)) ([.ref aM, .int x1, .int x2] : List Value).toArray s 3 40 A) (F0 m 0 ls []) := by
    refine lv_aload_n hx hb dX8_init_0 rfl (lv_at hl 0 rfl) ?_
    refine W.objInit hx hb hown k_3_80 (htu _ mw_1_35) (htu _ mw_1_36) rfl (by rw [hml]; exact hl.1) rfl dX8_init_1 (Nat.le_of_ble_eq_true rfl) (Nat.le_of_ble_eq_true rfl) ?_
    refine W.eq (g2 := F0 m 4 ls []) rfl ?_
    refine lv_aload_n hx hb dX8_init_4 rfl (lv_at hl 0 rfl) ?_
    refine lv_iconst (v := (3 : Int32)) hx hb dX8_init_5 (by decide) ?_
    obtain ⟨h1, hf⟩ := gd_at hf
    obtain ⟨h1a, h1b, h1c, h1d⟩ := of_decide_eq_true h1
    refine k_newI (N' := ((3 : Int32)).toNatClampNeg) hx hb k_1_119 hK hP hD hS hA h1a rfl (Nat.le_trans (Nat.mul_le_mul_right _ h1b) (Nat.le_of_ble_eq_true rfl)) h1c h1d dX8_init_6 (fun q2 H hP hD hS => ?_)
    obtain ⟨vN6_3, evN6_3⟩ : ∃ z : Vs, z = aV (3 : Int32) (fun _ => 0) := ⟨_, rfl⟩
    have hf := bn_at hf evN6_3
    have hP : va_P g.1 vwCl (cM g aM .null .null .null vM ++ (cA g q2 vN6_3)) H := by rw [evN6_3]; exact hP
    have hD : va_D A (cM g aM .null .null .null vM ++ (cA g q2 vN6_3)) := by rw [evN6_3]; exact hD
    have hP : va_P g.1 vwCl (cA g q2 vN6_3 ++ (cM g aM .null .null .null vM)) H := hP.perm (kpc (fun P => by first | omega | (simp only [List.countP_append, List.countP_nil] <;> omega)))
    have hD : va_D A (cA g q2 vN6_3 ++ (cM g aM .null .null .null vM)) := hD.perm (kpc (fun P => by first | omega | (simp only [List.countP_append, List.countP_nil] <;> omega)))
    refine va_putF (D := g.1) (ci := 8) (fs := fcM .null .null .null vM) (v := .ref q2) (ty := .array .int) (C := RX8) (T := TX8) (N := 8) hx hb htu hinX8 tyX8 tyX8_ok nmX8 hown hK hP hD hS 1 rfl rfl 4 (by decide) k_3_89 (fun _ h9 => h9) rfl hin rfl (by decide +kernel) rfl rfl (Nat.le_of_ble_eq_true rfl) dX8_init_8 (fun H locs hP hD hS => ?_)
    have hP : va_P g.1 vwCl (cA g q2 vN6_3 ++ (cM g aM .null .null (.ref q2) vM)) H := hP
    have hD : va_D A (cA g q2 vN6_3 ++ (cM g aM .null .null (.ref q2) vM)) := hD
    refine lv_aload_n hx hb dX8_init_11 rfl (lv_at hl 0 rfl) ?_
    refine lv_iconst (v := (-1 : Int32)) hx hb dX8_init_12 (by decide) ?_
    refine va_put (D := g.1) (ci := 8) (fs := fcM .null .null (.ref q2) vM) (v := .int (-1 : Int32)) (ty := .int) (C := RX8) (T := TX8) (N := 8) hx hb htu hinX8 tyX8 tyX8_ok nmX8 hown hK hP hD hS 1 rfl rfl 6 (by decide) k_3_93 (fun _ h9 => h9) rfl (by decide +kernel) rfl rfl (Nat.le_of_ble_eq_true rfl) dX8_init_13 (fun H locs hP hD hS => ?_)
    obtain ⟨vM_4, evM_4⟩ : ∃ z : Vs, z = sF vM 6 (-1 : Int32) := ⟨_, rfl⟩
    have hf := bn_at hf evM_4
    have hP : va_P g.1 vwCl (cA g q2 vN6_3 ++ (cM g aM .null .null (.ref q2) vM_4)) H := by rw [evM_4]; exact hP
    have hD : va_D A (cA g q2 vN6_3 ++ (cM g aM .null .null (.ref q2) vM_4)) := by rw [evM_4]; exact hD
    refine lv_aload_n hx hb dX8_init_16 rfl (lv_at hl 0 rfl) ?_
    refine lv_iload_n hx hb dX8_init_17 rfl (lv_at hl 1 rfl) ?_
    refine va_putF (D := g.1) (ci := 8) (fs := fcM .null .null (.ref q2) vM_4) (v := .int x1) (ty := .int) (C := RX8) (T := TX8) (N := 8) hx hb htu hinX8 tyX8 tyX8_ok nmX8 hown hK hP hD hS 1 rfl rfl 0 (by decide) k_3_83 (fun _ h9 => h9) rfl hin rfl (by decide +kernel) rfl rfl (Nat.le_of_ble_eq_true rfl) dX8_init_18 (fun H locs hP hD hS => ?_)
    obtain ⟨vM_5, evM_5⟩ : ∃ z : Vs, z = sF vM_4 0 x1 := ⟨_, rfl⟩
    have hf := bn_at hf evM_5
    have hP : va_P g.1 vwCl (cA g q2 vN6_3 ++ (cM g aM .null .null (.ref q2) vM_5)) H := by rw [evM_5]; exact hP
    have hD : va_D A (cA g q2 vN6_3 ++ (cM g aM .null .null (.ref q2) vM_5)) := by rw [evM_5]; exact hD
    refine lv_aload_n hx hb dX8_init_21 rfl (lv_at hl 0 rfl) ?_
    refine lv_iload_n hx hb dX8_init_22 rfl (lv_at hl 2 rfl) ?_
    refine va_putF (D := g.1) (ci := 8) (fs := fcM .null .null (.ref q2) vM_5) (v := .int x2) (ty := .int) (C := RX8) (T := TX8) (N := 8) hx hb htu hinX8 tyX8 tyX8_ok nmX8 hown hK hP hD hS 1 rfl rfl 1 (by decide) k_3_84 (fun _ h9 => h9) rfl hin rfl (by decide +kernel) rfl rfl (Nat.le_of_ble_eq_true rfl) dX8_init_23 (fun H locs hP hD hS => ?_)
    obtain ⟨vM_6, evM_6⟩ : ∃ z : Vs, z = sF vM_5 1 x2 := ⟨_, rfl⟩
    have hf := bn_at hf evM_6
    have hP : va_P g.1 vwCl (cA g q2 vN6_3 ++ (cM g aM .null .null (.ref q2) vM_6)) H := by rw [evM_6]; exact hP
    have hD : va_D A (cA g q2 vN6_3 ++ (cM g aM .null .null (.ref q2) vM_6)) := by rw [evM_6]; exact hD
    refine lv_aload_n hx hb dX8_init_26 rfl (lv_at hl 0 rfl) ?_
    refine lv_iload_n hx hb dX8_init_27 rfl (lv_at hl 2 rfl) ?_
    obtain ⟨h7, hf⟩ := gd_at hf
    obtain ⟨h7a, h7b, h7c, h7d⟩ := of_decide_eq_true h7
    refine k_newI (N' := (x2).toNatClampNeg) hx hb k_1_119 hK hP hD hS hA h7a rfl (Nat.le_trans (Nat.mul_le_mul_right _ h7b) (Nat.le_of_ble_eq_true rfl)) h7c h7d dX8_init_28 (fun q8 H hP hD hS => ?_)
    obtain ⟨vN28_9, evN28_9⟩ : ∃ z : Vs, z = aV x2 (fun _ => 0) := ⟨_, rfl⟩
    have hf := bn_at hf evN28_9
    have hP : va_P g.1 vwCl (cA g q2 vN6_3 ++ (cM g aM .null .null (.ref q2) vM_6) ++ (cA g q8 vN28_9)) H := by rw [evN28_9]; exact hP
    have hD : va_D A (cA g q2 vN6_3 ++ (cM g aM .null .null (.ref q2) vM_6) ++ (cA g q8 vN28_9)) := by rw [evN28_9]; exact hD
    have hP : va_P g.1 vwCl (cA g q8 vN28_9 ++ (cA g q2 vN6_3 ++ (cM g aM .null .null (.ref q2) vM_6))) H := hP.perm (kpc (fun P => by first | omega | (simp only [List.countP_append, List.countP_nil] <;> omega)))
    have hD : va_D A (cA g q8 vN28_9 ++ (cA g q2 vN6_3 ++ (cM g aM .null .null (.ref q2) vM_6))) := hD.perm (kpc (fun P => by first | omega | (simp only [List.countP_append, List.countP_nil] <;> omega)))
    refine va_putF (D := g.1) (ci := 8) (fs := fcM .null .null (.ref q2) vM_6) (v := .ref q8) (ty := .array .int) (C := RX8) (T := TX8) (N := 8) hx hb htu hinX8 tyX8 tyX8_ok nmX8 hown hK hP hD hS 2 rfl rfl 2 (by decide) k_3_85 (fun _ h9 => h9) rfl hin rfl (by decide +kernel) rfl rfl (Nat.le_of_ble_eq_true rfl) dX8_init_30 (fun H locs hP hD hS => ?_)
    have hP : va_P g.1 vwCl (cA g q8 vN28_9 ++ (cA g q2 vN6_3 ++ (cM g aM (.ref q8) .null (.ref q2) vM_6))) H := hP
    have hD : va_D A (cA g q8 vN28_9 ++ (cA g q2 vN6_3 ++ (cM g aM (.ref q8) .null (.ref q2) vM_6))) := hD
    refine lv_aload_n hx hb dX8_init_33 rfl (lv_at hl 0 rfl) ?_
    refine lv_iload_n hx hb dX8_init_34 rfl (lv_at hl 2 rfl) ?_
    obtain ⟨h10, hf⟩ := gd_at hf
    obtain ⟨h10a, h10b, h10c, h10d⟩ := of_decide_eq_true h10
    refine k_newQ (N' := (x2).toNatClampNeg) hx hb hown k_3_81 hG.1.2.2.2.2.2 hK hP hD hS hA h10a rfl (Nat.le_trans (Nat.mul_le_mul_right _ h10b) (Nat.le_of_ble_eq_true rfl)) h10c h10d dX8_init_35 (fun q11 H hP hD hS => ?_)
    obtain ⟨vN35_12, evN35_12⟩ : ∃ z : Vs, z = qV0 x2 := ⟨_, rfl⟩
    have hf := bn_at hf evN35_12
    have hP : va_P g.1 vwCl (cA g q8 vN28_9 ++ (cA g q2 vN6_3 ++ (cM g aM (.ref q8) .null (.ref q2) vM_6)) ++ (cQ g q11 (fun _ => 0) vN35_12)) H := by rw [evN35_12]; exact hP
    have hD : va_D A (cA g q8 vN28_9 ++ (cA g q2 vN6_3 ++ (cM g aM (.ref q8) .null (.ref q2) vM_6)) ++ (cQ g q11 (fun _ => 0) vN35_12)) := by rw [evN35_12]; exact hD
    have hP : va_P g.1 vwCl (cA g q8 vN28_9 ++ (cA g q2 vN6_3 ++ (cM g aM (.ref q8) .null (.ref q2) vM_6 ++ (cQ g q11 (fun _ => 0) vN35_12)))) H := hP.perm (kpc (fun P => by first | omega | (simp only [List.countP_append, List.countP_nil] <;> omega)))
    have hD : va_D A (cA g q8 vN28_9 ++ (cA g q2 vN6_3 ++ (cM g aM (.ref q8) .null (.ref q2) vM_6 ++ (cQ g q11 (fun _ => 0) vN35_12)))) := hD.perm (kpc (fun P => by first | omega | (simp only [List.countP_append, List.countP_nil] <;> omega)))
    refine va_putF (D := g.1) (ci := 8) (fs := fcM (.ref q8) .null (.ref q2) vM_6) (v := .ref q11) (ty := .array (.array .int)) (C := RX8) (T := TX8) (N := 8) hx hb htu hinX8 tyX8 tyX8_ok nmX8 hown hK hP hD hS 2 rfl rfl 3 (by decide) k_3_87 (fun _ h9 => h9) rfl hin rfl (by decide +kernel) rfl rfl (Nat.le_of_ble_eq_true rfl) dX8_init_38 (fun H locs hP hD hS => ?_)
    have hP : va_P g.1 vwCl (cA g q8 vN28_9 ++ (cA g q2 vN6_3 ++ (cM g aM (.ref q8) (.ref q11) (.ref q2) vM_6 ++ (cQ g q11 (fun _ => 0) vN35_12)))) H := hP
    have hD : va_D A (cA g q8 vN28_9 ++ (cA g q2 vN6_3 ++ (cM g aM (.ref q8) (.ref q11) (.ref q2) vM_6 ++ (cQ g q11 (fun _ => 0) vN35_12)))) := hD
    obtain ⟨h13, hf⟩ := gd_at hf
    have hP : va_P g.1 vwCl (cM g aM (.ref q8) (.ref q11) (.ref q2) vM_6 ++ (cA g q8 vN28_9 ++ (cA g q2 vN6_3 ++ (cQ g q11 (fun _ => 0) vN35_12)))) H := k_dropP hP (w3 := ([] : va_W)) (kpc (fun P => by first | omega | (simp only [List.countP_append, List.countP_nil] <;> omega)))
    have hD : va_D A (cM g aM (.ref q8) (.ref q11) (.ref q2) vM_6 ++ (cA g q8 vN28_9 ++ (cA g q2 vN6_3 ++ (cQ g q11 (fun _ => 0) vN35_12)))) := k_dropD hD (w3 := ([] : va_W)) (kpc (fun P => by first | omega | (simp only [List.countP_append, List.countP_nil] <;> omega)))
    obtain ⟨e14, e15, e16, e17⟩ := kp_4 hf
    rw [e14] at hP hD
    rw [e15] at hP hD
    rw [e16] at hP hD
    rw [e17] at hP hD
    refine W.widen (k := 3) (n := 40) (of_decide_eq_true h13).1 (of_decide_eq_true h13).2 ?_
    exact k_Gvret (w1 := fun (u : Nat → Nat) => cM g aM (.ref (u 0)) (.ref (u 2)) (.ref (u 1)) vM1 ++ (cA g (u 0) vR01 ++ (cA g (u 1) vR11 ++ (cQ g (u 2) (fun _ => 0) vR21)))) (rv := fun (u : Nat → Nat) => (fun _ => none) u) (u := (fun i => if i = 0 then q8 else if i = 1 then q2 else if i = 2 then q11 else 0)) hx hb hr hlocks hK hP hD hS rfl dX8_init_41
  rw [hH, hlo] at hW
  exact hW
