def f_X8_values_m_L82 (vM : Vs) (vK : Vs) (vQ : Vs) (x5_14 : Int32) (vN25_15 : Vs) (kc16 : Nat) (ks17 : Nat) (k31 : Vs → Nat → Nat → Option (Vs)) (self51 : Int32 → Vs → Option (Vs)) (x7_49 : Int32) (vN75_50 : Vs) : Option (Vs) :=
  if (nI (vN75_50.1 9).toNatClampNeg) ≤ x7_49 then gd (inb (x5_14 - (vM.1 0)) (vK.1 9).toNatClampNeg) (gd (decide ((kc16 + 1) ≤ 20 ∧ (ks17 + ((nI (vQ.1 (20 + ((x5_14 - (vM.1 0))).toNatClampNeg)).toNatClampNeg)).toNatClampNeg) ≤ 128)) (o1 (f_L_sets vN75_50 (vK.2.1 0 ((x5_14 - (vM.1 0))).toNatClampNeg)) (fun (r56 : Int32) => gd (inb x5_14 (vN25_15.1 9).toNatClampNeg) (bn (sI vN25_15 0 (x5_14).toNatClampNeg r56) (fun (vN25_61 : Vs) => k31 vN25_61 (kc16 + 1) (ks17 + ((nI (vQ.1 (20 + ((x5_14 - (vM.1 0))).toNatClampNeg)).toNatClampNeg)).toNatClampNeg)))))) else gd (inb (x5_14 - (vM.1 0)) (vQ.1 8).toNatClampNeg && decide (((x5_14 - (vM.1 0))).toNatClampNeg < (vQ.1 9).toNatClampNeg)) (gd (inb x7_49 (vQ.1 (20 + ((x5_14 - (vM.1 0))).toNatClampNeg)).toNatClampNeg) (gd (inb (vQ.2.1 ((x5_14 - (vM.1 0))).toNatClampNeg (x7_49).toNatClampNeg) (vN25_15.1 9).toNatClampNeg) (gd (inb x7_49 (vN75_50.1 9).toNatClampNeg) (bn (sI vN75_50 0 (x7_49).toNatClampNeg (vN25_15.2.1 0 ((vQ.2.1 ((x5_14 - (vM.1 0))).toNatClampNeg (x7_49).toNatClampNeg)).toNatClampNeg)) (fun (vN75_66 : Vs) => self51 (x7_49 + (1 : Int32)) vN75_66)))))
def f_X8_values_m_L32 (vA : Vs) (vM : Vs) (vK : Vs) (vP : Vs) (vQ : Vs) (x2 : Int32) (self18 : Int32 → Vs → Nat → Nat → Option (Vs)) (x5_14 : Int32) (vN25_15 : Vs) (kc16 : Nat) (ks17 : Nat) : Option (Vs) :=
  gd (decide (kc16 ≤ 20 ∧ ks17 ≤ 128)) (o1 (f_X8_wires vM vK vP vQ) (fun (r21 : Int32) => if r21 ≤ x5_14 then gd (decide (kc16 ≤ 20 ∧ ks17 ≤ 128)) (some (vN25_15)) else jn (fun (vN25_28 : Vs) (kc29 : Nat) (ks30 : Nat) => jn (fun (vN25_33 : Vs) => self18 (x5_14 + (1 : Int32)) vN25_33 kc29 ks30) (fun k34 => if x2 < 0 then k34 vN25_28 else gd (nz (2 : Int32)) (if (x2 / (2 : Int32)) = x5_14 then gd (nz (2 : Int32)) (gd (inb x5_14 (vN25_28.1 9).toNatClampNeg) (bn (sI vN25_28 0 (x5_14).toNatClampNeg ((1 : Int32) <<< ((x2 - x2 / (2 : Int32) * (2 : Int32)) &&& 31))) (fun (vN25_42 : Vs) => k34 vN25_42))) else k34 vN25_28))) (fun k31 => if (vM.1 0) ≤ x5_14 then gd (inb (x5_14 - (vM.1 0)) (vQ.1 8).toNatClampNeg && decide (((x5_14 - (vM.1 0))).toNatClampNeg < (vQ.1 9).toNatClampNeg)) (gd (decide (¬ (nI (vQ.1 (20 + ((x5_14 - (vM.1 0))).toNatClampNeg)).toNatClampNeg) < 0 ∧ ((nI (vQ.1 (20 + ((x5_14 - (vM.1 0))).toNatClampNeg)).toNatClampNeg)).toNatClampNeg ≤ 65536 ∧ kc16 + 1 ≤ 20 ∧ ks17 + ((nI (vQ.1 (20 + ((x5_14 - (vM.1 0))).toNatClampNeg)).toNatClampNeg)).toNatClampNeg ≤ 128)) (bn (aV (nI (vQ.1 (20 + ((x5_14 - (vM.1 0))).toNatClampNeg)).toNatClampNeg) (fun _ => 0)) (fun (vN75_48 : Vs) => lp (f_X8_values_m_L82 vM vK vQ x5_14 vN25_15 kc16 ks17 k31) (fun _ _ => none) FU (0 : Int32) vN75_48))) else gd (inb x5_14 (vA.1 9).toNatClampNeg) (gd (inb x5_14 (vN25_15.1 9).toNatClampNeg) (bn (sI vN25_15 0 (x5_14).toNatClampNeg (vA.2.1 0 (x5_14).toNatClampNeg)) (fun (vN25_69 : Vs) => k31 vN25_69 kc16 ks17))))))
def f_X8_values_m (vA : Vs) (vM : Vs) (vK : Vs) (vP : Vs) (vQ : Vs) (x2 : Int32) : Option (Vs) :=
  o1 (f_X8_wires vM vK vP vQ) (fun (r1 : Int32) => gd (decide (¬ (((2 : Int32) * r1) ≤ x2))) (o1 (f_X8_wires vM vK vP vQ) (fun (r7 : Int32) => gd (decide (¬ r7 < 0 ∧ (r7).toNatClampNeg ≤ 65536 ∧ 0 + 1 ≤ 20 ∧ 0 + (r7).toNatClampNeg ≤ 128)) (bn (aV r7 (fun _ => 0)) (fun (vN25_13 : Vs) => lp (f_X8_values_m_L32 vA vM vK vP vQ x2) (fun _ _ _ _ => none) FU (0 : Int32) vN25_13 (0 + 1) (0 + (r7).toNatClampNeg))))))
abbrev rmX8_values_m : Room := { frames := 4, cells := 20, slots := 128, locals := 100 }
set_option maxHeartbeats 4000000 in
set_option maxRecDepth 100000 in
theorem c_X8_values_m (l : Launch) (g : Gx) (qA : Nat) (vA : Vs) (aM : Nat) (vM : Vs) (qK : Nat) (vK : Vs) (qP : Nat) (vP : Vs) (qQ : Nat) (bQ : Nat → Nat) (vQ : Vs) (x2 : Int32) (vR01 : Vs) (hf : f_X8_values_m vA vM vK vP vQ x2 = some vR01) : CtG l yX8_values wsX8_values rmX8_values_m g [.ref aM, .ref qA, .int x2] (cA g qA vA ++ (cM g aM (.ref qK) (.ref qQ) (.ref qP) vM ++ (cA g qK vK ++ (cA g qP vP ++ (cQ g qQ bQ vQ))))) (fun (u : Nat → Nat) => cA g qA vA ++ (cM g aM (.ref qK) (.ref qQ) (.ref qP) vM ++ (cA g qK vK ++ (cA g qP vP ++ (cA g (u 0) vR01 ++ (cQ g qQ bQ vQ)))))) (fun (u : Nat → Nat) => (fun u => some (.ref (u 0))) u) 20 128 := by
  unfold CtG
  intro sz
  refine Met.ofW (cc := cX8_values) (maxL := 8) (ret := (some (.array .int))) (by decide) rfl ?_
  intro p e s m args below meth c s₁ B hml hv
  obtain ⟨rfl, hsz, hP, hK, hD0, hG⟩ := hv
  have hx := B.exec
  have hb := B.bytes
  have hr := B.returns
  have hts := atoms_spec (ws := wsX8_values) B.pre
  have hown : s.vm.findClass RX8 = some m.cls := findClass_of_methodNamed B.named
  have hlocks := B.notSynchronized
  subst hsz
  have hD := hD0.self (sz := s.heap.size)
  generalize hAe : va_A (cA g qA vA ++ (cM g aM (.ref qK) (.ref qQ) (.ref qP) vM ++ (cA g qK vK ++ (cA g qP vP ++ (cQ g qQ bQ vQ))))) s.heap.size = A at hD hG ⊢
  have hA : ∀ q : Nat, s.heap.size ≤ q → A q := fun q h => by rw [← hAe]; exact Or.inr h
  clear hAe hD0
  have hS : va_S A s.heap s.heap [] := va_S.rf
  have hl := lv_entry ([.ref aM, .ref qA, .int x2]) (n := 8) (Nat.le_of_ble_eq_true rfl)
  rw [lg_entry_eq]
  generalize (lg_sl ([.ref aM, .ref qA, .int x2]) ++ List.replicate (8 - (lg_sl ([.ref aM, .ref qA, .int x2])).length) Slot.unset).toArray = ls at hl ⊢
  have hl : lv_has ls 8 [(0, .ref aM), (1, .ref qA), (2, .int x2)] := hl
  have htu : ∀ w ∈ UW, w.before _ s = true := fun w h => hts w (List.mem_cons_of_mem _ h)
  have k_1_119 := htu _ mw_1_119
  have k_3_83 := htu _ mw_3_83
  have k_3_87 := htu _ mw_3_87
  have k_3_85 := htu _ mw_3_85
  unfold f_X8_values_m at hf
  obtain ⟨H, hH⟩ : ∃ z, z = s.heap := ⟨_, rfl⟩
  obtain ⟨locs, hlo⟩ : ∃ z : List Loc, z = [] := ⟨_, rfl⟩
  have hS : va_S A s.heap H locs := by rw [hH, hlo]; exact hS
  rw [← hH] at hP
  have hW : W p l e (headSpec wsX8_values rmX8_values_m).room s m ([.ref aM, .ref qA, .int x2] : List Value).toArray below meth c H locs 0 0 (MQ below (qG g A (fun (u : Nat → Nat) => cA g qA vA ++ (cM g aM (.ref qK) (.ref qQ) (.ref qP) vM ++ (cA g qK vK ++ (cA g qP vP ++ (cA g (u 0) vR01 ++ (cQ g qQ bQ vQ)))))) (fun (u : Nat → Nat) => (fun u => some (.ref (u 0))) u)) ([.ref aM, .ref qA, .int x2] : List Value).toArray s 20 128 A) (F0 m 0 ls []) := by
    refine lv_iload_n hx hb dX8_values_0 rfl (lv_at hl 2 rfl) ?_
    refine lv_iconst (v := (2 : Int32)) hx hb dX8_values_1 (by decide) ?_
    refine lv_aload_n hx hb dX8_values_2 rfl (lv_at hl 0 rfl) ?_
    obtain ⟨r1, hg2, hf⟩ := o1_at hf
    have hpm : (cA g qA vA ++ (cM g aM (.ref qK) (.ref qQ) (.ref qP) vM ++ (cA g qK vK ++ (cA g qP vP ++ (cQ g qQ bQ vQ))))).Perm ((cM g aM (.ref qK) (.ref qQ) (.ref qP) vM ++ (cA g qK vK ++ (cA g qP vP ++ (cQ g qQ bQ vQ)))) ++ (cA g qA vA)) := (kpc (fun P => by first | omega | (simp only [List.countP_append, List.countP_nil] <;> omega)))
    refine k_G (wc := cM g aM (.ref qK) (.ref qQ) (.ref qP) vM ++ (cA g qK vK ++ (cA g qP vP ++ (cQ g qQ bQ vQ)))) (wr := cA g qA vA) (w1 := fun (u : Nat → Nat) => cM g aM (.ref qK) (.ref qQ) (.ref qP) vM ++ (cA g qK vK ++ (cA g qP vP ++ (cQ g qQ bQ vQ)))) (rv := fun (u : Nat → Nat) => (fun _ => some (.int r1)) u) hP hD hS hA hpm (va_runV (As := []) (rest := [.int (2 : Int32), .int x2]) ⟨hx, hb, hml, hown, htu⟩ ((c_X8_wires l g aM vM qK vK qP vP qQ bQ vQ r1 hg2) H.size) (cwV 0 htu (gU_V mw_3_126 hcX8_wires) rfl rfl rfl hdX8_wires ⟨Nat.le_of_ble_eq_true rfl, Nat.le_of_ble_eq_true rfl⟩) (k_preV (C := RX8) hK hP hD hS hA hG hpm (va_recv (ci := 8) (q0 := 1) (fs := fcM (.ref qK) (.ref qQ) (.ref qP) vM) (q := (RX8, TX8, 8)) hK hP rfl rfl)) rfl rfl hl.1 rfl (lv_room (Nat.le_of_ble_eq_true rfl)) dX8_values_3 ⟨Nat.zero_le _, Nat.zero_le _⟩) hQ_G (fun u4 H locs hP hD hS => ?_)
    refine W.eq (g2 := F0 m 6 ls [.int r1, .int (2 : Int32), .int x2]) rfl ?_
    have hP : va_P g.1 vwCl ((cM g aM (.ref qK) (.ref qQ) (.ref qP) vM ++ (cA g qK vK ++ (cA g qP vP ++ (cQ g qQ bQ vQ)))) ++ (cA g qA vA)) H := hP
    have hD : va_D A ((cM g aM (.ref qK) (.ref qQ) (.ref qP) vM ++ (cA g qK vK ++ (cA g qP vP ++ (cQ g qQ bQ vQ)))) ++ (cA g qA vA)) := hD
    have hP : va_P g.1 vwCl (cM g aM (.ref qK) (.ref qQ) (.ref qP) vM ++ (cA g qK vK ++ (cA g qP vP ++ (cA g qA vA ++ (cQ g qQ bQ vQ))))) H := hP.perm (kpc (fun P => by first | omega | (simp only [List.countP_append, List.countP_nil] <;> omega)))
    have hD : va_D A (cM g aM (.ref qK) (.ref qQ) (.ref qP) vM ++ (cA g qK vK ++ (cA g qP vP ++ (cA g qA vA ++ (cQ g qQ bQ vQ))))) := hD.perm (kpc (fun P => by first | omega | (simp only [List.countP_append, List.countP_nil] <;> omega)))
    refine lv_imul hx hb dX8_values_6 ?_
    obtain ⟨h5, hf⟩ := gd_at hf
    have h5 := of_decide_eq_true h5
    refine lv_icmp_ge (tgt := 14) hx hb dX8_values_7 (by decide) (fun c6 => absurd c6 h5) (fun c6 => ?_)
    refine lv_null hx hb dX8_values_10 ?_
    refine lv_goto (tgt := 20) hx hb dX8_values_11 (by decide) ?_
    refine lv_astore_nN (lv' := [(3, .null), (0, .ref aM), (1, .ref qA), (2, .int x2)]) hx hb dX8_values_20 rfl hl (by decide) rfl (fun ls hl => ?_)
    refine lv_aload_n hx hb dX8_values_21 rfl (lv_at hl 1 rfl) ?_
    obtain ⟨r7, hg8, hf⟩ := o1_at hf
    have hpm : (cM g aM (.ref qK) (.ref qQ) (.ref qP) vM ++ (cA g qK vK ++ (cA g qP vP ++ (cA g qA vA ++ (cQ g qQ bQ vQ))))).Perm ((cM g aM (.ref qK) (.ref qQ) (.ref qP) vM ++ (cA g qK vK ++ (cA g qP vP ++ (cQ g qQ bQ vQ)))) ++ (cA g qA vA)) := (kpc (fun P => by first | omega | (simp only [List.countP_append, List.countP_nil] <;> omega)))
    refine k_G (wc := cM g aM (.ref qK) (.ref qQ) (.ref qP) vM ++ (cA g qK vK ++ (cA g qP vP ++ (cQ g qQ bQ vQ)))) (wr := cA g qA vA) (w1 := fun (u : Nat → Nat) => cM g aM (.ref qK) (.ref qQ) (.ref qP) vM ++ (cA g qK vK ++ (cA g qP vP ++ (cQ g qQ bQ vQ)))) (rv := fun (u : Nat → Nat) => (fun _ => some (.int r7)) u) hP hD hS hA hpm (va_runV (As := []) (rest := []) ⟨hx, hb, hml, hown, htu⟩ ((c_X8_wires l g aM vM qK vK qP vP qQ bQ vQ r7 hg8) H.size) (cwV 0 htu (gU_V mw_3_126 hcX8_wires) rfl rfl rfl hdX8_wires ⟨Nat.le_of_ble_eq_true rfl, Nat.le_of_ble_eq_true rfl⟩) (k_preV (C := RX8) hK hP hD hS hA hG hpm (va_recv (ci := 8) (q0 := 0) (fs := fcM (.ref qK) (.ref qQ) (.ref qP) vM) (q := (RX8, TX8, 8)) hK hP rfl rfl)) rfl rfl hl.1 rfl (lv_room (Nat.le_of_ble_eq_true rfl)) dX8_values_22 ⟨Nat.zero_le _, Nat.zero_le _⟩) hQ_G (fun u10 H locs hP hD hS => ?_)
    refine W.eq (g2 := F0 m 25 ls [.int r7]) rfl ?_
    have hP : va_P g.1 vwCl ((cM g aM (.ref qK) (.ref qQ) (.ref qP) vM ++ (cA g qK vK ++ (cA g qP vP ++ (cQ g qQ bQ vQ)))) ++ (cA g qA vA)) H := hP
    have hD : va_D A ((cM g aM (.ref qK) (.ref qQ) (.ref qP) vM ++ (cA g qK vK ++ (cA g qP vP ++ (cQ g qQ bQ vQ)))) ++ (cA g qA vA)) := hD
    have hP : va_P g.1 vwCl (cM g aM (.ref qK) (.ref qQ) (.ref qP) vM ++ (cA g qK vK ++ (cA g qP vP ++ (cA g qA vA ++ (cQ g qQ bQ vQ))))) H := hP.perm (kpc (fun P => by first | omega | (simp only [List.countP_append, List.countP_nil] <;> omega)))
    have hD : va_D A (cM g aM (.ref qK) (.ref qQ) (.ref qP) vM ++ (cA g qK vK ++ (cA g qP vP ++ (cA g qA vA ++ (cQ g qQ bQ vQ))))) := hD.perm (kpc (fun P => by first | omega | (simp only [List.countP_append, List.countP_nil] <;> omega)))
    obtain ⟨h11, hf⟩ := gd_at hf
    obtain ⟨h11a, h11b, h11c, h11d⟩ := of_decide_eq_true h11
    refine k_newI (N' := (r7).toNatClampNeg) hx hb k_1_119 hK hP hD hS hA h11a rfl (Nat.le_trans (Nat.mul_le_mul_right _ h11b) (Nat.le_of_ble_eq_true rfl)) h11c h11d dX8_values_25 (fun q12 H hP hD hS => ?_)
    obtain ⟨vN25_13, evN25_13⟩ : ∃ z : Vs, z = aV r7 (fun _ => 0) := ⟨_, rfl⟩
    have hf := bn_at hf evN25_13
    have hP : va_P g.1 vwCl (cM g aM (.ref qK) (.ref qQ) (.ref qP) vM ++ (cA g qK vK ++ (cA g qP vP ++ (cA g qA vA ++ (cQ g qQ bQ vQ)))) ++ (cA g q12 vN25_13)) H := by rw [evN25_13]; exact hP
    have hD : va_D A (cM g aM (.ref qK) (.ref qQ) (.ref qP) vM ++ (cA g qK vK ++ (cA g qP vP ++ (cA g qA vA ++ (cQ g qQ bQ vQ)))) ++ (cA g q12 vN25_13)) := by rw [evN25_13]; exact hD
    have hP : va_P g.1 vwCl (cA g q12 vN25_13 ++ (cM g aM (.ref qK) (.ref qQ) (.ref qP) vM ++ (cA g qK vK ++ (cA g qP vP ++ (cA g qA vA ++ (cQ g qQ bQ vQ)))))) H := hP.perm (kpc (fun P => by first | omega | (simp only [List.countP_append, List.countP_nil] <;> omega)))
    have hD : va_D A (cA g q12 vN25_13 ++ (cM g aM (.ref qK) (.ref qQ) (.ref qP) vM ++ (cA g qK vK ++ (cA g qP vP ++ (cA g qA vA ++ (cQ g qQ bQ vQ)))))) := hD.perm (kpc (fun P => by first | omega | (simp only [List.countP_append, List.countP_nil] <;> omega)))
    refine lv_astore (lv' := [(4, .ref q12), (3, .null), (0, .ref aM), (1, .ref qA), (2, .int x2)]) hx hb dX8_values_27 hl (by decide) rfl (fun ls hl => ?_)
    refine lv_iconst (v := (0 : Int32)) hx hb dX8_values_29 (by decide) ?_
    refine lv_istore (lv' := [(5, .int (0 : Int32)), (4, .ref q12), (3, .null), (0, .ref aM), (1, .ref qA), (2, .int x2)]) hx hb dX8_values_30 hl (by decide) rfl (fun ls hl => ?_)
    have hL19 : ∀ (x5_14 : Int32) (vN25_15 : Vs) (kc16 : Nat) (ks17 : Nat), lp (f_X8_values_m_L32 vA vM vK vP vQ x2) (fun _ _ _ _ => none) FU x5_14 vN25_15 kc16 ks17 = some vR01 → ∀ (H : Heap) (locs : List Loc), va_P g.1 vwCl (cA g q12 vN25_15 ++ (cM g aM (.ref qK) (.ref qQ) (.ref qP) vM ++ (cA g qK vK ++ (cA g qP vP ++ (cA g qA vA ++ (cQ g qQ bQ vQ)))))) H → va_D A (cA g q12 vN25_15 ++ (cM g aM (.ref qK) (.ref qQ) (.ref qP) vM ++ (cA g qK vK ++ (cA g qP vP ++ (cA g qA vA ++ (cQ g qQ bQ vQ)))))) → va_S A s.heap H locs → ∀ ls : Array Slot, lv_has ls 8 [(0, .ref aM), (1, .ref qA), (2, .int x2), (3, .null), (4, .ref q12), (5, .int x5_14)] → W p l e (headSpec wsX8_values rmX8_values_m).room s m ([.ref aM, .ref qA, .int x2] : List Value).toArray below meth c H locs kc16 ks17 (MQ below (qG g A (fun (u : Nat → Nat) => cA g qA vA ++ (cM g aM (.ref qK) (.ref qQ) (.ref qP) vM ++ (cA g qK vK ++ (cA g qP vP ++ (cA g (u 0) vR01 ++ (cQ g qQ bQ vQ)))))) (fun (u : Nat → Nat) => (fun u => some (.ref (u 0))) u)) ([.ref aM, .ref qA, .int x2] : List Value).toArray s 20 128 A) (F0 m 32 ls []) := by
      refine lp_ind (T := Int32 → Vs → Nat → Nat → Option (Vs)) (fun self18 => ∀ (x5_14 : Int32) (vN25_15 : Vs) (kc16 : Nat) (ks17 : Nat), self18 x5_14 vN25_15 kc16 ks17 = some vR01 → ∀ (H : Heap) (locs : List Loc), va_P g.1 vwCl (cA g q12 vN25_15 ++ (cM g aM (.ref qK) (.ref qQ) (.ref qP) vM ++ (cA g qK vK ++ (cA g qP vP ++ (cA g qA vA ++ (cQ g qQ bQ vQ)))))) H → va_D A (cA g q12 vN25_15 ++ (cM g aM (.ref qK) (.ref qQ) (.ref qP) vM ++ (cA g qK vK ++ (cA g qP vP ++ (cA g qA vA ++ (cQ g qQ bQ vQ)))))) → va_S A s.heap H locs → ∀ ls : Array Slot, lv_has ls 8 [(0, .ref aM), (1, .ref qA), (2, .int x2), (3, .null), (4, .ref q12), (5, .int x5_14)] → W p l e (headSpec wsX8_values rmX8_values_m).room s m ([.ref aM, .ref qA, .int x2] : List Value).toArray below meth c H locs kc16 ks17 (MQ below (qG g A (fun (u : Nat → Nat) => cA g qA vA ++ (cM g aM (.ref qK) (.ref qQ) (.ref qP) vM ++ (cA g qK vK ++ (cA g qP vP ++ (cA g (u 0) vR01 ++ (cQ g qQ bQ vQ)))))) (fun (u : Nat → Nat) => (fun u => some (.ref (u 0))) u)) ([.ref aM, .ref qA, .int x2] : List Value).toArray s 20 128 A) (F0 m 32 ls [])) ?_ ?_ FU
      · intro x5_14 vN25_15 kc16 ks17 hf; cases hf
      · intro self18 ih20 x5_14 vN25_15 kc16 ks17 hf H locs hP hD hS ls hl
        unfold f_X8_values_m_L32 at hf
        refine lv_iload hx hb dX8_values_32 (lv_at hl 5 rfl) ?_
        refine lv_aload_n hx hb dX8_values_34 rfl (lv_at hl 0 rfl) ?_
        obtain ⟨h23, hf⟩ := gd_at hf
        obtain ⟨r21, hg22, hf⟩ := o1_at hf
        have hpm : (cA g q12 vN25_15 ++ (cM g aM (.ref qK) (.ref qQ) (.ref qP) vM ++ (cA g qK vK ++ (cA g qP vP ++ (cA g qA vA ++ (cQ g qQ bQ vQ)))))).Perm ((cM g aM (.ref qK) (.ref qQ) (.ref qP) vM ++ (cA g qK vK ++ (cA g qP vP ++ (cQ g qQ bQ vQ)))) ++ (cA g q12 vN25_15 ++ (cA g qA vA))) := (kpc (fun P => by first | omega | (simp only [List.countP_append, List.countP_nil] <;> omega)))
        refine k_G (wc := cM g aM (.ref qK) (.ref qQ) (.ref qP) vM ++ (cA g qK vK ++ (cA g qP vP ++ (cQ g qQ bQ vQ)))) (wr := cA g q12 vN25_15 ++ (cA g qA vA)) (w1 := fun (u : Nat → Nat) => cM g aM (.ref qK) (.ref qQ) (.ref qP) vM ++ (cA g qK vK ++ (cA g qP vP ++ (cQ g qQ bQ vQ)))) (rv := fun (u : Nat → Nat) => (fun _ => some (.int r21)) u) hP hD hS hA hpm (va_runV (As := []) (rest := [.int x5_14]) ⟨hx, hb, hml, hown, htu⟩ ((c_X8_wires l g aM vM qK vK qP vP qQ bQ vQ r21 hg22) H.size) (cwV 0 htu (gU_V mw_3_126 hcX8_wires) rfl rfl rfl hdX8_wires ⟨Nat.le_of_ble_eq_true rfl, Nat.le_of_ble_eq_true rfl⟩) (k_preV (C := RX8) hK hP hD hS hA hG hpm (va_recv (ci := 8) (q0 := 1) (fs := fcM (.ref qK) (.ref qQ) (.ref qP) vM) (q := (RX8, TX8, 8)) hK hP rfl rfl)) rfl rfl hl.1 rfl (lv_room (Nat.le_of_ble_eq_true rfl)) dX8_values_35 (of_decide_eq_true h23)) hQ_G (fun u24 H locs hP hD hS => ?_)
        refine W.eq (g2 := F0 m 38 ls [.int r21, .int x5_14]) rfl ?_
        have hP : va_P g.1 vwCl ((cM g aM (.ref qK) (.ref qQ) (.ref qP) vM ++ (cA g qK vK ++ (cA g qP vP ++ (cQ g qQ bQ vQ)))) ++ (cA g q12 vN25_15 ++ (cA g qA vA))) H := hP
        have hD : va_D A ((cM g aM (.ref qK) (.ref qQ) (.ref qP) vM ++ (cA g qK vK ++ (cA g qP vP ++ (cQ g qQ bQ vQ)))) ++ (cA g q12 vN25_15 ++ (cA g qA vA))) := hD
        have hP : va_P g.1 vwCl (cM g aM (.ref qK) (.ref qQ) (.ref qP) vM ++ (cA g qK vK ++ (cA g qP vP ++ (cA g q12 vN25_15 ++ (cA g qA vA ++ (cQ g qQ bQ vQ)))))) H := hP.perm (kpc (fun P => by first | omega | (simp only [List.countP_append, List.countP_nil] <;> omega)))
        have hD : va_D A (cM g aM (.ref qK) (.ref qQ) (.ref qP) vM ++ (cA g qK vK ++ (cA g qP vP ++ (cA g q12 vN25_15 ++ (cA g qA vA ++ (cQ g qQ bQ vQ)))))) := hD.perm (kpc (fun P => by first | omega | (simp only [List.countP_append, List.countP_nil] <;> omega)))
        refine lv_icmp_ge (tgt := 228) hx hb dX8_values_38 (by decide) (fun c25 => ?_) (fun c25 => ?_)
        · have hf := it_t hf c25
          refine lv_aload hx hb dX8_values_228 (lv_at hl 4 rfl) ?_
          obtain ⟨h26, hf⟩ := gd_at hf
          have hP : va_P g.1 vwCl (cA g qA vA ++ (cM g aM (.ref qK) (.ref qQ) (.ref qP) vM ++ (cA g qK vK ++ (cA g qP vP ++ (cA g q12 vN25_15 ++ (cQ g qQ bQ vQ)))))) H := k_dropP hP (w3 := ([] : va_W)) (kpc (fun P => by first | omega | (simp only [List.countP_append, List.countP_nil] <;> omega)))
          have hD : va_D A (cA g qA vA ++ (cM g aM (.ref qK) (.ref qQ) (.ref qP) vM ++ (cA g qK vK ++ (cA g qP vP ++ (cA g q12 vN25_15 ++ (cQ g qQ bQ vQ)))))) := k_dropD hD (w3 := ([] : va_W)) (kpc (fun P => by first | omega | (simp only [List.countP_append, List.countP_nil] <;> omega)))
          have e27 := Option.some.inj hf
          rw [e27] at hP hD
          refine W.widen (k := 20) (n := 128) (of_decide_eq_true h26).1 (of_decide_eq_true h26).2 ?_
          exact k_Garet (w1 := fun (u : Nat → Nat) => cA g qA vA ++ (cM g aM (.ref qK) (.ref qQ) (.ref qP) vM ++ (cA g qK vK ++ (cA g qP vP ++ (cA g (u 0) vR01 ++ (cQ g qQ bQ vQ)))))) (rv := fun (u : Nat → Nat) => (fun u => some (.ref (u 0))) u) (u := (fun i => if i = 0 then q12 else 0)) hx hb hr (Or.inr ⟨_, rfl⟩) hlocks hK hP hD hS rfl dX8_values_230
        · have hf := it_f hf c25
          refine lv_iload hx hb dX8_values_41 (lv_at hl 5 rfl) ?_
          refine lv_aload_n hx hb dX8_values_43 rfl (lv_at hl 0 rfl) ?_
          refine va_get (D := g.1) (ci := 8) (fs := fcM (.ref qK) (.ref qQ) (.ref qP) vM) (v := .int (vM.1 0)) (C := RX8) (T := TX8) (N := 8) hx hb htu hinX8 hown hK hP 0 rfl rfl 0 (by decide) k_3_83 (fun x9 h9 => h9) rfl dX8_values_44 ?_
          obtain ⟨k31, hk43, hf⟩ := jn_at hf
          have hJ32 : ∀ (vN25_28 : Vs) (kc29 : Nat) (ks30 : Nat), k31 vN25_28 kc29 ks30 = some vR01 → ∀ (H : Heap) (locs : List Loc), va_P g.1 vwCl (cM g aM (.ref qK) (.ref qQ) (.ref qP) vM ++ (cA g qK vK ++ (cA g qP vP ++ (cA g q12 vN25_28 ++ (cA g qA vA ++ (cQ g qQ bQ vQ)))))) H → va_D A (cM g aM (.ref qK) (.ref qQ) (.ref qP) vM ++ (cA g qK vK ++ (cA g qP vP ++ (cA g q12 vN25_28 ++ (cA g qA vA ++ (cQ g qQ bQ vQ)))))) → va_S A s.heap H locs → ∀ ls : Array Slot, lv_has ls 8 [(0, .ref aM), (1, .ref qA), (2, .int x2), (3, .null), (4, .ref q12), (5, .int x5_14)] → W p l e (headSpec wsX8_values rmX8_values_m).room s m ([.ref aM, .ref qA, .int x2] : List Value).toArray below meth c H locs kc29 ks30 (MQ below (qG g A (fun (u : Nat → Nat) => cA g qA vA ++ (cM g aM (.ref qK) (.ref qQ) (.ref qP) vM ++ (cA g qK vK ++ (cA g qP vP ++ (cA g (u 0) vR01 ++ (cQ g qQ bQ vQ)))))) (fun (u : Nat → Nat) => (fun u => some (.ref (u 0))) u)) ([.ref aM, .ref qA, .int x2] : List Value).toArray s 20 128 A) (F0 m 141 ls []) := by
            intro vN25_28 kc29 ks30 hf H locs hP hD hS ls hl
            rw [hk43] at hf
            dsimp only at hf
            clear hk43
            refine lv_aload_nN hx hb dX8_values_141 rfl (lv_at hl 3 rfl) ?_
            refine lv_ifnonnullN hx hb dX8_values_142 ?_
            refine lv_iload_n hx hb dX8_values_145 rfl (lv_at hl 2 rfl) ?_
            obtain ⟨k34, hk36, hf⟩ := jn_at hf
            have hJ35 : ∀ (vN25_33 : Vs), k34 vN25_33 = some vR01 → ∀ (H : Heap) (locs : List Loc), va_P g.1 vwCl (cM g aM (.ref qK) (.ref qQ) (.ref qP) vM ++ (cA g qK vK ++ (cA g qP vP ++ (cA g q12 vN25_33 ++ (cA g qA vA ++ (cQ g qQ bQ vQ)))))) H → va_D A (cM g aM (.ref qK) (.ref qQ) (.ref qP) vM ++ (cA g qK vK ++ (cA g qP vP ++ (cA g q12 vN25_33 ++ (cA g qA vA ++ (cQ g qQ bQ vQ)))))) → va_S A s.heap H locs → ∀ ls : Array Slot, lv_has ls 8 [(0, .ref aM), (1, .ref qA), (2, .int x2), (3, .null), (4, .ref q12), (5, .int x5_14)] → W p l e (headSpec wsX8_values rmX8_values_m).room s m ([.ref aM, .ref qA, .int x2] : List Value).toArray below meth c H locs kc29 ks30 (MQ below (qG g A (fun (u : Nat → Nat) => cA g qA vA ++ (cM g aM (.ref qK) (.ref qQ) (.ref qP) vM ++ (cA g qK vK ++ (cA g qP vP ++ (cA g (u 0) vR01 ++ (cQ g qQ bQ vQ)))))) (fun (u : Nat → Nat) => (fun u => some (.ref (u 0))) u)) ([.ref aM, .ref qA, .int x2] : List Value).toArray s 20 128 A) (F0 m 167 ls []) := by
              intro vN25_33 hf H locs hP hD hS ls hl
              rw [hk36] at hf
              dsimp only at hf
              clear hk36
              refine lv_aload_nN hx hb dX8_values_167 rfl (lv_at hl 3 rfl) ?_
              refine lv_ifnullN (tgt := 222) hx hb dX8_values_168 (by decide) ?_
              refine lv_iinc (v := (x5_14 + (1 : Int32))) (lv' := [(5, .int (x5_14 + (1 : Int32))), (0, .ref aM), (1, .ref qA), (2, .int x2), (3, .null), (4, .ref q12)]) hx hb dX8_values_222 hl (k := 5) rfl rfl (by decide) rfl (fun ls hl => ?_)
              refine lv_goto (tgt := 32) hx hb dX8_values_225 (by decide) ?_
              have hP : va_P g.1 vwCl (cA g q12 vN25_33 ++ (cM g aM (.ref qK) (.ref qQ) (.ref qP) vM ++ (cA g qK vK ++ (cA g qP vP ++ (cA g qA vA ++ (cQ g qQ bQ vQ)))))) H := k_dropP hP (w3 := ([] : va_W)) (kpc (fun P => by first | omega | (simp only [List.countP_append, List.countP_nil] <;> omega)))
              have hD : va_D A (cA g q12 vN25_33 ++ (cM g aM (.ref qK) (.ref qQ) (.ref qP) vM ++ (cA g qK vK ++ (cA g qP vP ++ (cA g qA vA ++ (cQ g qQ bQ vQ)))))) := k_dropD hD (w3 := ([] : va_W)) (kpc (fun P => by first | omega | (simp only [List.countP_append, List.countP_nil] <;> omega)))
              exact ih20 (x5_14 + (1 : Int32)) vN25_33 kc29 ks30 hf H locs hP hD hS _ (lv_sub hl [1, 2, 3, 4, 5, 0] rfl)
            refine lv_if_lt (tgt := 167) hx hb dX8_values_146 (by decide) (fun c37 => ?_) (fun c37 => ?_)
            · have hf := it_t hf c37
              exact hJ35 vN25_28 hf H locs hP hD hS _ (lv_sub hl [0, 1, 2, 3, 4, 5] rfl)
            · have hf := it_f hf c37
              refine lv_iload_n hx hb dX8_values_149 rfl (lv_at hl 2 rfl) ?_
              refine lv_iconst (v := (2 : Int32)) hx hb dX8_values_150 (by decide) ?_
              obtain ⟨h38, hf⟩ := gd_nz hf
              refine lv_idiv hx hb dX8_values_151 h38 ?_
              refine lv_iload hx hb dX8_values_152 (lv_at hl 5 rfl) ?_
              refine lv_icmp_ne (tgt := 167) hx hb dX8_values_154 (by decide) (fun c39 => ?_) (fun c39 => ?_)
              · have hf := it_f hf c39
                exact hJ35 vN25_28 hf H locs hP hD hS _ (lv_sub hl [0, 1, 2, 3, 4, 5] rfl)
              · have hf := it_t hf c39
                refine lv_aload hx hb dX8_values_157 (lv_at hl 4 rfl) ?_
                refine lv_iload hx hb dX8_values_159 (lv_at hl 5 rfl) ?_
                refine lv_iconst (v := (1 : Int32)) hx hb dX8_values_161 (by decide) ?_
                refine lv_iload_n hx hb dX8_values_162 rfl (lv_at hl 2 rfl) ?_
                refine lv_iconst (v := (2 : Int32)) hx hb dX8_values_163 (by decide) ?_
                obtain ⟨h40, hf⟩ := gd_nz hf
                refine lv_irem hx hb dX8_values_164 h40 ?_
                refine lv_ishl hx hb dX8_values_165 ?_
                obtain ⟨h41, hf⟩ := gd_in hf
                refine va_iast (D := g.1) (f := (vN25_28.2.1 0)) hx hb hK hP hD hS 3 0 rfl rfl h41 dX8_values_166 (fun H locs hP hD hS => ?_)
                obtain ⟨vN25_42, evN25_42⟩ : ∃ z : Vs, z = sI vN25_28 0 (x5_14).toNatClampNeg ((1 : Int32) <<< ((x2 - x2 / (2 : Int32) * (2 : Int32)) &&& 31)) := ⟨_, rfl⟩
                have hf := bn_at hf evN25_42
                have hP : va_P g.1 vwCl (cM g aM (.ref qK) (.ref qQ) (.ref qP) vM ++ (cA g qK vK ++ (cA g qP vP ++ (cA g q12 vN25_42 ++ (cA g qA vA ++ (cQ g qQ bQ vQ)))))) H := by rw [evN25_42]; exact hP
                have hD : va_D A (cM g aM (.ref qK) (.ref qQ) (.ref qP) vM ++ (cA g qK vK ++ (cA g qP vP ++ (cA g q12 vN25_42 ++ (cA g qA vA ++ (cQ g qQ bQ vQ)))))) := by rw [evN25_42]; exact hD
                exact hJ35 vN25_42 hf H locs hP hD hS _ (lv_sub hl [0, 1, 2, 3, 4, 5] rfl)
          refine lv_icmp_ge (tgt := 62) hx hb dX8_values_47 (by decide) (fun c44 => ?_) (fun c44 => ?_)
          · have hf := it_t hf c44
            refine lv_aload_n hx hb dX8_values_62 rfl (lv_at hl 0 rfl) ?_
            refine va_get (D := g.1) (ci := 8) (fs := fcM (.ref qK) (.ref qQ) (.ref qP) vM) (v := .ref qQ) (C := RX8) (T := TX8) (N := 8) hx hb htu hinX8 hown hK hP 0 rfl rfl 3 (by decide) k_3_87 (fun x9 h9 => h9) rfl dX8_values_63 ?_
            refine lv_iload hx hb dX8_values_66 (lv_at hl 5 rfl) ?_
            refine lv_aload_n hx hb dX8_values_68 rfl (lv_at hl 0 rfl) ?_
            refine va_get (D := g.1) (ci := 8) (fs := fcM (.ref qK) (.ref qQ) (.ref qP) vM) (v := .int (vM.1 0)) (C := RX8) (T := TX8) (N := 8) hx hb htu hinX8 hown hK hP 0 rfl rfl 0 (by decide) k_3_83 (fun x9 h9 => h9) rfl dX8_values_69 ?_
            refine lv_isub hx hb dX8_values_72 ?_
            obtain ⟨h45, hf⟩ := gd_at hf
            rw [Bool.and_eq_true] at h45
            refine va_aldA (D := g.1) (f := rfQ bQ (vQ.1 9).toNatClampNeg) (ty := .int) hx hb hK hP 5 5 rfl rfl (inb_in h45.1) dX8_values_73 ?_
            rw [rfQ_at (of_decide_eq_true h45.2)]
            refine va_alen (D := g.1) (v := (nI (vQ.1 (20 + ((x5_14 - (vM.1 0))).toNatClampNeg)).toNatClampNeg)) (x := ((vQ.1 (20 + ((x5_14 - (vM.1 0))).toNatClampNeg)).toNatClampNeg, .inl (vQ.2.1 ((x5_14 - (vM.1 0))).toNatClampNeg))) (ty := .int) hx hb hK hP (((x5_14 - (vM.1 0))).toNatClampNeg + 6) 0 (q_row g qQ bQ vQ (of_decide_eq_true h45.2)) rfl rfl dX8_values_74 ?_
            obtain ⟨h46, hf⟩ := gd_at hf
            obtain ⟨h46a, h46b, h46c, h46d⟩ := of_decide_eq_true h46
            refine k_newI (N' := ((nI (vQ.1 (20 + ((x5_14 - (vM.1 0))).toNatClampNeg)).toNatClampNeg)).toNatClampNeg) hx hb k_1_119 hK hP hD hS hA h46a rfl (Nat.le_trans (Nat.mul_le_mul_right _ h46b) (Nat.le_of_ble_eq_true rfl)) h46c h46d dX8_values_75 (fun q47 H hP hD hS => ?_)
            obtain ⟨vN75_48, evN75_48⟩ : ∃ z : Vs, z = aV (nI (vQ.1 (20 + ((x5_14 - (vM.1 0))).toNatClampNeg)).toNatClampNeg) (fun _ => 0) := ⟨_, rfl⟩
            have hf := bn_at hf evN75_48
            have hP : va_P g.1 vwCl (cM g aM (.ref qK) (.ref qQ) (.ref qP) vM ++ (cA g qK vK ++ (cA g qP vP ++ (cA g q12 vN25_15 ++ (cA g qA vA ++ (cQ g qQ bQ vQ))))) ++ (cA g q47 vN75_48)) H := by rw [evN75_48]; exact hP
            have hD : va_D A (cM g aM (.ref qK) (.ref qQ) (.ref qP) vM ++ (cA g qK vK ++ (cA g qP vP ++ (cA g q12 vN25_15 ++ (cA g qA vA ++ (cQ g qQ bQ vQ))))) ++ (cA g q47 vN75_48)) := by rw [evN75_48]; exact hD
            have hP : va_P g.1 vwCl (cA g q47 vN75_48 ++ (cM g aM (.ref qK) (.ref qQ) (.ref qP) vM ++ (cA g qK vK ++ (cA g qP vP ++ (cA g q12 vN25_15 ++ (cA g qA vA ++ (cQ g qQ bQ vQ))))))) H := hP.perm (kpc (fun P => by first | omega | (simp only [List.countP_append, List.countP_nil] <;> omega)))
            have hD : va_D A (cA g q47 vN75_48 ++ (cM g aM (.ref qK) (.ref qQ) (.ref qP) vM ++ (cA g qK vK ++ (cA g qP vP ++ (cA g q12 vN25_15 ++ (cA g qA vA ++ (cQ g qQ bQ vQ))))))) := hD.perm (kpc (fun P => by first | omega | (simp only [List.countP_append, List.countP_nil] <;> omega)))
            refine lv_astore (lv' := [(6, .ref q47), (0, .ref aM), (1, .ref qA), (2, .int x2), (3, .null), (4, .ref q12), (5, .int x5_14)]) hx hb dX8_values_77 hl (by decide) rfl (fun ls hl => ?_)
            refine lv_iconst (v := (0 : Int32)) hx hb dX8_values_79 (by decide) ?_
            refine lv_istore (lv' := [(7, .int (0 : Int32)), (6, .ref q47), (0, .ref aM), (1, .ref qA), (2, .int x2), (3, .null), (4, .ref q12), (5, .int x5_14)]) hx hb dX8_values_80 hl (by decide) rfl (fun ls hl => ?_)
            have hL52 : ∀ (x7_49 : Int32) (vN75_50 : Vs), lp (f_X8_values_m_L82 vM vK vQ x5_14 vN25_15 kc16 ks17 k31) (fun _ _ => none) FU x7_49 vN75_50 = some vR01 → ∀ (H : Heap) (locs : List Loc), va_P g.1 vwCl (cA g q47 vN75_50 ++ (cM g aM (.ref qK) (.ref qQ) (.ref qP) vM ++ (cA g qK vK ++ (cA g qP vP ++ (cA g q12 vN25_15 ++ (cA g qA vA ++ (cQ g qQ bQ vQ))))))) H → va_D A (cA g q47 vN75_50 ++ (cM g aM (.ref qK) (.ref qQ) (.ref qP) vM ++ (cA g qK vK ++ (cA g qP vP ++ (cA g q12 vN25_15 ++ (cA g qA vA ++ (cQ g qQ bQ vQ))))))) → va_S A s.heap H locs → ∀ ls : Array Slot, lv_has ls 8 [(0, .ref aM), (1, .ref qA), (2, .int x2), (3, .null), (4, .ref q12), (5, .int x5_14), (6, .ref q47), (7, .int x7_49)] → W p l e (headSpec wsX8_values rmX8_values_m).room s m ([.ref aM, .ref qA, .int x2] : List Value).toArray below meth c H locs (kc16 + 1) (ks17 + ((nI (vQ.1 (20 + ((x5_14 - (vM.1 0))).toNatClampNeg)).toNatClampNeg)).toNatClampNeg) (MQ below (qG g A (fun (u : Nat → Nat) => cA g qA vA ++ (cM g aM (.ref qK) (.ref qQ) (.ref qP) vM ++ (cA g qK vK ++ (cA g qP vP ++ (cA g (u 0) vR01 ++ (cQ g qQ bQ vQ)))))) (fun (u : Nat → Nat) => (fun u => some (.ref (u 0))) u)) ([.ref aM, .ref qA, .int x2] : List Value).toArray s 20 128 A) (F0 m 82 ls []) := by
              refine lp_ind (T := Int32 → Vs → Option (Vs)) (fun self51 => ∀ (x7_49 : Int32) (vN75_50 : Vs), self51 x7_49 vN75_50 = some vR01 → ∀ (H : Heap) (locs : List Loc), va_P g.1 vwCl (cA g q47 vN75_50 ++ (cM g aM (.ref qK) (.ref qQ) (.ref qP) vM ++ (cA g qK vK ++ (cA g qP vP ++ (cA g q12 vN25_15 ++ (cA g qA vA ++ (cQ g qQ bQ vQ))))))) H → va_D A (cA g q47 vN75_50 ++ (cM g aM (.ref qK) (.ref qQ) (.ref qP) vM ++ (cA g qK vK ++ (cA g qP vP ++ (cA g q12 vN25_15 ++ (cA g qA vA ++ (cQ g qQ bQ vQ))))))) → va_S A s.heap H locs → ∀ ls : Array Slot, lv_has ls 8 [(0, .ref aM), (1, .ref qA), (2, .int x2), (3, .null), (4, .ref q12), (5, .int x5_14), (6, .ref q47), (7, .int x7_49)] → W p l e (headSpec wsX8_values rmX8_values_m).room s m ([.ref aM, .ref qA, .int x2] : List Value).toArray below meth c H locs (kc16 + 1) (ks17 + ((nI (vQ.1 (20 + ((x5_14 - (vM.1 0))).toNatClampNeg)).toNatClampNeg)).toNatClampNeg) (MQ below (qG g A (fun (u : Nat → Nat) => cA g qA vA ++ (cM g aM (.ref qK) (.ref qQ) (.ref qP) vM ++ (cA g qK vK ++ (cA g qP vP ++ (cA g (u 0) vR01 ++ (cQ g qQ bQ vQ)))))) (fun (u : Nat → Nat) => (fun u => some (.ref (u 0))) u)) ([.ref aM, .ref qA, .int x2] : List Value).toArray s 20 128 A) (F0 m 82 ls [])) ?_ ?_ FU
              · intro x7_49 vN75_50 hf; cases hf
              · intro self51 ih53 x7_49 vN75_50 hf H locs hP hD hS ls hl
                unfold f_X8_values_m_L82 at hf
                refine lv_iload hx hb dX8_values_82 (lv_at hl 7 rfl) ?_
                refine lv_aload hx hb dX8_values_84 (lv_at hl 6 rfl) ?_
                refine va_alen (D := g.1) (v := (nI (vN75_50.1 9).toNatClampNeg)) (ty := .int) hx hb hK hP 0 0 rfl rfl rfl dX8_values_86 ?_
                refine lv_icmp_ge (tgt := 119) hx hb dX8_values_87 (by decide) (fun c54 => ?_) (fun c54 => ?_)
                · have hf := it_t hf c54
                  refine lv_aload hx hb dX8_values_119 (lv_at hl 4 rfl) ?_
                  refine lv_iload hx hb dX8_values_121 (lv_at hl 5 rfl) ?_
                  refine lv_aload_n hx hb dX8_values_123 rfl (lv_at hl 0 rfl) ?_
                  refine va_get (D := g.1) (ci := 8) (fs := fcM (.ref qK) (.ref qQ) (.ref qP) vM) (v := .ref qK) (C := RX8) (T := TX8) (N := 8) hx hb htu hinX8 hown hK hP 1 rfl rfl 2 (by decide) k_3_85 (fun x9 h9 => h9) rfl dX8_values_124 ?_
                  refine lv_iload hx hb dX8_values_127 (lv_at hl 5 rfl) ?_
                  refine lv_aload_n hx hb dX8_values_129 rfl (lv_at hl 0 rfl) ?_
                  refine va_get (D := g.1) (ci := 8) (fs := fcM (.ref qK) (.ref qQ) (.ref qP) vM) (v := .int (vM.1 0)) (C := RX8) (T := TX8) (N := 8) hx hb htu hinX8 hown hK hP 1 rfl rfl 0 (by decide) k_3_83 (fun x9 h9 => h9) rfl dX8_values_130 ?_
                  refine lv_isub hx hb dX8_values_133 ?_
                  obtain ⟨h55, hf⟩ := gd_in hf
                  refine va_iald (D := g.1) (f := (vK.2.1 0)) hx hb hK hP 2 0 rfl rfl h55 dX8_values_134 ?_
                  refine lv_aload hx hb dX8_values_135 (lv_at hl 6 rfl) ?_
                  obtain ⟨h58, hf⟩ := gd_at hf
                  obtain ⟨r56, hg57, hf⟩ := o1_at hf
                  have hpm : (cA g q47 vN75_50 ++ (cM g aM (.ref qK) (.ref qQ) (.ref qP) vM ++ (cA g qK vK ++ (cA g qP vP ++ (cA g q12 vN25_15 ++ (cA g qA vA ++ (cQ g qQ bQ vQ))))))).Perm ((cA g q47 vN75_50) ++ (cM g aM (.ref qK) (.ref qQ) (.ref qP) vM ++ (cA g qK vK ++ (cA g qP vP ++ (cA g q12 vN25_15 ++ (cA g qA vA ++ (cQ g qQ bQ vQ))))))) := (kpc (fun P => by first | omega | (simp only [List.countP_append, List.countP_nil] <;> omega)))
                  refine k_G (wc := cA g q47 vN75_50) (wr := cM g aM (.ref qK) (.ref qQ) (.ref qP) vM ++ (cA g qK vK ++ (cA g qP vP ++ (cA g q12 vN25_15 ++ (cA g qA vA ++ (cQ g qQ bQ vQ)))))) (w1 := fun (u : Nat → Nat) => cA g q47 vN75_50) (rv := fun (u : Nat → Nat) => (fun _ => some (.int r56)) u) hP hD hS hA hpm (va_runSN (As := [.int (vK.2.1 0 ((x5_14 - (vM.1 0))).toNatClampNeg), .ref q47]) (rest := [.int x5_14, .ref q12]) ⟨hx, hb, hml, hown, htu⟩ ((c_L_sets l g q47 vN75_50 (vK.2.1 0 ((x5_14 - (vM.1 0))).toNatClampNeg) r56 hg57) H.size) ⟨va_cnB 2 htu (gU_0 hcL_sets.2.2) rfl rfl rfl (hG.1.2.2.1 ("FaultTestsLaw$Model", 39, yL_sets, "FaultTestsLaw") (List.mem_of_getElem? (i := 6) rfl)) (htu _ hcL_sets.2.1) hdL_sets ⟨Nat.le_of_ble_eq_true rfl, Nat.le_of_ble_eq_true rfl⟩, htu _ hcL_sets.1, trivial⟩ (k_preS hK hP hD hS hA hG hpm) rfl rfl hl.1 rfl (lv_room (Nat.le_of_ble_eq_true rfl)) dX8_values_137 (of_decide_eq_true h58)) hQ_G (fun u59 H locs hP hD hS => ?_)
                  refine W.eq (g2 := F0 m 140 ls [.int r56, .int x5_14, .ref q12]) rfl ?_
                  have hP : va_P g.1 vwCl ((cA g q47 vN75_50) ++ (cM g aM (.ref qK) (.ref qQ) (.ref qP) vM ++ (cA g qK vK ++ (cA g qP vP ++ (cA g q12 vN25_15 ++ (cA g qA vA ++ (cQ g qQ bQ vQ))))))) H := hP
                  have hD : va_D A ((cA g q47 vN75_50) ++ (cM g aM (.ref qK) (.ref qQ) (.ref qP) vM ++ (cA g qK vK ++ (cA g qP vP ++ (cA g q12 vN25_15 ++ (cA g qA vA ++ (cQ g qQ bQ vQ))))))) := hD
                  have hP : va_P g.1 vwCl (cA g q47 vN75_50 ++ (cM g aM (.ref qK) (.ref qQ) (.ref qP) vM ++ (cA g qK vK ++ (cA g qP vP ++ (cA g q12 vN25_15 ++ (cA g qA vA ++ (cQ g qQ bQ vQ))))))) H := hP.perm (kpc (fun P => by first | omega | (simp only [List.countP_append, List.countP_nil] <;> omega)))
                  have hD : va_D A (cA g q47 vN75_50 ++ (cM g aM (.ref qK) (.ref qQ) (.ref qP) vM ++ (cA g qK vK ++ (cA g qP vP ++ (cA g q12 vN25_15 ++ (cA g qA vA ++ (cQ g qQ bQ vQ))))))) := hD.perm (kpc (fun P => by first | omega | (simp only [List.countP_append, List.countP_nil] <;> omega)))
                  obtain ⟨h60, hf⟩ := gd_in hf
                  refine va_iast (D := g.1) (f := (vN25_15.2.1 0)) hx hb hK hP hD hS 4 0 rfl rfl h60 dX8_values_140 (fun H locs hP hD hS => ?_)
                  obtain ⟨vN25_61, evN25_61⟩ : ∃ z : Vs, z = sI vN25_15 0 (x5_14).toNatClampNeg r56 := ⟨_, rfl⟩
                  have hf := bn_at hf evN25_61
                  have hP : va_P g.1 vwCl (cA g q47 vN75_50 ++ (cM g aM (.ref qK) (.ref qQ) (.ref qP) vM ++ (cA g qK vK ++ (cA g qP vP ++ (cA g q12 vN25_61 ++ (cA g qA vA ++ (cQ g qQ bQ vQ))))))) H := by rw [evN25_61]; exact hP
                  have hD : va_D A (cA g q47 vN75_50 ++ (cM g aM (.ref qK) (.ref qQ) (.ref qP) vM ++ (cA g qK vK ++ (cA g qP vP ++ (cA g q12 vN25_61 ++ (cA g qA vA ++ (cQ g qQ bQ vQ))))))) := by rw [evN25_61]; exact hD
                  have hP : va_P g.1 vwCl (cM g aM (.ref qK) (.ref qQ) (.ref qP) vM ++ (cA g qK vK ++ (cA g qP vP ++ (cA g q12 vN25_61 ++ (cA g qA vA ++ (cQ g qQ bQ vQ)))))) H := k_dropP hP (w3 := cA g q47 vN75_50) (kpc (fun P => by first | omega | (simp only [List.countP_append, List.countP_nil] <;> omega)))
                  have hD : va_D A (cM g aM (.ref qK) (.ref qQ) (.ref qP) vM ++ (cA g qK vK ++ (cA g qP vP ++ (cA g q12 vN25_61 ++ (cA g qA vA ++ (cQ g qQ bQ vQ)))))) := k_dropD hD (w3 := cA g q47 vN75_50) (kpc (fun P => by first | omega | (simp only [List.countP_append, List.countP_nil] <;> omega)))
                  exact hJ32 vN25_61 (kc16 + 1) (ks17 + ((nI (vQ.1 (20 + ((x5_14 - (vM.1 0))).toNatClampNeg)).toNatClampNeg)).toNatClampNeg) hf H locs hP hD hS _ (lv_sub hl [0, 1, 2, 3, 4, 5] rfl)
                · have hf := it_f hf c54
                  refine lv_aload hx hb dX8_values_90 (lv_at hl 6 rfl) ?_
                  refine lv_iload hx hb dX8_values_92 (lv_at hl 7 rfl) ?_
                  refine lv_aload hx hb dX8_values_94 (lv_at hl 4 rfl) ?_
                  refine lv_aload_n hx hb dX8_values_96 rfl (lv_at hl 0 rfl) ?_
                  refine va_get (D := g.1) (ci := 8) (fs := fcM (.ref qK) (.ref qQ) (.ref qP) vM) (v := .ref qQ) (C := RX8) (T := TX8) (N := 8) hx hb htu hinX8 hown hK hP 1 rfl rfl 3 (by decide) k_3_87 (fun x9 h9 => h9) rfl dX8_values_97 ?_
                  refine lv_iload hx hb dX8_values_100 (lv_at hl 5 rfl) ?_
                  refine lv_aload_n hx hb dX8_values_102 rfl (lv_at hl 0 rfl) ?_
                  refine va_get (D := g.1) (ci := 8) (fs := fcM (.ref qK) (.ref qQ) (.ref qP) vM) (v := .int (vM.1 0)) (C := RX8) (T := TX8) (N := 8) hx hb htu hinX8 hown hK hP 1 rfl rfl 0 (by decide) k_3_83 (fun x9 h9 => h9) rfl dX8_values_103 ?_
                  refine lv_isub hx hb dX8_values_106 ?_
                  obtain ⟨h62, hf⟩ := gd_at hf
                  rw [Bool.and_eq_true] at h62
                  refine va_aldA (D := g.1) (f := rfQ bQ (vQ.1 9).toNatClampNeg) (ty := .int) hx hb hK hP 6 5 rfl rfl (inb_in h62.1) dX8_values_107 ?_
                  rw [rfQ_at (of_decide_eq_true h62.2)]
                  refine lv_iload hx hb dX8_values_108 (lv_at hl 7 rfl) ?_
                  obtain ⟨h63, hf⟩ := gd_in hf
                  refine va_iald (D := g.1) (f := (vQ.2.1 ((x5_14 - (vM.1 0))).toNatClampNeg)) hx hb hK hP (((x5_14 - (vM.1 0))).toNatClampNeg + 7) 0 (q_row g qQ bQ vQ (of_decide_eq_true h62.2)) rfl h63 dX8_values_110 ?_
                  obtain ⟨h64, hf⟩ := gd_in hf
                  refine va_iald (D := g.1) (f := (vN25_15.2.1 0)) hx hb hK hP 4 0 rfl rfl h64 dX8_values_111 ?_
                  obtain ⟨h65, hf⟩ := gd_in hf
                  refine va_iast (D := g.1) (f := (vN75_50.2.1 0)) hx hb hK hP hD hS 0 0 rfl rfl h65 dX8_values_112 (fun H locs hP hD hS => ?_)
                  obtain ⟨vN75_66, evN75_66⟩ : ∃ z : Vs, z = sI vN75_50 0 (x7_49).toNatClampNeg (vN25_15.2.1 0 ((vQ.2.1 ((x5_14 - (vM.1 0))).toNatClampNeg (x7_49).toNatClampNeg)).toNatClampNeg) := ⟨_, rfl⟩
                  have hf := bn_at hf evN75_66
                  have hP : va_P g.1 vwCl (cA g q47 vN75_66 ++ (cM g aM (.ref qK) (.ref qQ) (.ref qP) vM ++ (cA g qK vK ++ (cA g qP vP ++ (cA g q12 vN25_15 ++ (cA g qA vA ++ (cQ g qQ bQ vQ))))))) H := by rw [evN75_66]; exact hP
                  have hD : va_D A (cA g q47 vN75_66 ++ (cM g aM (.ref qK) (.ref qQ) (.ref qP) vM ++ (cA g qK vK ++ (cA g qP vP ++ (cA g q12 vN25_15 ++ (cA g qA vA ++ (cQ g qQ bQ vQ))))))) := by rw [evN75_66]; exact hD
                  refine lv_iinc (v := (x7_49 + (1 : Int32))) (lv' := [(7, .int (x7_49 + (1 : Int32))), (0, .ref aM), (1, .ref qA), (2, .int x2), (3, .null), (4, .ref q12), (5, .int x5_14), (6, .ref q47)]) hx hb dX8_values_113 hl (k := 7) rfl rfl (by decide) rfl (fun ls hl => ?_)
                  refine lv_goto (tgt := 82) hx hb dX8_values_116 (by decide) ?_
                  exact ih53 (x7_49 + (1 : Int32)) vN75_66 hf H locs hP hD hS _ (lv_sub hl [1, 2, 3, 4, 5, 6, 7, 0] rfl)
            exact hL52 (0 : Int32) vN75_48 hf H locs hP hD hS _ (lv_sub hl [2, 3, 4, 5, 6, 7, 1, 0] rfl)
          · have hf := it_f hf c44
            refine lv_aload hx hb dX8_values_50 (lv_at hl 4 rfl) ?_
            refine lv_iload hx hb dX8_values_52 (lv_at hl 5 rfl) ?_
            refine lv_aload_n hx hb dX8_values_54 rfl (lv_at hl 1 rfl) ?_
            refine lv_iload hx hb dX8_values_55 (lv_at hl 5 rfl) ?_
            obtain ⟨h67, hf⟩ := gd_in hf
            refine va_iald (D := g.1) (f := (vA.2.1 0)) hx hb hK hP 4 0 rfl rfl h67 dX8_values_57 ?_
            obtain ⟨h68, hf⟩ := gd_in hf
            refine va_iast (D := g.1) (f := (vN25_15.2.1 0)) hx hb hK hP hD hS 3 0 rfl rfl h68 dX8_values_58 (fun H locs hP hD hS => ?_)
            obtain ⟨vN25_69, evN25_69⟩ : ∃ z : Vs, z = sI vN25_15 0 (x5_14).toNatClampNeg (vA.2.1 0 (x5_14).toNatClampNeg) := ⟨_, rfl⟩
            have hf := bn_at hf evN25_69
            have hP : va_P g.1 vwCl (cM g aM (.ref qK) (.ref qQ) (.ref qP) vM ++ (cA g qK vK ++ (cA g qP vP ++ (cA g q12 vN25_69 ++ (cA g qA vA ++ (cQ g qQ bQ vQ)))))) H := by rw [evN25_69]; exact hP
            have hD : va_D A (cM g aM (.ref qK) (.ref qQ) (.ref qP) vM ++ (cA g qK vK ++ (cA g qP vP ++ (cA g q12 vN25_69 ++ (cA g qA vA ++ (cQ g qQ bQ vQ)))))) := by rw [evN25_69]; exact hD
            refine lv_goto (tgt := 141) hx hb dX8_values_59 (by decide) ?_
            exact hJ32 vN25_69 kc16 ks17 hf H locs hP hD hS _ (lv_sub hl [0, 1, 2, 3, 4, 5] rfl)
    exact hL19 (0 : Int32) vN25_13 (0 + 1) (0 + (r7).toNatClampNeg) hf H locs hP hD hS _ (lv_sub hl [3, 4, 5, 2, 1, 0] rfl)
  rw [hH, hlo] at hW
  exact hW
def f_X8_values (vA : Vs) (vM : Vs) (vK : Vs) (vP : Vs) (vQ : Vs) (x2 : Int32) : Option (Vs) := if x2 < (2 : Int32) * (vM.1 0 + vM.1 1) then f_X8_values_m vA vM vK vP vQ x2 else f_X8_values_b vA vM vK vP vQ x2
abbrev rmX8_values : Room := rmX8_values_b
theorem c_X8_values (l : Launch) (g : Gx) (qA : Nat) (vA : Vs) (aM : Nat) (vM : Vs) (qK : Nat) (vK : Vs) (qP : Nat) (vP : Vs) (qQ : Nat) (bQ : Nat → Nat) (vQ : Vs) (x2 : Int32) (vR01 : Vs) (hf : f_X8_values vA vM vK vP vQ x2 = some vR01) : CtG l yX8_values wsX8_values rmX8_values g [.ref aM, .ref qA, .int x2] (cA g qA vA ++ (cM g aM (.ref qK) (.ref qQ) (.ref qP) vM ++ (cA g qK vK ++ (cA g qP vP ++ (cQ g qQ bQ vQ))))) (fun (u : Nat → Nat) => cA g qA vA ++ (cM g aM (.ref qK) (.ref qQ) (.ref qP) vM ++ (cA g qK vK ++ (cA g qP vP ++ (cA g (u 0) vR01 ++ (cQ g qQ bQ vQ)))))) (fun (u : Nat → Nat) => (fun u => some (.ref (u 0))) u) 20 128 := by
  unfold f_X8_values at hf
  split at hf
  · exact c_X8_values_m l g qA vA aM vM qK vK qP vP qQ bQ vQ x2 vR01 hf
  · exact c_X8_values_b l g qA vA aM vM qK vK qP vP qQ bQ vQ x2 vR01 hf
