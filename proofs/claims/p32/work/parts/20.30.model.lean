def f_X8_finds_L32 (vP : Vs) (vN3_1 : Vs) (vN10_5 : Vs) (self11 : Int32 → Int32 → Option (Int32)) (x5_9 : Int32) (x8_10 : Int32) : Option (Int32) :=
  if (nI (vP.1 9).toNatClampNeg) ≤ x8_10 then gd (decide (((0 + 20) + 20) ≤ 40 ∧ ((0 + 128) + 128) ≤ 256)) (some (x5_9)) else gd (inb x8_10 (vP.1 9).toNatClampNeg) (gd (inb (vP.2.1 0 (x8_10).toNatClampNeg) (vN3_1.1 9).toNatClampNeg) (jn (fun (x5_19 : Int32) => self11 x5_19 (x8_10 + (1 : Int32))) (fun k20 => if (vN3_1.2.1 0 ((vP.2.1 0 (x8_10).toNatClampNeg)).toNatClampNeg) = (3 : Int32) then k20 x5_9 else gd (inb (vP.2.1 0 (x8_10).toNatClampNeg) (vN3_1.1 9).toNatClampNeg) (gd (inb (vP.2.1 0 (x8_10).toNatClampNeg) (vN10_5.1 9).toNatClampNeg) (if (vN3_1.2.1 0 ((vP.2.1 0 (x8_10).toNatClampNeg)).toNatClampNeg) = (vN10_5.2.1 0 ((vP.2.1 0 (x8_10).toNatClampNeg)).toNatClampNeg) then k20 x5_9 else gd (inb (vP.2.1 0 (x8_10).toNatClampNeg) (vN10_5.1 9).toNatClampNeg) (jn (fun (t28 : Int32) => gd (decide (((0 + 20) + 20) ≤ 40 ∧ ((0 + 128) + 128) ≤ 256)) (k20 (if x5_9 < t28 then t28 else x5_9))) (fun k29 => if (vN10_5.2.1 0 ((vP.2.1 0 (x8_10).toNatClampNeg)).toNatClampNeg) = (3 : Int32) then k29 (1 : Int32) else k29 (2 : Int32))))))))
def f_X8_finds (vA : Vs) (vM : Vs) (vK : Vs) (vP : Vs) (vQ : Vs) (x2 : Int32) : Option (Int32) :=
  gd (decide (0 + 20 ≤ 40 ∧ 0 + 128 ≤ 256)) (o1 (f_X8_values vA vM vK vP vQ (-1 : Int32)) (fun (vN3_1 : Vs) => gd (decide ((0 + 20) + 20 ≤ 40 ∧ (0 + 128) + 128 ≤ 256)) (o1 (f_X8_values vA vM vK vP vQ x2) (fun (vN10_5 : Vs) => lp (f_X8_finds_L32 vP vN3_1 vN10_5) (fun _ _ => none) FU (0 : Int32) (0 : Int32)))))
abbrev wsX8_finds : List Cond := .code yX8_finds cX8_finds 10 (some .int) :: UW
abbrev rmX8_finds : Room := { frames := 5, cells := 40, slots := 256, locals := 127 }
set_option maxHeartbeats 4000000 in
set_option maxRecDepth 100000 in
theorem c_X8_finds (l : Launch) (g : Gx) (qA : Nat) (vA : Vs) (aM : Nat) (vM : Vs) (qK : Nat) (vK : Vs) (qP : Nat) (vP : Vs) (qQ : Nat) (bQ : Nat → Nat) (vQ : Vs) (x2 : Int32) (r : Int32) (hf : f_X8_finds vA vM vK vP vQ x2 = some r) : CtG l yX8_finds wsX8_finds rmX8_finds g [.ref aM, .ref qA, .int x2] (cA g qA vA ++ (cM g aM (.ref qK) (.ref qQ) (.ref qP) vM ++ (cA g qK vK ++ (cA g qP vP ++ (cQ g qQ bQ vQ))))) (fun (u : Nat → Nat) => cA g qA vA ++ (cM g aM (.ref qK) (.ref qQ) (.ref qP) vM ++ (cA g qK vK ++ (cA g qP vP ++ (cQ g qQ bQ vQ))))) (fun (u : Nat → Nat) => (fun _ => some (.int r)) u) 40 256 := by
  unfold CtG
  intro sz
  refine Met.ofW (cc := cX8_finds) (maxL := 10) (ret := (some .int)) (by decide) rfl ?_
  intro p e s m args below meth c s₁ B hml hv
  obtain ⟨rfl, hsz, hP, hK, hD0, hG⟩ := hv
  have hx := B.exec
  have hb := B.bytes
  have hr := B.returns
  have hts := atoms_spec (ws := wsX8_finds) B.pre
  have hown : s.vm.findClass RX8 = some m.cls := findClass_of_methodNamed B.named
  have hlocks := B.notSynchronized
  subst hsz
  have hD := hD0.self (sz := s.heap.size)
  generalize hAe : va_A (cA g qA vA ++ (cM g aM (.ref qK) (.ref qQ) (.ref qP) vM ++ (cA g qK vK ++ (cA g qP vP ++ (cQ g qQ bQ vQ))))) s.heap.size = A at hD hG ⊢
  have hA : ∀ q : Nat, s.heap.size ≤ q → A q := fun q h => by rw [← hAe]; exact Or.inr h
  clear hAe hD0
  have hS : va_S A s.heap s.heap [] := va_S.rf
  have hl := lv_entry ([.ref aM, .ref qA, .int x2]) (n := 10) (Nat.le_of_ble_eq_true rfl)
  rw [lg_entry_eq]
  generalize (lg_sl ([.ref aM, .ref qA, .int x2]) ++ List.replicate (10 - (lg_sl ([.ref aM, .ref qA, .int x2])).length) Slot.unset).toArray = ls at hl ⊢
  have hl : lv_has ls 10 [(0, .ref aM), (1, .ref qA), (2, .int x2)] := hl
  have htu : ∀ w ∈ UW, w.before _ s = true := fun w h => hts w (List.mem_cons_of_mem _ h)
  have k_3_89 := htu _ mw_3_89
  have k_3_133 := htu _ mw_3_133
  have k_2_133 := htu _ mw_2_133
  have k_1_7 := htu _ mw_1_7
  have k_2_134 := htu _ mw_2_134
  unfold f_X8_finds at hf
  obtain ⟨H, hH⟩ : ∃ z, z = s.heap := ⟨_, rfl⟩
  obtain ⟨locs, hlo⟩ : ∃ z : List Loc, z = [] := ⟨_, rfl⟩
  have hS : va_S A s.heap H locs := by rw [hH, hlo]; exact hS
  rw [← hH] at hP
  have hW : W p l e (headSpec wsX8_finds rmX8_finds).room s m ([.ref aM, .ref qA, .int x2] : List Value).toArray below meth c H locs 0 0 (MQ below (qG g A (fun (u : Nat → Nat) => cA g qA vA ++ (cM g aM (.ref qK) (.ref qQ) (.ref qP) vM ++ (cA g qK vK ++ (cA g qP vP ++ (cQ g qQ bQ vQ))))) (fun (u : Nat → Nat) => (fun _ => some (.int r)) u)) ([.ref aM, .ref qA, .int x2] : List Value).toArray s 40 256 A) (F0 m 0 ls []) := by
    refine lv_aload_n hx hb dX8_finds_0 rfl (lv_at hl 0 rfl) ?_
    refine lv_aload_n hx hb dX8_finds_1 rfl (lv_at hl 1 rfl) ?_
    refine lv_iconst (v := (-1 : Int32)) hx hb dX8_finds_2 (by decide) ?_
    obtain ⟨h3, hf⟩ := gd_at hf
    obtain ⟨vN3_1, hg2, hf⟩ := o1_at hf
    have hpm : (cA g qA vA ++ (cM g aM (.ref qK) (.ref qQ) (.ref qP) vM ++ (cA g qK vK ++ (cA g qP vP ++ (cQ g qQ bQ vQ))))).Perm ((cA g qA vA ++ (cM g aM (.ref qK) (.ref qQ) (.ref qP) vM ++ (cA g qK vK ++ (cA g qP vP ++ (cQ g qQ bQ vQ))))) ++ (([] : va_W))) := (kpc (fun P => by first | omega | (simp only [List.countP_append, List.countP_nil] <;> omega)))
    refine k_G (wc := cA g qA vA ++ (cM g aM (.ref qK) (.ref qQ) (.ref qP) vM ++ (cA g qK vK ++ (cA g qP vP ++ (cQ g qQ bQ vQ))))) (wr := ([] : va_W)) (w1 := fun (u : Nat → Nat) => cA g qA vA ++ (cM g aM (.ref qK) (.ref qQ) (.ref qP) vM ++ (cA g qK vK ++ (cA g qP vP ++ (cA g (u 0) vN3_1 ++ (cQ g qQ bQ vQ)))))) (rv := fun (u : Nat → Nat) => (fun u => some (.ref (u 0))) u) hP hD hS hA hpm (va_runV (As := [.ref qA, .int (-1 : Int32)]) (rest := []) ⟨hx, hb, hml, hown, htu⟩ ((c_X8_values l g qA vA aM vM qK vK qP vP qQ bQ vQ (-1 : Int32) vN3_1 hg2) H.size) (cwV 2 htu (gU_V mw_3_122 hcX8_values) rfl rfl rfl hdX8_values ⟨Nat.le_of_ble_eq_true rfl, Nat.le_of_ble_eq_true rfl⟩) (k_preV (C := RX8) hK hP hD hS hA hG hpm (va_recv (ci := 8) (q0 := 1) (fs := fcM (.ref qK) (.ref qQ) (.ref qP) vM) (q := (RX8, TX8, 8)) hK hP rfl rfl)) rfl rfl hl.1 rfl (lv_room (Nat.le_of_ble_eq_true rfl)) dX8_finds_3 (of_decide_eq_true h3)) hQ_G (fun u4 H locs hP hD hS => ?_)
    refine W.eq (g2 := F0 m 6 ls [.ref (u4 0)]) rfl ?_
    have hP : va_P g.1 vwCl ((cA g qA vA ++ (cM g aM (.ref qK) (.ref qQ) (.ref qP) vM ++ (cA g qK vK ++ (cA g qP vP ++ (cA g (u4 0) vN3_1 ++ (cQ g qQ bQ vQ)))))) ++ (([] : va_W))) H := hP
    have hD : va_D A ((cA g qA vA ++ (cM g aM (.ref qK) (.ref qQ) (.ref qP) vM ++ (cA g qK vK ++ (cA g qP vP ++ (cA g (u4 0) vN3_1 ++ (cQ g qQ bQ vQ)))))) ++ (([] : va_W))) := hD
    have hP : va_P g.1 vwCl (cA g qA vA ++ (cM g aM (.ref qK) (.ref qQ) (.ref qP) vM ++ (cA g qK vK ++ (cA g qP vP ++ (cA g (u4 0) vN3_1 ++ (cQ g qQ bQ vQ)))))) H := hP.perm (kpc (fun P => by first | omega | (simp only [List.countP_append, List.countP_nil] <;> omega)))
    have hD : va_D A (cA g qA vA ++ (cM g aM (.ref qK) (.ref qQ) (.ref qP) vM ++ (cA g qK vK ++ (cA g qP vP ++ (cA g (u4 0) vN3_1 ++ (cQ g qQ bQ vQ)))))) := hD.perm (kpc (fun P => by first | omega | (simp only [List.countP_append, List.countP_nil] <;> omega)))
    refine lv_astore_n (lv' := [(3, .ref (u4 0)), (0, .ref aM), (1, .ref qA), (2, .int x2)]) hx hb dX8_finds_6 rfl hl (by decide) rfl (fun ls hl => ?_)
    refine lv_aload_n hx hb dX8_finds_7 rfl (lv_at hl 1 rfl) ?_
    refine lv_aload_n hx hb dX8_finds_8 rfl (lv_at hl 2 rfl) ?_
    refine lv_iload_n hx hb dX8_finds_9 rfl (lv_at hl 3 rfl) ?_
    obtain ⟨h7, hf⟩ := gd_at hf
    obtain ⟨vN10_5, hg6, hf⟩ := o1_at hf
    have hpm : (cA g qA vA ++ (cM g aM (.ref qK) (.ref qQ) (.ref qP) vM ++ (cA g qK vK ++ (cA g qP vP ++ (cA g (u4 0) vN3_1 ++ (cQ g qQ bQ vQ)))))).Perm ((cA g qA vA ++ (cM g aM (.ref qK) (.ref qQ) (.ref qP) vM ++ (cA g qK vK ++ (cA g qP vP ++ (cQ g qQ bQ vQ))))) ++ (cA g (u4 0) vN3_1)) := (kpc (fun P => by first | omega | (simp only [List.countP_append, List.countP_nil] <;> omega)))
    refine k_G (wc := cA g qA vA ++ (cM g aM (.ref qK) (.ref qQ) (.ref qP) vM ++ (cA g qK vK ++ (cA g qP vP ++ (cQ g qQ bQ vQ))))) (wr := cA g (u4 0) vN3_1) (w1 := fun (u : Nat → Nat) => cA g qA vA ++ (cM g aM (.ref qK) (.ref qQ) (.ref qP) vM ++ (cA g qK vK ++ (cA g qP vP ++ (cA g (u 0) vN10_5 ++ (cQ g qQ bQ vQ)))))) (rv := fun (u : Nat → Nat) => (fun u => some (.ref (u 0))) u) hP hD hS hA hpm (va_runV (As := [.ref qA, .int x2]) (rest := []) ⟨hx, hb, hml, hown, htu⟩ ((c_X8_values l g qA vA aM vM qK vK qP vP qQ bQ vQ x2 vN10_5 hg6) H.size) (cwV 2 htu (gU_V mw_3_122 hcX8_values) rfl rfl rfl hdX8_values ⟨Nat.le_of_ble_eq_true rfl, Nat.le_of_ble_eq_true rfl⟩) (k_preV (C := RX8) hK hP hD hS hA hG hpm (va_recv (ci := 8) (q0 := 1) (fs := fcM (.ref qK) (.ref qQ) (.ref qP) vM) (q := (RX8, TX8, 8)) hK hP rfl rfl)) rfl rfl hl.1 rfl (lv_room (Nat.le_of_ble_eq_true rfl)) dX8_finds_10 (of_decide_eq_true h7)) hQ_G (fun u8 H locs hP hD hS => ?_)
    refine W.eq (g2 := F0 m 13 ls [.ref (u8 0)]) rfl ?_
    have hP : va_P g.1 vwCl ((cA g qA vA ++ (cM g aM (.ref qK) (.ref qQ) (.ref qP) vM ++ (cA g qK vK ++ (cA g qP vP ++ (cA g (u8 0) vN10_5 ++ (cQ g qQ bQ vQ)))))) ++ (cA g (u4 0) vN3_1)) H := hP
    have hD : va_D A ((cA g qA vA ++ (cM g aM (.ref qK) (.ref qQ) (.ref qP) vM ++ (cA g qK vK ++ (cA g qP vP ++ (cA g (u8 0) vN10_5 ++ (cQ g qQ bQ vQ)))))) ++ (cA g (u4 0) vN3_1)) := hD
    have hP : va_P g.1 vwCl (cA g qA vA ++ (cM g aM (.ref qK) (.ref qQ) (.ref qP) vM ++ (cA g qK vK ++ (cA g qP vP ++ (cA g (u8 0) vN10_5 ++ (cA g (u4 0) vN3_1 ++ (cQ g qQ bQ vQ))))))) H := hP.perm (kpc (fun P => by first | omega | (simp only [List.countP_append, List.countP_nil] <;> omega)))
    have hD : va_D A (cA g qA vA ++ (cM g aM (.ref qK) (.ref qQ) (.ref qP) vM ++ (cA g qK vK ++ (cA g qP vP ++ (cA g (u8 0) vN10_5 ++ (cA g (u4 0) vN3_1 ++ (cQ g qQ bQ vQ))))))) := hD.perm (kpc (fun P => by first | omega | (simp only [List.countP_append, List.countP_nil] <;> omega)))
    refine lv_astore (lv' := [(4, .ref (u8 0)), (3, .ref (u4 0)), (0, .ref aM), (1, .ref qA), (2, .int x2)]) hx hb dX8_finds_13 hl (by decide) rfl (fun ls hl => ?_)
    refine lv_iconst (v := (0 : Int32)) hx hb dX8_finds_15 (by decide) ?_
    refine lv_istore (lv' := [(5, .int (0 : Int32)), (4, .ref (u8 0)), (3, .ref (u4 0)), (0, .ref aM), (1, .ref qA), (2, .int x2)]) hx hb dX8_finds_16 hl (by decide) rfl (fun ls hl => ?_)
    refine lv_aload_n hx hb dX8_finds_18 rfl (lv_at hl 3 rfl) ?_
    refine va_get (D := g.1) (ci := 8) (fs := fcM (.ref qK) (.ref qQ) (.ref qP) vM) (v := .ref qP) (C := RX8) (T := TX8) (N := 8) hx hb htu hinX8 hown hK hP 1 rfl rfl 4 (by decide) k_3_89 (fun x9 h9 => h9) rfl dX8_finds_19 ?_
    refine lv_astore (lv' := [(6, .ref qP), (5, .int (0 : Int32)), (4, .ref (u8 0)), (3, .ref (u4 0)), (0, .ref aM), (1, .ref qA), (2, .int x2)]) hx hb dX8_finds_22 hl (by decide) rfl (fun ls hl => ?_)
    refine lv_aload hx hb dX8_finds_24 (lv_at hl 0 rfl) ?_
    refine va_alen (D := g.1) (v := (nI (vP.1 9).toNatClampNeg)) (ty := .int) hx hb hK hP 3 0 rfl rfl rfl dX8_finds_26 ?_
    refine lv_istore (lv' := [(7, .int (nI (vP.1 9).toNatClampNeg)), (6, .ref qP), (5, .int (0 : Int32)), (4, .ref (u8 0)), (3, .ref (u4 0)), (0, .ref aM), (1, .ref qA), (2, .int x2)]) hx hb dX8_finds_27 hl (by decide) rfl (fun ls hl => ?_)
    refine lv_iconst (v := (0 : Int32)) hx hb dX8_finds_29 (by decide) ?_
    refine lv_istore (lv' := [(8, .int (0 : Int32)), (7, .int (nI (vP.1 9).toNatClampNeg)), (6, .ref qP), (5, .int (0 : Int32)), (4, .ref (u8 0)), (3, .ref (u4 0)), (0, .ref aM), (1, .ref qA), (2, .int x2)]) hx hb dX8_finds_30 hl (by decide) rfl (fun ls hl => ?_)
    have hL12 : ∀ (x5_9 : Int32) (x8_10 : Int32), lp (f_X8_finds_L32 vP vN3_1 vN10_5) (fun _ _ => none) FU x5_9 x8_10 = some r → ∀ (H : Heap) (locs : List Loc), va_P g.1 vwCl (cA g qA vA ++ (cM g aM (.ref qK) (.ref qQ) (.ref qP) vM ++ (cA g qK vK ++ (cA g qP vP ++ (cA g (u8 0) vN10_5 ++ (cA g (u4 0) vN3_1 ++ (cQ g qQ bQ vQ))))))) H → va_D A (cA g qA vA ++ (cM g aM (.ref qK) (.ref qQ) (.ref qP) vM ++ (cA g qK vK ++ (cA g qP vP ++ (cA g (u8 0) vN10_5 ++ (cA g (u4 0) vN3_1 ++ (cQ g qQ bQ vQ))))))) → va_S A s.heap H locs → ∀ ls : Array Slot, lv_has ls 10 [(3, .ref (u4 0)), (4, .ref (u8 0)), (5, .int x5_9), (6, .ref qP), (7, .int (nI (vP.1 9).toNatClampNeg)), (8, .int x8_10)] → W p l e (headSpec wsX8_finds rmX8_finds).room s m ([.ref aM, .ref qA, .int x2] : List Value).toArray below meth c H locs ((0 + 20) + 20) ((0 + 128) + 128) (MQ below (qG g A (fun (u : Nat → Nat) => cA g qA vA ++ (cM g aM (.ref qK) (.ref qQ) (.ref qP) vM ++ (cA g qK vK ++ (cA g qP vP ++ (cQ g qQ bQ vQ))))) (fun (u : Nat → Nat) => (fun _ => some (.int r)) u)) ([.ref aM, .ref qA, .int x2] : List Value).toArray s 40 256 A) (F0 m 32 ls []) := by
      refine lp_ind (T := Int32 → Int32 → Option (Int32)) (fun self11 => ∀ (x5_9 : Int32) (x8_10 : Int32), self11 x5_9 x8_10 = some r → ∀ (H : Heap) (locs : List Loc), va_P g.1 vwCl (cA g qA vA ++ (cM g aM (.ref qK) (.ref qQ) (.ref qP) vM ++ (cA g qK vK ++ (cA g qP vP ++ (cA g (u8 0) vN10_5 ++ (cA g (u4 0) vN3_1 ++ (cQ g qQ bQ vQ))))))) H → va_D A (cA g qA vA ++ (cM g aM (.ref qK) (.ref qQ) (.ref qP) vM ++ (cA g qK vK ++ (cA g qP vP ++ (cA g (u8 0) vN10_5 ++ (cA g (u4 0) vN3_1 ++ (cQ g qQ bQ vQ))))))) → va_S A s.heap H locs → ∀ ls : Array Slot, lv_has ls 10 [(3, .ref (u4 0)), (4, .ref (u8 0)), (5, .int x5_9), (6, .ref qP), (7, .int (nI (vP.1 9).toNatClampNeg)), (8, .int x8_10)] → W p l e (headSpec wsX8_finds rmX8_finds).room s m ([.ref aM, .ref qA, .int x2] : List Value).toArray below meth c H locs ((0 + 20) + 20) ((0 + 128) + 128) (MQ below (qG g A (fun (u : Nat → Nat) => cA g qA vA ++ (cM g aM (.ref qK) (.ref qQ) (.ref qP) vM ++ (cA g qK vK ++ (cA g qP vP ++ (cQ g qQ bQ vQ))))) (fun (u : Nat → Nat) => (fun _ => some (.int r)) u)) ([.ref aM, .ref qA, .int x2] : List Value).toArray s 40 256 A) (F0 m 32 ls [])) ?_ ?_ FU
      · intro x5_9 x8_10 hf; cases hf
      · intro self11 ih13 x5_9 x8_10 hf H locs hP hD hS ls hl
        unfold f_X8_finds_L32 at hf
        refine lv_iload hx hb dX8_finds_32 (lv_at hl 5 rfl) ?_
        refine lv_iload hx hb dX8_finds_34 (lv_at hl 4 rfl) ?_
        refine lv_icmp_ge (tgt := 96) hx hb dX8_finds_36 (by decide) (fun c14 => ?_) (fun c14 => ?_)
        · have hf := it_t hf c14
          refine lv_iload hx hb dX8_finds_96 (lv_at hl 2 rfl) ?_
          obtain ⟨h15, hf⟩ := gd_at hf
          have hP : va_P g.1 vwCl (cA g qA vA ++ (cM g aM (.ref qK) (.ref qQ) (.ref qP) vM ++ (cA g qK vK ++ (cA g qP vP ++ (cQ g qQ bQ vQ))))) H := k_dropP hP (w3 := cA g (u8 0) vN10_5 ++ (cA g (u4 0) vN3_1)) (kpc (fun P => by first | omega | (simp only [List.countP_append, List.countP_nil] <;> omega)))
          have hD : va_D A (cA g qA vA ++ (cM g aM (.ref qK) (.ref qQ) (.ref qP) vM ++ (cA g qK vK ++ (cA g qP vP ++ (cQ g qQ bQ vQ))))) := k_dropD hD (w3 := cA g (u8 0) vN10_5 ++ (cA g (u4 0) vN3_1)) (kpc (fun P => by first | omega | (simp only [List.countP_append, List.countP_nil] <;> omega)))
          have e16 := Option.some.inj hf
          refine W.widen (k := 40) (n := 256) (of_decide_eq_true h15).1 (of_decide_eq_true h15).2 ?_
          exact k_Giret (w1 := fun (u : Nat → Nat) => cA g qA vA ++ (cM g aM (.ref qK) (.ref qQ) (.ref qP) vM ++ (cA g qK vK ++ (cA g qP vP ++ (cQ g qQ bQ vQ))))) (rv := fun (u : Nat → Nat) => (fun _ => some (.int r)) u) (u := (fun i => 0)) hx hb hr hlocks hK hP hD hS rfl e16 dX8_finds_98
        · have hf := it_f hf c14
          refine lv_aload hx hb dX8_finds_39 (lv_at hl 3 rfl) ?_
          refine lv_iload hx hb dX8_finds_41 (lv_at hl 5 rfl) ?_
          obtain ⟨h17, hf⟩ := gd_in hf
          refine va_iald (D := g.1) (f := (vP.2.1 0)) hx hb hK hP 3 0 rfl rfl h17 dX8_finds_43 ?_
          refine lv_istore (lv' := [(9, .int (vP.2.1 0 (x8_10).toNatClampNeg)), (3, .ref (u4 0)), (4, .ref (u8 0)), (5, .int x5_9), (6, .ref qP), (7, .int (nI (vP.1 9).toNatClampNeg)), (8, .int x8_10)]) hx hb dX8_finds_44 hl (by decide) rfl (fun ls hl => ?_)
          refine lv_aload_n hx hb dX8_finds_46 rfl (lv_at hl 1 rfl) ?_
          refine lv_iload hx hb dX8_finds_47 (lv_at hl 0 rfl) ?_
          obtain ⟨h18, hf⟩ := gd_in hf
          refine va_iald (D := g.1) (f := (vN3_1.2.1 0)) hx hb hK hP 5 0 rfl rfl h18 dX8_finds_49 ?_
          refine lv_iconst (v := (3 : Int32)) hx hb dX8_finds_50 (by decide) ?_
          obtain ⟨k20, hk22, hf⟩ := jn_at hf
          have hJ21 : ∀ (x5_19 : Int32), k20 x5_19 = some r → ∀ (H : Heap) (locs : List Loc), va_P g.1 vwCl (cA g qA vA ++ (cM g aM (.ref qK) (.ref qQ) (.ref qP) vM ++ (cA g qK vK ++ (cA g qP vP ++ (cA g (u8 0) vN10_5 ++ (cA g (u4 0) vN3_1 ++ (cQ g qQ bQ vQ))))))) H → va_D A (cA g qA vA ++ (cM g aM (.ref qK) (.ref qQ) (.ref qP) vM ++ (cA g qK vK ++ (cA g qP vP ++ (cA g (u8 0) vN10_5 ++ (cA g (u4 0) vN3_1 ++ (cQ g qQ bQ vQ))))))) → va_S A s.heap H locs → ∀ ls : Array Slot, lv_has ls 10 [(3, .ref (u4 0)), (4, .ref (u8 0)), (5, .int x5_19), (6, .ref qP), (7, .int (nI (vP.1 9).toNatClampNeg)), (8, .int x8_10)] → W p l e (headSpec wsX8_finds rmX8_finds).room s m ([.ref aM, .ref qA, .int x2] : List Value).toArray below meth c H locs ((0 + 20) + 20) ((0 + 128) + 128) (MQ below (qG g A (fun (u : Nat → Nat) => cA g qA vA ++ (cM g aM (.ref qK) (.ref qQ) (.ref qP) vM ++ (cA g qK vK ++ (cA g qP vP ++ (cQ g qQ bQ vQ))))) (fun (u : Nat → Nat) => (fun _ => some (.int r)) u)) ([.ref aM, .ref qA, .int x2] : List Value).toArray s 40 256 A) (F0 m 90 ls []) := by
            intro x5_19 hf H locs hP hD hS ls hl
            rw [hk22] at hf
            dsimp only at hf
            clear hk22
            refine lv_iinc (v := (x8_10 + (1 : Int32))) (lv' := [(8, .int (x8_10 + (1 : Int32))), (3, .ref (u4 0)), (4, .ref (u8 0)), (5, .int x5_19), (6, .ref qP), (7, .int (nI (vP.1 9).toNatClampNeg))]) hx hb dX8_finds_90 hl (k := 5) rfl rfl (by decide) rfl (fun ls hl => ?_)
            refine lv_goto (tgt := 32) hx hb dX8_finds_93 (by decide) ?_
            exact ih13 x5_19 (x8_10 + (1 : Int32)) hf H locs hP hD hS _ (lv_sub hl [1, 2, 3, 4, 5, 0] rfl)
          refine lv_icmp_eq (tgt := 90) hx hb dX8_finds_51 (by decide) (fun c23 => ?_) (fun c23 => ?_)
          · have hf := it_t hf c23
            exact hJ21 x5_9 hf H locs hP hD hS _ (lv_sub hl [1, 2, 3, 4, 5, 6] rfl)
          · have hf := it_f hf c23
            refine lv_aload_n hx hb dX8_finds_54 rfl (lv_at hl 1 rfl) ?_
            refine lv_iload hx hb dX8_finds_55 (lv_at hl 0 rfl) ?_
            obtain ⟨h24, hf⟩ := gd_in hf
            refine va_iald (D := g.1) (f := (vN3_1.2.1 0)) hx hb hK hP 5 0 rfl rfl h24 dX8_finds_57 ?_
            refine lv_aload hx hb dX8_finds_58 (lv_at hl 2 rfl) ?_
            refine lv_iload hx hb dX8_finds_60 (lv_at hl 0 rfl) ?_
            obtain ⟨h25, hf⟩ := gd_in hf
            refine va_iald (D := g.1) (f := (vN10_5.2.1 0)) hx hb hK hP 4 0 rfl rfl h25 dX8_finds_62 ?_
            refine lv_icmp_ne (tgt := 69) hx hb dX8_finds_63 (by decide) (fun c26 => ?_) (fun c26 => ?_)
            · have hf := it_f hf c26
              refine lv_iload hx hb dX8_finds_69 (lv_at hl 3 rfl) ?_
              refine lv_aload hx hb dX8_finds_71 (lv_at hl 2 rfl) ?_
              refine lv_iload hx hb dX8_finds_73 (lv_at hl 0 rfl) ?_
              obtain ⟨h27, hf⟩ := gd_in hf
              refine va_iald (D := g.1) (f := (vN10_5.2.1 0)) hx hb hK hP 4 0 rfl rfl h27 dX8_finds_75 ?_
              refine lv_iconst (v := (3 : Int32)) hx hb dX8_finds_76 (by decide) ?_
              obtain ⟨k29, hk32, hf⟩ := jn_at hf
              have hJ30 : ∀ (t28 : Int32), k29 t28 = some r → ∀ (H : Heap) (locs : List Loc), va_P g.1 vwCl (cA g qA vA ++ (cM g aM (.ref qK) (.ref qQ) (.ref qP) vM ++ (cA g qK vK ++ (cA g qP vP ++ (cA g (u8 0) vN10_5 ++ (cA g (u4 0) vN3_1 ++ (cQ g qQ bQ vQ))))))) H → va_D A (cA g qA vA ++ (cM g aM (.ref qK) (.ref qQ) (.ref qP) vM ++ (cA g qK vK ++ (cA g qP vP ++ (cA g (u8 0) vN10_5 ++ (cA g (u4 0) vN3_1 ++ (cQ g qQ bQ vQ))))))) → va_S A s.heap H locs → ∀ ls : Array Slot, lv_has ls 10 [(3, .ref (u4 0)), (4, .ref (u8 0)), (6, .ref qP), (7, .int (nI (vP.1 9).toNatClampNeg)), (8, .int x8_10)] → W p l e (headSpec wsX8_finds rmX8_finds).room s m ([.ref aM, .ref qA, .int x2] : List Value).toArray below meth c H locs ((0 + 20) + 20) ((0 + 128) + 128) (MQ below (qG g A (fun (u : Nat → Nat) => cA g qA vA ++ (cM g aM (.ref qK) (.ref qQ) (.ref qP) vM ++ (cA g qK vK ++ (cA g qP vP ++ (cQ g qQ bQ vQ))))) (fun (u : Nat → Nat) => (fun _ => some (.int r)) u)) ([.ref aM, .ref qA, .int x2] : List Value).toArray s 40 256 A) (F0 m 85 ls [.int t28, .int x5_9]) := by
                intro t28 hf H locs hP hD hS ls hl
                rw [hk32] at hf
                dsimp only at hf
                clear hk32
                obtain ⟨h31, hf⟩ := gd_at hf
                refine va_mmax hx hb (hml.trans hl.1.symm) hown k_3_133 k_2_133 k_1_7 k_2_134 (Nat.le_of_ble_eq_true rfl) (Nat.le_of_ble_eq_true rfl) (of_decide_eq_true h31).1 (of_decide_eq_true h31).2 dX8_finds_85 ?_
                refine lv_istore (lv' := [(5, .int (if x5_9 < t28 then t28 else x5_9)), (3, .ref (u4 0)), (4, .ref (u8 0)), (6, .ref qP), (7, .int (nI (vP.1 9).toNatClampNeg)), (8, .int x8_10)]) hx hb dX8_finds_88 hl (by decide) rfl (fun ls hl => ?_)
                exact hJ21 (if x5_9 < t28 then t28 else x5_9) hf H locs hP hD hS _ (lv_sub hl [1, 2, 0, 3, 4, 5] rfl)
              refine lv_icmp_ne (tgt := 84) hx hb dX8_finds_77 (by decide) (fun c33 => ?_) (fun c33 => ?_)
              · have hf := it_f hf c33
                refine lv_iconst (v := (2 : Int32)) hx hb dX8_finds_84 (by decide) ?_
                exact hJ30 (2 : Int32) hf H locs hP hD hS _ (lv_sub hl [1, 2, 4, 5, 6] rfl)
              · have hf := it_t hf c33
                refine lv_iconst (v := (1 : Int32)) hx hb dX8_finds_80 (by decide) ?_
                refine lv_goto (tgt := 85) hx hb dX8_finds_81 (by decide) ?_
                exact hJ30 (1 : Int32) hf H locs hP hD hS _ (lv_sub hl [1, 2, 4, 5, 6] rfl)
            · have hf := it_t hf c26
              refine lv_goto (tgt := 90) hx hb dX8_finds_66 (by decide) ?_
              exact hJ21 x5_9 hf H locs hP hD hS _ (lv_sub hl [1, 2, 3, 4, 5, 6] rfl)
    exact hL12 (0 : Int32) (0 : Int32) hf H locs hP hD hS _ (lv_sub hl [5, 4, 3, 2, 1, 0] rfl)
  rw [hH, hlo] at hW
  exact hW
def f_X8_full_L9 (vM : Vs) (x1 : Int32) (self6 : Int32 → Vs → Option (Vs)) (x3_4 : Int32) (vN4_5 : Vs) : Option (Vs) :=
  if (vM.1 0) ≤ x3_4 then gd (decide ((0 + 1) ≤ 1 ∧ (0 + ((vM.1 0)).toNatClampNeg) ≤ 8)) (some (vN4_5)) else gd (inb x3_4 (vN4_5.1 9).toNatClampNeg) (bn (sI vN4_5 0 (x3_4).toNatClampNeg ((1 : Int32) <<< (((x1 >>> (x3_4 &&& 31)) &&& (1 : Int32)) &&& 31))) (fun (vN4_13 : Vs) => self6 (x3_4 + (1 : Int32)) vN4_13))
def f_X8_full (vM : Vs) (vK : Vs) (vP : Vs) (vQ : Vs) (x1 : Int32) : Option (Vs) :=
  gd (decide (¬ (vM.1 0) < 0 ∧ ((vM.1 0)).toNatClampNeg ≤ 65536 ∧ 0 + 1 ≤ 1 ∧ 0 + ((vM.1 0)).toNatClampNeg ≤ 8)) (bn (aV (vM.1 0) (fun _ => 0)) (fun (vN4_3 : Vs) => lp (f_X8_full_L9 vM x1) (fun _ _ => none) FU (0 : Int32) vN4_3))
abbrev wsX8_full : List Cond := .code yX8_full cX8_full 4 (some (.array .int)) :: UW
abbrev rmX8_full : Room := { frames := 1, cells := 1, slots := 8, locals := 24 }
set_option maxHeartbeats 4000000 in
set_option maxRecDepth 100000 in
theorem c_X8_full (l : Launch) (g : Gx) (aM : Nat) (vM : Vs) (qK : Nat) (vK : Vs) (qP : Nat) (vP : Vs) (qQ : Nat) (bQ : Nat → Nat) (vQ : Vs) (x1 : Int32) (vR01 : Vs) (hf : f_X8_full vM vK vP vQ x1 = some vR01) : CtG l yX8_full wsX8_full rmX8_full g [.ref aM, .int x1] (cM g aM (.ref qK) (.ref qQ) (.ref qP) vM ++ (cA g qK vK ++ (cA g qP vP ++ (cQ g qQ bQ vQ)))) (fun (u : Nat → Nat) => cM g aM (.ref qK) (.ref qQ) (.ref qP) vM ++ (cA g qK vK ++ (cA g qP vP ++ (cA g (u 0) vR01 ++ (cQ g qQ bQ vQ))))) (fun (u : Nat → Nat) => (fun u => some (.ref (u 0))) u) 1 8 := by
  unfold CtG
  intro sz
  refine Met.ofW (cc := cX8_full) (maxL := 4) (ret := (some (.array .int))) (by decide) rfl ?_
  intro p e s m args below meth c s₁ B hml hv
  obtain ⟨rfl, hsz, hP, hK, hD0, hG⟩ := hv
  have hx := B.exec
  have hb := B.bytes
  have hr := B.returns
  have hts := atoms_spec (ws := wsX8_full) B.pre
  have hown : s.vm.findClass RX8 = some m.cls := findClass_of_methodNamed B.named
  have hlocks := B.notSynchronized
  subst hsz
  have hD := hD0.self (sz := s.heap.size)
  generalize hAe : va_A (cM g aM (.ref qK) (.ref qQ) (.ref qP) vM ++ (cA g qK vK ++ (cA g qP vP ++ (cQ g qQ bQ vQ)))) s.heap.size = A at hD hG ⊢
  have hA : ∀ q : Nat, s.heap.size ≤ q → A q := fun q h => by rw [← hAe]; exact Or.inr h
  clear hAe hD0
  have hS : va_S A s.heap s.heap [] := va_S.rf
  have hl := lv_entry ([.ref aM, .int x1]) (n := 4) (Nat.le_of_ble_eq_true rfl)
  rw [lg_entry_eq]
  generalize (lg_sl ([.ref aM, .int x1]) ++ List.replicate (4 - (lg_sl ([.ref aM, .int x1])).length) Slot.unset).toArray = ls at hl ⊢
  have hl : lv_has ls 4 [(0, .ref aM), (1, .int x1)] := hl
  have htu : ∀ w ∈ UW, w.before _ s = true := fun w h => hts w (List.mem_cons_of_mem _ h)
  have k_3_83 := htu _ mw_3_83
  have k_1_119 := htu _ mw_1_119
  unfold f_X8_full at hf
  obtain ⟨H, hH⟩ : ∃ z, z = s.heap := ⟨_, rfl⟩
  obtain ⟨locs, hlo⟩ : ∃ z : List Loc, z = [] := ⟨_, rfl⟩
  have hS : va_S A s.heap H locs := by rw [hH, hlo]; exact hS
  rw [← hH] at hP
  have hW : W p l e (headSpec wsX8_full rmX8_full).room s m ([.ref aM, .int x1] : List Value).toArray below meth c H locs 0 0 (MQ below (qG g A (fun (u : Nat → Nat) => cM g aM (.ref qK) (.ref qQ) (.ref qP) vM ++ (cA g qK vK ++ (cA g qP vP ++ (cA g (u 0) vR01 ++ (cQ g qQ bQ vQ))))) (fun (u : Nat → Nat) => (fun u => some (.ref (u 0))) u)) ([.ref aM, .int x1] : List Value).toArray s 1 8 A) (F0 m 0 ls []) := by
    refine lv_aload_n hx hb dX8_full_0 rfl (lv_at hl 0 rfl) ?_
    refine va_get (D := g.1) (ci := 8) (fs := fcM (.ref qK) (.ref qQ) (.ref qP) vM) (v := .int (vM.1 0)) (C := RX8) (T := TX8) (N := 8) hx hb htu hinX8 hown hK hP 0 rfl rfl 0 (by decide) k_3_83 (fun x9 h9 => h9) rfl dX8_full_1 ?_
    obtain ⟨h1, hf⟩ := gd_at hf
    obtain ⟨h1a, h1b, h1c, h1d⟩ := of_decide_eq_true h1
    refine k_newI (N' := ((vM.1 0)).toNatClampNeg) hx hb k_1_119 hK hP hD hS hA h1a rfl (Nat.le_trans (Nat.mul_le_mul_right _ h1b) (Nat.le_of_ble_eq_true rfl)) h1c h1d dX8_full_4 (fun q2 H hP hD hS => ?_)
    obtain ⟨vN4_3, evN4_3⟩ : ∃ z : Vs, z = aV (vM.1 0) (fun _ => 0) := ⟨_, rfl⟩
    have hf := bn_at hf evN4_3
    have hP : va_P g.1 vwCl (cM g aM (.ref qK) (.ref qQ) (.ref qP) vM ++ (cA g qK vK ++ (cA g qP vP ++ (cQ g qQ bQ vQ))) ++ (cA g q2 vN4_3)) H := by rw [evN4_3]; exact hP
    have hD : va_D A (cM g aM (.ref qK) (.ref qQ) (.ref qP) vM ++ (cA g qK vK ++ (cA g qP vP ++ (cQ g qQ bQ vQ))) ++ (cA g q2 vN4_3)) := by rw [evN4_3]; exact hD
    have hP : va_P g.1 vwCl (cA g q2 vN4_3 ++ (cM g aM (.ref qK) (.ref qQ) (.ref qP) vM ++ (cA g qK vK ++ (cA g qP vP ++ (cQ g qQ bQ vQ))))) H := hP.perm (kpc (fun P => by first | omega | (simp only [List.countP_append, List.countP_nil] <;> omega)))
    have hD : va_D A (cA g q2 vN4_3 ++ (cM g aM (.ref qK) (.ref qQ) (.ref qP) vM ++ (cA g qK vK ++ (cA g qP vP ++ (cQ g qQ bQ vQ))))) := hD.perm (kpc (fun P => by first | omega | (simp only [List.countP_append, List.countP_nil] <;> omega)))
    refine lv_astore_n (lv' := [(2, .ref q2), (0, .ref aM), (1, .int x1)]) hx hb dX8_full_6 rfl hl (by decide) rfl (fun ls hl => ?_)
    refine lv_iconst (v := (0 : Int32)) hx hb dX8_full_7 (by decide) ?_
    refine lv_istore_n (lv' := [(3, .int (0 : Int32)), (2, .ref q2), (0, .ref aM), (1, .int x1)]) hx hb dX8_full_8 rfl hl (by decide) rfl (fun ls hl => ?_)
    have hL7 : ∀ (x3_4 : Int32) (vN4_5 : Vs), lp (f_X8_full_L9 vM x1) (fun _ _ => none) FU x3_4 vN4_5 = some vR01 → ∀ (H : Heap) (locs : List Loc), va_P g.1 vwCl (cA g q2 vN4_5 ++ (cM g aM (.ref qK) (.ref qQ) (.ref qP) vM ++ (cA g qK vK ++ (cA g qP vP ++ (cQ g qQ bQ vQ))))) H → va_D A (cA g q2 vN4_5 ++ (cM g aM (.ref qK) (.ref qQ) (.ref qP) vM ++ (cA g qK vK ++ (cA g qP vP ++ (cQ g qQ bQ vQ))))) → va_S A s.heap H locs → ∀ ls : Array Slot, lv_has ls 4 [(0, .ref aM), (1, .int x1), (2, .ref q2), (3, .int x3_4)] → W p l e (headSpec wsX8_full rmX8_full).room s m ([.ref aM, .int x1] : List Value).toArray below meth c H locs (0 + 1) (0 + ((vM.1 0)).toNatClampNeg) (MQ below (qG g A (fun (u : Nat → Nat) => cM g aM (.ref qK) (.ref qQ) (.ref qP) vM ++ (cA g qK vK ++ (cA g qP vP ++ (cA g (u 0) vR01 ++ (cQ g qQ bQ vQ))))) (fun (u : Nat → Nat) => (fun u => some (.ref (u 0))) u)) ([.ref aM, .int x1] : List Value).toArray s 1 8 A) (F0 m 9 ls []) := by
      refine lp_ind (T := Int32 → Vs → Option (Vs)) (fun self6 => ∀ (x3_4 : Int32) (vN4_5 : Vs), self6 x3_4 vN4_5 = some vR01 → ∀ (H : Heap) (locs : List Loc), va_P g.1 vwCl (cA g q2 vN4_5 ++ (cM g aM (.ref qK) (.ref qQ) (.ref qP) vM ++ (cA g qK vK ++ (cA g qP vP ++ (cQ g qQ bQ vQ))))) H → va_D A (cA g q2 vN4_5 ++ (cM g aM (.ref qK) (.ref qQ) (.ref qP) vM ++ (cA g qK vK ++ (cA g qP vP ++ (cQ g qQ bQ vQ))))) → va_S A s.heap H locs → ∀ ls : Array Slot, lv_has ls 4 [(0, .ref aM), (1, .int x1), (2, .ref q2), (3, .int x3_4)] → W p l e (headSpec wsX8_full rmX8_full).room s m ([.ref aM, .int x1] : List Value).toArray below meth c H locs (0 + 1) (0 + ((vM.1 0)).toNatClampNeg) (MQ below (qG g A (fun (u : Nat → Nat) => cM g aM (.ref qK) (.ref qQ) (.ref qP) vM ++ (cA g qK vK ++ (cA g qP vP ++ (cA g (u 0) vR01 ++ (cQ g qQ bQ vQ))))) (fun (u : Nat → Nat) => (fun u => some (.ref (u 0))) u)) ([.ref aM, .int x1] : List Value).toArray s 1 8 A) (F0 m 9 ls [])) ?_ ?_ FU
      · intro x3_4 vN4_5 hf; cases hf
      · intro self6 ih8 x3_4 vN4_5 hf H locs hP hD hS ls hl
        unfold f_X8_full_L9 at hf
        refine lv_iload_n hx hb dX8_full_9 rfl (lv_at hl 3 rfl) ?_
        refine lv_aload_n hx hb dX8_full_10 rfl (lv_at hl 0 rfl) ?_
        refine va_get (D := g.1) (ci := 8) (fs := fcM (.ref qK) (.ref qQ) (.ref qP) vM) (v := .int (vM.1 0)) (C := RX8) (T := TX8) (N := 8) hx hb htu hinX8 hown hK hP 1 rfl rfl 0 (by decide) k_3_83 (fun x9 h9 => h9) rfl dX8_full_11 ?_
        refine lv_icmp_ge (tgt := 33) hx hb dX8_full_14 (by decide) (fun c9 => ?_) (fun c9 => ?_)
        · have hf := it_t hf c9
          refine lv_aload_n hx hb dX8_full_33 rfl (lv_at hl 2 rfl) ?_
          obtain ⟨h10, hf⟩ := gd_at hf
          have hP : va_P g.1 vwCl (cM g aM (.ref qK) (.ref qQ) (.ref qP) vM ++ (cA g qK vK ++ (cA g qP vP ++ (cA g q2 vN4_5 ++ (cQ g qQ bQ vQ))))) H := k_dropP hP (w3 := ([] : va_W)) (kpc (fun P => by first | omega | (simp only [List.countP_append, List.countP_nil] <;> omega)))
          have hD : va_D A (cM g aM (.ref qK) (.ref qQ) (.ref qP) vM ++ (cA g qK vK ++ (cA g qP vP ++ (cA g q2 vN4_5 ++ (cQ g qQ bQ vQ))))) := k_dropD hD (w3 := ([] : va_W)) (kpc (fun P => by first | omega | (simp only [List.countP_append, List.countP_nil] <;> omega)))
          have e11 := Option.some.inj hf
          rw [e11] at hP hD
          refine W.widen (k := 1) (n := 8) (of_decide_eq_true h10).1 (of_decide_eq_true h10).2 ?_
          exact k_Garet (w1 := fun (u : Nat → Nat) => cM g aM (.ref qK) (.ref qQ) (.ref qP) vM ++ (cA g qK vK ++ (cA g qP vP ++ (cA g (u 0) vR01 ++ (cQ g qQ bQ vQ))))) (rv := fun (u : Nat → Nat) => (fun u => some (.ref (u 0))) u) (u := (fun i => if i = 0 then q2 else 0)) hx hb hr (Or.inr ⟨_, rfl⟩) hlocks hK hP hD hS rfl dX8_full_34
        · have hf := it_f hf c9
          refine lv_aload_n hx hb dX8_full_17 rfl (lv_at hl 2 rfl) ?_
          refine lv_iload_n hx hb dX8_full_18 rfl (lv_at hl 3 rfl) ?_
          refine lv_iconst (v := (1 : Int32)) hx hb dX8_full_19 (by decide) ?_
          refine lv_iload_n hx hb dX8_full_20 rfl (lv_at hl 1 rfl) ?_
          refine lv_iload_n hx hb dX8_full_21 rfl (lv_at hl 3 rfl) ?_
          refine lv_ishr hx hb dX8_full_22 ?_
          refine lv_iconst (v := (1 : Int32)) hx hb dX8_full_23 (by decide) ?_
          refine lv_iand hx hb dX8_full_24 ?_
          refine lv_ishl hx hb dX8_full_25 ?_
          obtain ⟨h12, hf⟩ := gd_in hf
          refine va_iast (D := g.1) (f := (vN4_5.2.1 0)) hx hb hK hP hD hS 0 0 rfl rfl h12 dX8_full_26 (fun H locs hP hD hS => ?_)
          obtain ⟨vN4_13, evN4_13⟩ : ∃ z : Vs, z = sI vN4_5 0 (x3_4).toNatClampNeg ((1 : Int32) <<< (((x1 >>> (x3_4 &&& 31)) &&& (1 : Int32)) &&& 31)) := ⟨_, rfl⟩
          have hf := bn_at hf evN4_13
          have hP : va_P g.1 vwCl (cA g q2 vN4_13 ++ (cM g aM (.ref qK) (.ref qQ) (.ref qP) vM ++ (cA g qK vK ++ (cA g qP vP ++ (cQ g qQ bQ vQ))))) H := by rw [evN4_13]; exact hP
          have hD : va_D A (cA g q2 vN4_13 ++ (cM g aM (.ref qK) (.ref qQ) (.ref qP) vM ++ (cA g qK vK ++ (cA g qP vP ++ (cQ g qQ bQ vQ))))) := by rw [evN4_13]; exact hD
          refine lv_iinc (v := (x3_4 + (1 : Int32))) (lv' := [(3, .int (x3_4 + (1 : Int32))), (0, .ref aM), (1, .int x1), (2, .ref q2)]) hx hb dX8_full_27 hl (k := 3) rfl rfl (by decide) rfl (fun ls hl => ?_)
          refine lv_goto (tgt := 9) hx hb dX8_full_30 (by decide) ?_
          exact ih8 (x3_4 + (1 : Int32)) vN4_13 hf H locs hP hD hS _ (lv_sub hl [1, 2, 3, 0] rfl)
    exact hL7 (0 : Int32) vN4_3 hf H locs hP hD hS _ (lv_sub hl [2, 3, 1, 0] rfl)
  rw [hH, hlo] at hW
  exact hW
def f_X8_isApart_L50 (vP : Vs) (x3_1 : Int32) (kc2 : Nat) (ks3 : Nat) (self4 : Int32 → Nat → Nat → Option (Int32)) (vN19_15 : Vs) (vN31_23 : Vs) (self28 : Int32 → Option (Int32)) (x8_27 : Int32) : Option (Int32) :=
  if (nI (vP.1 9).toNatClampNeg) ≤ x8_27 then self4 (x3_1 + (1 : Int32)) ((((kc2 + 1) + 20) + 1) + 20) ((((ks3 + 8) + 128) + 8) + 128) else gd (inb x8_27 (vP.1 9).toNatClampNeg) (gd (inb (vP.2.1 0 (x8_27).toNatClampNeg) (vN19_15.1 9).toNatClampNeg) (gd (inb (vP.2.1 0 (x8_27).toNatClampNeg) (vN31_23.1 9).toNatClampNeg) (if (vN19_15.2.1 0 ((vP.2.1 0 (x8_27).toNatClampNeg)).toNatClampNeg) = (vN31_23.2.1 0 ((vP.2.1 0 (x8_27).toNatClampNeg)).toNatClampNeg) then self28 (x8_27 + (1 : Int32)) else gd (isB (1 : Int32)) (gd (decide (((((kc2 + 1) + 20) + 1) + 20) ≤ 340 ∧ ((((ks3 + 8) + 128) + 8) + 128) ≤ 2200)) (some ((1 : Int32)))))))
def f_X8_isApart_L2 (vM : Vs) (vK : Vs) (vP : Vs) (vQ : Vs) (x1 : Int32) (x2 : Int32) (self4 : Int32 → Nat → Nat → Option (Int32)) (x3_1 : Int32) (kc2 : Nat) (ks3 : Nat) : Option (Int32) :=
  if ((1 : Int32) <<< ((vM.1 0) &&& 31)) ≤ x3_1 then gd (isB (0 : Int32)) (gd (decide (kc2 ≤ 340 ∧ ks3 ≤ 2200)) (some ((0 : Int32)))) else gd (decide (kc2 + 1 ≤ 340 ∧ ks3 + 8 ≤ 2200)) (o1 (f_X8_full vM vK vP vQ x3_1) (fun (vN15_11 : Vs) => gd (decide ((kc2 + 1) + 20 ≤ 340 ∧ (ks3 + 8) + 128 ≤ 2200)) (o1 (f_X8_values vN15_11 vM vK vP vQ x1) (fun (vN19_15 : Vs) => gd (decide (((kc2 + 1) + 20) + 1 ≤ 340 ∧ ((ks3 + 8) + 128) + 8 ≤ 2200)) (o1 (f_X8_full vM vK vP vQ x3_1) (fun (vN27_19 : Vs) => gd (decide ((((kc2 + 1) + 20) + 1) + 20 ≤ 340 ∧ (((ks3 + 8) + 128) + 8) + 128 ≤ 2200)) (o1 (f_X8_values vN27_19 vM vK vP vQ x2) (fun (vN31_23 : Vs) => lp (f_X8_isApart_L50 vP x3_1 kc2 ks3 self4 vN19_15 vN31_23) (fun _ => none) FU (0 : Int32)))))))))
def f_X8_isApart (vM : Vs) (vK : Vs) (vP : Vs) (vQ : Vs) (x1 : Int32) (x2 : Int32) : Option (Int32) :=
  lp (f_X8_isApart_L2 vM vK vP vQ x1 x2) (fun _ _ _ => none) FU (0 : Int32) 0 0
abbrev wsX8_isApart : List Cond := .code yX8_isApart cX8_isApart 10 (some .boolean) :: UW
abbrev rmX8_isApart : Room := { frames := 5, cells := 340, slots := 2200, locals := 127 }
set_option maxHeartbeats 4000000 in
set_option maxRecDepth 100000 in
theorem c_X8_isApart (l : Launch) (g : Gx) (aM : Nat) (vM : Vs) (qK : Nat) (vK : Vs) (qP : Nat) (vP : Vs) (qQ : Nat) (bQ : Nat → Nat) (vQ : Vs) (x1 : Int32) (x2 : Int32) (r : Int32) (hf : f_X8_isApart vM vK vP vQ x1 x2 = some r) : CtG l yX8_isApart wsX8_isApart rmX8_isApart g [.ref aM, .int x1, .int x2] (cM g aM (.ref qK) (.ref qQ) (.ref qP) vM ++ (cA g qK vK ++ (cA g qP vP ++ (cQ g qQ bQ vQ)))) (fun (u : Nat → Nat) => cM g aM (.ref qK) (.ref qQ) (.ref qP) vM ++ (cA g qK vK ++ (cA g qP vP ++ (cQ g qQ bQ vQ)))) (fun (u : Nat → Nat) => (fun _ => some (.int r)) u) 340 2200 := by
  unfold CtG
  intro sz
  refine Met.ofW (cc := cX8_isApart) (maxL := 10) (ret := (some .boolean)) (by decide) rfl ?_
  intro p e s m args below meth c s₁ B hml hv
  obtain ⟨rfl, hsz, hP, hK, hD0, hG⟩ := hv
  have hx := B.exec
  have hb := B.bytes
  have hr := B.returns
  have hts := atoms_spec (ws := wsX8_isApart) B.pre
  have hown : s.vm.findClass RX8 = some m.cls := findClass_of_methodNamed B.named
  have hlocks := B.notSynchronized
  subst hsz
  have hD := hD0.self (sz := s.heap.size)
  generalize hAe : va_A (cM g aM (.ref qK) (.ref qQ) (.ref qP) vM ++ (cA g qK vK ++ (cA g qP vP ++ (cQ g qQ bQ vQ)))) s.heap.size = A at hD hG ⊢
  have hA : ∀ q : Nat, s.heap.size ≤ q → A q := fun q h => by rw [← hAe]; exact Or.inr h
  clear hAe hD0
  have hS : va_S A s.heap s.heap [] := va_S.rf
  have hl := lv_entry ([.ref aM, .int x1, .int x2]) (n := 10) (Nat.le_of_ble_eq_true rfl)
  rw [lg_entry_eq]
  generalize (lg_sl ([.ref aM, .int x1, .int x2]) ++ List.replicate (10 - (lg_sl ([.ref aM, .int x1, .int x2])).length) Slot.unset).toArray = ls at hl ⊢
  have hl : lv_has ls 10 [(0, .ref aM), (1, .int x1), (2, .int x2)] := hl
  have htu : ∀ w ∈ UW, w.before _ s = true := fun w h => hts w (List.mem_cons_of_mem _ h)
  have k_3_83 := htu _ mw_3_83
  have k_3_89 := htu _ mw_3_89
  unfold f_X8_isApart at hf
  obtain ⟨H, hH⟩ : ∃ z, z = s.heap := ⟨_, rfl⟩
  obtain ⟨locs, hlo⟩ : ∃ z : List Loc, z = [] := ⟨_, rfl⟩
  have hS : va_S A s.heap H locs := by rw [hH, hlo]; exact hS
  rw [← hH] at hP
  have hW : W p l e (headSpec wsX8_isApart rmX8_isApart).room s m ([.ref aM, .int x1, .int x2] : List Value).toArray below meth c H locs 0 0 (MQ below (qG g A (fun (u : Nat → Nat) => cM g aM (.ref qK) (.ref qQ) (.ref qP) vM ++ (cA g qK vK ++ (cA g qP vP ++ (cQ g qQ bQ vQ)))) (fun (u : Nat → Nat) => (fun _ => some (.int r)) u)) ([.ref aM, .int x1, .int x2] : List Value).toArray s 340 2200 A) (F0 m 0 ls []) := by
    refine lv_iconst (v := (0 : Int32)) hx hb dX8_isApart_0 (by decide) ?_
    refine lv_istore_n (lv' := [(3, .int (0 : Int32)), (0, .ref aM), (1, .int x1), (2, .int x2)]) hx hb dX8_isApart_1 rfl hl (by decide) rfl (fun ls hl => ?_)
    have hL5 : ∀ (x3_1 : Int32) (kc2 : Nat) (ks3 : Nat), lp (f_X8_isApart_L2 vM vK vP vQ x1 x2) (fun _ _ _ => none) FU x3_1 kc2 ks3 = some r → ∀ (H : Heap) (locs : List Loc), va_P g.1 vwCl (cM g aM (.ref qK) (.ref qQ) (.ref qP) vM ++ (cA g qK vK ++ (cA g qP vP ++ (cQ g qQ bQ vQ)))) H → va_D A (cM g aM (.ref qK) (.ref qQ) (.ref qP) vM ++ (cA g qK vK ++ (cA g qP vP ++ (cQ g qQ bQ vQ)))) → va_S A s.heap H locs → ∀ ls : Array Slot, lv_has ls 10 [(0, .ref aM), (1, .int x1), (2, .int x2), (3, .int x3_1)] → W p l e (headSpec wsX8_isApart rmX8_isApart).room s m ([.ref aM, .int x1, .int x2] : List Value).toArray below meth c H locs kc2 ks3 (MQ below (qG g A (fun (u : Nat → Nat) => cM g aM (.ref qK) (.ref qQ) (.ref qP) vM ++ (cA g qK vK ++ (cA g qP vP ++ (cQ g qQ bQ vQ)))) (fun (u : Nat → Nat) => (fun _ => some (.int r)) u)) ([.ref aM, .int x1, .int x2] : List Value).toArray s 340 2200 A) (F0 m 2 ls []) := by
      refine lp_ind (T := Int32 → Nat → Nat → Option (Int32)) (fun self4 => ∀ (x3_1 : Int32) (kc2 : Nat) (ks3 : Nat), self4 x3_1 kc2 ks3 = some r → ∀ (H : Heap) (locs : List Loc), va_P g.1 vwCl (cM g aM (.ref qK) (.ref qQ) (.ref qP) vM ++ (cA g qK vK ++ (cA g qP vP ++ (cQ g qQ bQ vQ)))) H → va_D A (cM g aM (.ref qK) (.ref qQ) (.ref qP) vM ++ (cA g qK vK ++ (cA g qP vP ++ (cQ g qQ bQ vQ)))) → va_S A s.heap H locs → ∀ ls : Array Slot, lv_has ls 10 [(0, .ref aM), (1, .int x1), (2, .int x2), (3, .int x3_1)] → W p l e (headSpec wsX8_isApart rmX8_isApart).room s m ([.ref aM, .int x1, .int x2] : List Value).toArray below meth c H locs kc2 ks3 (MQ below (qG g A (fun (u : Nat → Nat) => cM g aM (.ref qK) (.ref qQ) (.ref qP) vM ++ (cA g qK vK ++ (cA g qP vP ++ (cQ g qQ bQ vQ)))) (fun (u : Nat → Nat) => (fun _ => some (.int r)) u)) ([.ref aM, .int x1, .int x2] : List Value).toArray s 340 2200 A) (F0 m 2 ls [])) ?_ ?_ FU
      · intro x3_1 kc2 ks3 hf; cases hf
      · intro self4 ih6 x3_1 kc2 ks3 hf H locs hP hD hS ls hl
        unfold f_X8_isApart_L2 at hf
        refine lv_iload_n hx hb dX8_isApart_2 rfl (lv_at hl 3 rfl) ?_
        refine lv_iconst (v := (1 : Int32)) hx hb dX8_isApart_3 (by decide) ?_
        refine lv_aload_n hx hb dX8_isApart_4 rfl (lv_at hl 0 rfl) ?_
        refine va_get (D := g.1) (ci := 8) (fs := fcM (.ref qK) (.ref qQ) (.ref qP) vM) (v := .int (vM.1 0)) (C := RX8) (T := TX8) (N := 8) hx hb htu hinX8 hown hK hP 0 rfl rfl 0 (by decide) k_3_83 (fun x9 h9 => h9) rfl dX8_isApart_5 ?_
        refine lv_ishl hx hb dX8_isApart_8 ?_
        refine lv_icmp_ge (tgt := 91) hx hb dX8_isApart_9 (by decide) (fun c7 => ?_) (fun c7 => ?_)
        · have hf := it_t hf c7
          refine lv_iconst (v := (0 : Int32)) hx hb dX8_isApart_91 (by decide) ?_
          obtain ⟨h8, hf⟩ := gd_isB hf
          obtain ⟨h9, hf⟩ := gd_at hf
          have e10 := Option.some.inj hf
          refine W.widen (k := 340) (n := 2200) (of_decide_eq_true h9).1 (of_decide_eq_true h9).2 ?_
          exact k_Gnret (w1 := fun (u : Nat → Nat) => cM g aM (.ref qK) (.ref qQ) (.ref qP) vM ++ (cA g qK vK ++ (cA g qP vP ++ (cQ g qQ bQ vQ)))) (rv := fun (u : Nat → Nat) => (fun _ => some (.int r)) u) (u := (fun i => 0)) hx hb hr hlocks hK hP hD hS rfl e10 (nar01 h8) dX8_isApart_92
        · have hf := it_f hf c7
          refine lv_aload_n hx hb dX8_isApart_12 rfl (lv_at hl 0 rfl) ?_
          refine lv_aload_n hx hb dX8_isApart_13 rfl (lv_at hl 0 rfl) ?_
          refine lv_iload_n hx hb dX8_isApart_14 rfl (lv_at hl 3 rfl) ?_
          obtain ⟨h13, hf⟩ := gd_at hf
          obtain ⟨vN15_11, hg12, hf⟩ := o1_at hf
          have hpm : (cM g aM (.ref qK) (.ref qQ) (.ref qP) vM ++ (cA g qK vK ++ (cA g qP vP ++ (cQ g qQ bQ vQ)))).Perm ((cM g aM (.ref qK) (.ref qQ) (.ref qP) vM ++ (cA g qK vK ++ (cA g qP vP ++ (cQ g qQ bQ vQ)))) ++ (([] : va_W))) := (kpc (fun P => by first | omega | (simp only [List.countP_append, List.countP_nil] <;> omega)))
          refine k_G (wc := cM g aM (.ref qK) (.ref qQ) (.ref qP) vM ++ (cA g qK vK ++ (cA g qP vP ++ (cQ g qQ bQ vQ)))) (wr := ([] : va_W)) (w1 := fun (u : Nat → Nat) => cM g aM (.ref qK) (.ref qQ) (.ref qP) vM ++ (cA g qK vK ++ (cA g qP vP ++ (cA g (u 0) vN15_11 ++ (cQ g qQ bQ vQ))))) (rv := fun (u : Nat → Nat) => (fun u => some (.ref (u 0))) u) hP hD hS hA hpm (va_runV (As := [.int x3_1]) (rest := [.ref aM]) ⟨hx, hb, hml, hown, htu⟩ ((c_X8_full l g aM vM qK vK qP vP qQ bQ vQ x3_1 vN15_11 hg12) H.size) (cwV 1 htu (gU_V mw_3_142 hcX8_full) rfl rfl rfl hdX8_full ⟨Nat.le_of_ble_eq_true rfl, Nat.le_of_ble_eq_true rfl⟩) (k_preV (C := RX8) hK hP hD hS hA hG hpm (va_recv (ci := 8) (q0 := 0) (fs := fcM (.ref qK) (.ref qQ) (.ref qP) vM) (q := (RX8, TX8, 8)) hK hP rfl rfl)) rfl rfl hl.1 rfl (lv_room (Nat.le_of_ble_eq_true rfl)) dX8_isApart_15 (of_decide_eq_true h13)) hQ_G (fun u14 H locs hP hD hS => ?_)
          refine W.eq (g2 := F0 m 18 ls [.ref (u14 0), .ref aM]) rfl ?_
          have hP : va_P g.1 vwCl ((cM g aM (.ref qK) (.ref qQ) (.ref qP) vM ++ (cA g qK vK ++ (cA g qP vP ++ (cA g (u14 0) vN15_11 ++ (cQ g qQ bQ vQ))))) ++ (([] : va_W))) H := hP
          have hD : va_D A ((cM g aM (.ref qK) (.ref qQ) (.ref qP) vM ++ (cA g qK vK ++ (cA g qP vP ++ (cA g (u14 0) vN15_11 ++ (cQ g qQ bQ vQ))))) ++ (([] : va_W))) := hD
          have hP : va_P g.1 vwCl (cM g aM (.ref qK) (.ref qQ) (.ref qP) vM ++ (cA g qK vK ++ (cA g qP vP ++ (cA g (u14 0) vN15_11 ++ (cQ g qQ bQ vQ))))) H := hP.perm (kpc (fun P => by first | omega | (simp only [List.countP_append, List.countP_nil] <;> omega)))
          have hD : va_D A (cM g aM (.ref qK) (.ref qQ) (.ref qP) vM ++ (cA g qK vK ++ (cA g qP vP ++ (cA g (u14 0) vN15_11 ++ (cQ g qQ bQ vQ))))) := hD.perm (kpc (fun P => by first | omega | (simp only [List.countP_append, List.countP_nil] <;> omega)))
          refine lv_iload_n hx hb dX8_isApart_18 rfl (lv_at hl 1 rfl) ?_
          obtain ⟨h17, hf⟩ := gd_at hf
          obtain ⟨vN19_15, hg16, hf⟩ := o1_at hf
          have hpm : (cM g aM (.ref qK) (.ref qQ) (.ref qP) vM ++ (cA g qK vK ++ (cA g qP vP ++ (cA g (u14 0) vN15_11 ++ (cQ g qQ bQ vQ))))).Perm ((cA g (u14 0) vN15_11 ++ (cM g aM (.ref qK) (.ref qQ) (.ref qP) vM ++ (cA g qK vK ++ (cA g qP vP ++ (cQ g qQ bQ vQ))))) ++ (([] : va_W))) := (kpc (fun P => by first | omega | (simp only [List.countP_append, List.countP_nil] <;> omega)))
          refine k_G (wc := cA g (u14 0) vN15_11 ++ (cM g aM (.ref qK) (.ref qQ) (.ref qP) vM ++ (cA g qK vK ++ (cA g qP vP ++ (cQ g qQ bQ vQ))))) (wr := ([] : va_W)) (w1 := fun (u : Nat → Nat) => cA g (u14 0) vN15_11 ++ (cM g aM (.ref qK) (.ref qQ) (.ref qP) vM ++ (cA g qK vK ++ (cA g qP vP ++ (cA g (u 0) vN19_15 ++ (cQ g qQ bQ vQ)))))) (rv := fun (u : Nat → Nat) => (fun u => some (.ref (u 0))) u) hP hD hS hA hpm (va_runV (As := [.ref (u14 0), .int x1]) (rest := []) ⟨hx, hb, hml, hown, htu⟩ ((c_X8_values l g (u14 0) vN15_11 aM vM qK vK qP vP qQ bQ vQ x1 vN19_15 hg16) H.size) (cwV 2 htu (gU_V mw_3_122 hcX8_values) rfl rfl rfl hdX8_values ⟨Nat.le_of_ble_eq_true rfl, Nat.le_of_ble_eq_true rfl⟩) (k_preV (C := RX8) hK hP hD hS hA hG hpm (va_recv (ci := 8) (q0 := 0) (fs := fcM (.ref qK) (.ref qQ) (.ref qP) vM) (q := (RX8, TX8, 8)) hK hP rfl rfl)) rfl rfl hl.1 rfl (lv_room (Nat.le_of_ble_eq_true rfl)) dX8_isApart_19 (of_decide_eq_true h17)) hQ_G (fun u18 H locs hP hD hS => ?_)
          refine W.eq (g2 := F0 m 22 ls [.ref (u18 0)]) rfl ?_
          have hP : va_P g.1 vwCl ((cA g (u14 0) vN15_11 ++ (cM g aM (.ref qK) (.ref qQ) (.ref qP) vM ++ (cA g qK vK ++ (cA g qP vP ++ (cA g (u18 0) vN19_15 ++ (cQ g qQ bQ vQ)))))) ++ (([] : va_W))) H := hP
          have hD : va_D A ((cA g (u14 0) vN15_11 ++ (cM g aM (.ref qK) (.ref qQ) (.ref qP) vM ++ (cA g qK vK ++ (cA g qP vP ++ (cA g (u18 0) vN19_15 ++ (cQ g qQ bQ vQ)))))) ++ (([] : va_W))) := hD
          have hP : va_P g.1 vwCl (cA g (u14 0) vN15_11 ++ (cM g aM (.ref qK) (.ref qQ) (.ref qP) vM ++ (cA g qK vK ++ (cA g qP vP ++ (cA g (u18 0) vN19_15 ++ (cQ g qQ bQ vQ)))))) H := hP.perm (kpc (fun P => by first | omega | (simp only [List.countP_append, List.countP_nil] <;> omega)))
          have hD : va_D A (cA g (u14 0) vN15_11 ++ (cM g aM (.ref qK) (.ref qQ) (.ref qP) vM ++ (cA g qK vK ++ (cA g qP vP ++ (cA g (u18 0) vN19_15 ++ (cQ g qQ bQ vQ)))))) := hD.perm (kpc (fun P => by first | omega | (simp only [List.countP_append, List.countP_nil] <;> omega)))
          refine lv_astore (lv' := [(4, .ref (u18 0)), (0, .ref aM), (1, .int x1), (2, .int x2), (3, .int x3_1)]) hx hb dX8_isApart_22 hl (by decide) rfl (fun ls hl => ?_)
          refine lv_aload_n hx hb dX8_isApart_24 rfl (lv_at hl 1 rfl) ?_
          refine lv_aload_n hx hb dX8_isApart_25 rfl (lv_at hl 1 rfl) ?_
          refine lv_iload_n hx hb dX8_isApart_26 rfl (lv_at hl 4 rfl) ?_
          obtain ⟨h21, hf⟩ := gd_at hf
          obtain ⟨vN27_19, hg20, hf⟩ := o1_at hf
          have hpm : (cA g (u14 0) vN15_11 ++ (cM g aM (.ref qK) (.ref qQ) (.ref qP) vM ++ (cA g qK vK ++ (cA g qP vP ++ (cA g (u18 0) vN19_15 ++ (cQ g qQ bQ vQ)))))).Perm ((cM g aM (.ref qK) (.ref qQ) (.ref qP) vM ++ (cA g qK vK ++ (cA g qP vP ++ (cQ g qQ bQ vQ)))) ++ (cA g (u14 0) vN15_11 ++ (cA g (u18 0) vN19_15))) := (kpc (fun P => by first | omega | (simp only [List.countP_append, List.countP_nil] <;> omega)))
          refine k_G (wc := cM g aM (.ref qK) (.ref qQ) (.ref qP) vM ++ (cA g qK vK ++ (cA g qP vP ++ (cQ g qQ bQ vQ)))) (wr := cA g (u14 0) vN15_11 ++ (cA g (u18 0) vN19_15)) (w1 := fun (u : Nat → Nat) => cM g aM (.ref qK) (.ref qQ) (.ref qP) vM ++ (cA g qK vK ++ (cA g qP vP ++ (cA g (u 0) vN27_19 ++ (cQ g qQ bQ vQ))))) (rv := fun (u : Nat → Nat) => (fun u => some (.ref (u 0))) u) hP hD hS hA hpm (va_runV (As := [.int x3_1]) (rest := [.ref aM]) ⟨hx, hb, hml, hown, htu⟩ ((c_X8_full l g aM vM qK vK qP vP qQ bQ vQ x3_1 vN27_19 hg20) H.size) (cwV 1 htu (gU_V mw_3_142 hcX8_full) rfl rfl rfl hdX8_full ⟨Nat.le_of_ble_eq_true rfl, Nat.le_of_ble_eq_true rfl⟩) (k_preV (C := RX8) hK hP hD hS hA hG hpm (va_recv (ci := 8) (q0 := 1) (fs := fcM (.ref qK) (.ref qQ) (.ref qP) vM) (q := (RX8, TX8, 8)) hK hP rfl rfl)) rfl rfl hl.1 rfl (lv_room (Nat.le_of_ble_eq_true rfl)) dX8_isApart_27 (of_decide_eq_true h21)) hQ_G (fun u22 H locs hP hD hS => ?_)
          refine W.eq (g2 := F0 m 30 ls [.ref (u22 0), .ref aM]) rfl ?_
          have hP : va_P g.1 vwCl ((cM g aM (.ref qK) (.ref qQ) (.ref qP) vM ++ (cA g qK vK ++ (cA g qP vP ++ (cA g (u22 0) vN27_19 ++ (cQ g qQ bQ vQ))))) ++ (cA g (u14 0) vN15_11 ++ (cA g (u18 0) vN19_15))) H := hP
          have hD : va_D A ((cM g aM (.ref qK) (.ref qQ) (.ref qP) vM ++ (cA g qK vK ++ (cA g qP vP ++ (cA g (u22 0) vN27_19 ++ (cQ g qQ bQ vQ))))) ++ (cA g (u14 0) vN15_11 ++ (cA g (u18 0) vN19_15))) := hD
          have hP : va_P g.1 vwCl (cM g aM (.ref qK) (.ref qQ) (.ref qP) vM ++ (cA g qK vK ++ (cA g qP vP ++ (cA g (u22 0) vN27_19 ++ (cA g (u14 0) vN15_11 ++ (cA g (u18 0) vN19_15 ++ (cQ g qQ bQ vQ))))))) H := hP.perm (kpc (fun P => by first | omega | (simp only [List.countP_append, List.countP_nil] <;> omega)))
          have hD : va_D A (cM g aM (.ref qK) (.ref qQ) (.ref qP) vM ++ (cA g qK vK ++ (cA g qP vP ++ (cA g (u22 0) vN27_19 ++ (cA g (u14 0) vN15_11 ++ (cA g (u18 0) vN19_15 ++ (cQ g qQ bQ vQ))))))) := hD.perm (kpc (fun P => by first | omega | (simp only [List.countP_append, List.countP_nil] <;> omega)))
          refine lv_iload_n hx hb dX8_isApart_30 rfl (lv_at hl 3 rfl) ?_
          obtain ⟨h25, hf⟩ := gd_at hf
          obtain ⟨vN31_23, hg24, hf⟩ := o1_at hf
          have hpm : (cM g aM (.ref qK) (.ref qQ) (.ref qP) vM ++ (cA g qK vK ++ (cA g qP vP ++ (cA g (u22 0) vN27_19 ++ (cA g (u14 0) vN15_11 ++ (cA g (u18 0) vN19_15 ++ (cQ g qQ bQ vQ))))))).Perm ((cA g (u22 0) vN27_19 ++ (cM g aM (.ref qK) (.ref qQ) (.ref qP) vM ++ (cA g qK vK ++ (cA g qP vP ++ (cQ g qQ bQ vQ))))) ++ (cA g (u14 0) vN15_11 ++ (cA g (u18 0) vN19_15))) := (kpc (fun P => by first | omega | (simp only [List.countP_append, List.countP_nil] <;> omega)))
          refine k_G (wc := cA g (u22 0) vN27_19 ++ (cM g aM (.ref qK) (.ref qQ) (.ref qP) vM ++ (cA g qK vK ++ (cA g qP vP ++ (cQ g qQ bQ vQ))))) (wr := cA g (u14 0) vN15_11 ++ (cA g (u18 0) vN19_15)) (w1 := fun (u : Nat → Nat) => cA g (u22 0) vN27_19 ++ (cM g aM (.ref qK) (.ref qQ) (.ref qP) vM ++ (cA g qK vK ++ (cA g qP vP ++ (cA g (u 0) vN31_23 ++ (cQ g qQ bQ vQ)))))) (rv := fun (u : Nat → Nat) => (fun u => some (.ref (u 0))) u) hP hD hS hA hpm (va_runV (As := [.ref (u22 0), .int x2]) (rest := []) ⟨hx, hb, hml, hown, htu⟩ ((c_X8_values l g (u22 0) vN27_19 aM vM qK vK qP vP qQ bQ vQ x2 vN31_23 hg24) H.size) (cwV 2 htu (gU_V mw_3_122 hcX8_values) rfl rfl rfl hdX8_values ⟨Nat.le_of_ble_eq_true rfl, Nat.le_of_ble_eq_true rfl⟩) (k_preV (C := RX8) hK hP hD hS hA hG hpm (va_recv (ci := 8) (q0 := 0) (fs := fcM (.ref qK) (.ref qQ) (.ref qP) vM) (q := (RX8, TX8, 8)) hK hP rfl rfl)) rfl rfl hl.1 rfl (lv_room (Nat.le_of_ble_eq_true rfl)) dX8_isApart_31 (of_decide_eq_true h25)) hQ_G (fun u26 H locs hP hD hS => ?_)
          refine W.eq (g2 := F0 m 34 ls [.ref (u26 0)]) rfl ?_
          have hP : va_P g.1 vwCl ((cA g (u22 0) vN27_19 ++ (cM g aM (.ref qK) (.ref qQ) (.ref qP) vM ++ (cA g qK vK ++ (cA g qP vP ++ (cA g (u26 0) vN31_23 ++ (cQ g qQ bQ vQ)))))) ++ (cA g (u14 0) vN15_11 ++ (cA g (u18 0) vN19_15))) H := hP
          have hD : va_D A ((cA g (u22 0) vN27_19 ++ (cM g aM (.ref qK) (.ref qQ) (.ref qP) vM ++ (cA g qK vK ++ (cA g qP vP ++ (cA g (u26 0) vN31_23 ++ (cQ g qQ bQ vQ)))))) ++ (cA g (u14 0) vN15_11 ++ (cA g (u18 0) vN19_15))) := hD
          have hP : va_P g.1 vwCl (cA g (u22 0) vN27_19 ++ (cM g aM (.ref qK) (.ref qQ) (.ref qP) vM ++ (cA g qK vK ++ (cA g qP vP ++ (cA g (u26 0) vN31_23 ++ (cA g (u14 0) vN15_11 ++ (cA g (u18 0) vN19_15 ++ (cQ g qQ bQ vQ)))))))) H := hP.perm (kpc (fun P => by first | omega | (simp only [List.countP_append, List.countP_nil] <;> omega)))
          have hD : va_D A (cA g (u22 0) vN27_19 ++ (cM g aM (.ref qK) (.ref qQ) (.ref qP) vM ++ (cA g qK vK ++ (cA g qP vP ++ (cA g (u26 0) vN31_23 ++ (cA g (u14 0) vN15_11 ++ (cA g (u18 0) vN19_15 ++ (cQ g qQ bQ vQ)))))))) := hD.perm (kpc (fun P => by first | omega | (simp only [List.countP_append, List.countP_nil] <;> omega)))
          refine lv_astore (lv' := [(5, .ref (u26 0)), (4, .ref (u18 0)), (0, .ref aM), (1, .int x1), (2, .int x2), (3, .int x3_1)]) hx hb dX8_isApart_34 hl (by decide) rfl (fun ls hl => ?_)
          refine lv_aload_n hx hb dX8_isApart_36 rfl (lv_at hl 2 rfl) ?_
          refine va_get (D := g.1) (ci := 8) (fs := fcM (.ref qK) (.ref qQ) (.ref qP) vM) (v := .ref qP) (C := RX8) (T := TX8) (N := 8) hx hb htu hinX8 hown hK hP 1 rfl rfl 4 (by decide) k_3_89 (fun x9 h9 => h9) rfl dX8_isApart_37 ?_
          refine lv_astore (lv' := [(6, .ref qP), (5, .ref (u26 0)), (4, .ref (u18 0)), (0, .ref aM), (1, .int x1), (2, .int x2), (3, .int x3_1)]) hx hb dX8_isApart_40 hl (by decide) rfl (fun ls hl => ?_)
          refine lv_aload hx hb dX8_isApart_42 (lv_at hl 0 rfl) ?_
          refine va_alen (D := g.1) (v := (nI (vP.1 9).toNatClampNeg)) (ty := .int) hx hb hK hP 3 0 rfl rfl rfl dX8_isApart_44 ?_
          refine lv_istore (lv' := [(7, .int (nI (vP.1 9).toNatClampNeg)), (6, .ref qP), (5, .ref (u26 0)), (4, .ref (u18 0)), (0, .ref aM), (1, .int x1), (2, .int x2), (3, .int x3_1)]) hx hb dX8_isApart_45 hl (by decide) rfl (fun ls hl => ?_)
          refine lv_iconst (v := (0 : Int32)) hx hb dX8_isApart_47 (by decide) ?_
          refine lv_istore (lv' := [(8, .int (0 : Int32)), (7, .int (nI (vP.1 9).toNatClampNeg)), (6, .ref qP), (5, .ref (u26 0)), (4, .ref (u18 0)), (0, .ref aM), (1, .int x1), (2, .int x2), (3, .int x3_1)]) hx hb dX8_isApart_48 hl (by decide) rfl (fun ls hl => ?_)
          have hL29 : ∀ (x8_27 : Int32), lp (f_X8_isApart_L50 vP x3_1 kc2 ks3 self4 vN19_15 vN31_23) (fun _ => none) FU x8_27 = some r → ∀ (H : Heap) (locs : List Loc), va_P g.1 vwCl (cA g (u22 0) vN27_19 ++ (cM g aM (.ref qK) (.ref qQ) (.ref qP) vM ++ (cA g qK vK ++ (cA g qP vP ++ (cA g (u26 0) vN31_23 ++ (cA g (u14 0) vN15_11 ++ (cA g (u18 0) vN19_15 ++ (cQ g qQ bQ vQ)))))))) H → va_D A (cA g (u22 0) vN27_19 ++ (cM g aM (.ref qK) (.ref qQ) (.ref qP) vM ++ (cA g qK vK ++ (cA g qP vP ++ (cA g (u26 0) vN31_23 ++ (cA g (u14 0) vN15_11 ++ (cA g (u18 0) vN19_15 ++ (cQ g qQ bQ vQ)))))))) → va_S A s.heap H locs → ∀ ls : Array Slot, lv_has ls 10 [(0, .ref aM), (1, .int x1), (2, .int x2), (3, .int x3_1), (4, .ref (u18 0)), (5, .ref (u26 0)), (6, .ref qP), (7, .int (nI (vP.1 9).toNatClampNeg)), (8, .int x8_27)] → W p l e (headSpec wsX8_isApart rmX8_isApart).room s m ([.ref aM, .int x1, .int x2] : List Value).toArray below meth c H locs ((((kc2 + 1) + 20) + 1) + 20) ((((ks3 + 8) + 128) + 8) + 128) (MQ below (qG g A (fun (u : Nat → Nat) => cM g aM (.ref qK) (.ref qQ) (.ref qP) vM ++ (cA g qK vK ++ (cA g qP vP ++ (cQ g qQ bQ vQ)))) (fun (u : Nat → Nat) => (fun _ => some (.int r)) u)) ([.ref aM, .int x1, .int x2] : List Value).toArray s 340 2200 A) (F0 m 50 ls []) := by
            refine lp_ind (T := Int32 → Option (Int32)) (fun self28 => ∀ (x8_27 : Int32), self28 x8_27 = some r → ∀ (H : Heap) (locs : List Loc), va_P g.1 vwCl (cA g (u22 0) vN27_19 ++ (cM g aM (.ref qK) (.ref qQ) (.ref qP) vM ++ (cA g qK vK ++ (cA g qP vP ++ (cA g (u26 0) vN31_23 ++ (cA g (u14 0) vN15_11 ++ (cA g (u18 0) vN19_15 ++ (cQ g qQ bQ vQ)))))))) H → va_D A (cA g (u22 0) vN27_19 ++ (cM g aM (.ref qK) (.ref qQ) (.ref qP) vM ++ (cA g qK vK ++ (cA g qP vP ++ (cA g (u26 0) vN31_23 ++ (cA g (u14 0) vN15_11 ++ (cA g (u18 0) vN19_15 ++ (cQ g qQ bQ vQ)))))))) → va_S A s.heap H locs → ∀ ls : Array Slot, lv_has ls 10 [(0, .ref aM), (1, .int x1), (2, .int x2), (3, .int x3_1), (4, .ref (u18 0)), (5, .ref (u26 0)), (6, .ref qP), (7, .int (nI (vP.1 9).toNatClampNeg)), (8, .int x8_27)] → W p l e (headSpec wsX8_isApart rmX8_isApart).room s m ([.ref aM, .int x1, .int x2] : List Value).toArray below meth c H locs ((((kc2 + 1) + 20) + 1) + 20) ((((ks3 + 8) + 128) + 8) + 128) (MQ below (qG g A (fun (u : Nat → Nat) => cM g aM (.ref qK) (.ref qQ) (.ref qP) vM ++ (cA g qK vK ++ (cA g qP vP ++ (cQ g qQ bQ vQ)))) (fun (u : Nat → Nat) => (fun _ => some (.int r)) u)) ([.ref aM, .int x1, .int x2] : List Value).toArray s 340 2200 A) (F0 m 50 ls [])) ?_ ?_ FU
            · intro x8_27 hf; cases hf
            · intro self28 ih30 x8_27 hf H locs hP hD hS ls hl
              unfold f_X8_isApart_L50 at hf
              refine lv_iload hx hb dX8_isApart_50 (lv_at hl 8 rfl) ?_
              refine lv_iload hx hb dX8_isApart_52 (lv_at hl 7 rfl) ?_
              refine lv_icmp_ge (tgt := 85) hx hb dX8_isApart_54 (by decide) (fun c31 => ?_) (fun c31 => ?_)
              · have hf := it_t hf c31
                refine lv_iinc (v := (x3_1 + (1 : Int32))) (lv' := [(3, .int (x3_1 + (1 : Int32))), (0, .ref aM), (1, .int x1), (2, .int x2), (4, .ref (u18 0)), (5, .ref (u26 0)), (6, .ref qP), (7, .int (nI (vP.1 9).toNatClampNeg)), (8, .int x8_27)]) hx hb dX8_isApart_85 hl (k := 3) rfl rfl (by decide) rfl (fun ls hl => ?_)
                refine lv_goto (tgt := 2) hx hb dX8_isApart_88 (by decide) ?_
                have hP : va_P g.1 vwCl (cM g aM (.ref qK) (.ref qQ) (.ref qP) vM ++ (cA g qK vK ++ (cA g qP vP ++ (cQ g qQ bQ vQ)))) H := k_dropP hP (w3 := cA g (u22 0) vN27_19 ++ (cA g (u26 0) vN31_23 ++ (cA g (u14 0) vN15_11 ++ (cA g (u18 0) vN19_15)))) (kpc (fun P => by first | omega | (simp only [List.countP_append, List.countP_nil] <;> omega)))
                have hD : va_D A (cM g aM (.ref qK) (.ref qQ) (.ref qP) vM ++ (cA g qK vK ++ (cA g qP vP ++ (cQ g qQ bQ vQ)))) := k_dropD hD (w3 := cA g (u22 0) vN27_19 ++ (cA g (u26 0) vN31_23 ++ (cA g (u14 0) vN15_11 ++ (cA g (u18 0) vN19_15)))) (kpc (fun P => by first | omega | (simp only [List.countP_append, List.countP_nil] <;> omega)))
                exact ih6 (x3_1 + (1 : Int32)) ((((kc2 + 1) + 20) + 1) + 20) ((((ks3 + 8) + 128) + 8) + 128) hf H locs hP hD hS _ (lv_sub hl [1, 2, 3, 0] rfl)
              · have hf := it_f hf c31
                refine lv_aload hx hb dX8_isApart_57 (lv_at hl 6 rfl) ?_
                refine lv_iload hx hb dX8_isApart_59 (lv_at hl 8 rfl) ?_
                obtain ⟨h32, hf⟩ := gd_in hf
                refine va_iald (D := g.1) (f := (vP.2.1 0)) hx hb hK hP 3 0 rfl rfl h32 dX8_isApart_61 ?_
                refine lv_istore (lv' := [(9, .int (vP.2.1 0 (x8_27).toNatClampNeg)), (0, .ref aM), (1, .int x1), (2, .int x2), (3, .int x3_1), (4, .ref (u18 0)), (5, .ref (u26 0)), (6, .ref qP), (7, .int (nI (vP.1 9).toNatClampNeg)), (8, .int x8_27)]) hx hb dX8_isApart_62 hl (by decide) rfl (fun ls hl => ?_)
                refine lv_aload hx hb dX8_isApart_64 (lv_at hl 5 rfl) ?_
                refine lv_iload hx hb dX8_isApart_66 (lv_at hl 0 rfl) ?_
                obtain ⟨h33, hf⟩ := gd_in hf
                refine va_iald (D := g.1) (f := (vN19_15.2.1 0)) hx hb hK hP 6 0 rfl rfl h33 dX8_isApart_68 ?_
                refine lv_aload hx hb dX8_isApart_69 (lv_at hl 6 rfl) ?_
                refine lv_iload hx hb dX8_isApart_71 (lv_at hl 0 rfl) ?_
                obtain ⟨h34, hf⟩ := gd_in hf
                refine va_iald (D := g.1) (f := (vN31_23.2.1 0)) hx hb hK hP 4 0 rfl rfl h34 dX8_isApart_73 ?_
                refine lv_icmp_eq (tgt := 79) hx hb dX8_isApart_74 (by decide) (fun c35 => ?_) (fun c35 => ?_)
                · have hf := it_t hf c35
                  refine lv_iinc (v := (x8_27 + (1 : Int32))) (lv' := [(8, .int (x8_27 + (1 : Int32))), (9, .int (vP.2.1 0 (x8_27).toNatClampNeg)), (0, .ref aM), (1, .int x1), (2, .int x2), (3, .int x3_1), (4, .ref (u18 0)), (5, .ref (u26 0)), (6, .ref qP), (7, .int (nI (vP.1 9).toNatClampNeg))]) hx hb dX8_isApart_79 hl (k := 9) rfl rfl (by decide) rfl (fun ls hl => ?_)
                  refine lv_goto (tgt := 50) hx hb dX8_isApart_82 (by decide) ?_
                  exact ih30 (x8_27 + (1 : Int32)) hf H locs hP hD hS _ (lv_sub hl [2, 3, 4, 5, 6, 7, 8, 9, 0] rfl)
                · have hf := it_f hf c35
                  refine lv_iconst (v := (1 : Int32)) hx hb dX8_isApart_77 (by decide) ?_
                  obtain ⟨h36, hf⟩ := gd_isB hf
                  obtain ⟨h37, hf⟩ := gd_at hf
                  have hP : va_P g.1 vwCl (cM g aM (.ref qK) (.ref qQ) (.ref qP) vM ++ (cA g qK vK ++ (cA g qP vP ++ (cQ g qQ bQ vQ)))) H := k_dropP hP (w3 := cA g (u22 0) vN27_19 ++ (cA g (u26 0) vN31_23 ++ (cA g (u14 0) vN15_11 ++ (cA g (u18 0) vN19_15)))) (kpc (fun P => by first | omega | (simp only [List.countP_append, List.countP_nil] <;> omega)))
                  have hD : va_D A (cM g aM (.ref qK) (.ref qQ) (.ref qP) vM ++ (cA g qK vK ++ (cA g qP vP ++ (cQ g qQ bQ vQ)))) := k_dropD hD (w3 := cA g (u22 0) vN27_19 ++ (cA g (u26 0) vN31_23 ++ (cA g (u14 0) vN15_11 ++ (cA g (u18 0) vN19_15)))) (kpc (fun P => by first | omega | (simp only [List.countP_append, List.countP_nil] <;> omega)))
                  have e38 := Option.some.inj hf
                  refine W.widen (k := 340) (n := 2200) (of_decide_eq_true h37).1 (of_decide_eq_true h37).2 ?_
                  exact k_Gnret (w1 := fun (u : Nat → Nat) => cM g aM (.ref qK) (.ref qQ) (.ref qP) vM ++ (cA g qK vK ++ (cA g qP vP ++ (cQ g qQ bQ vQ)))) (rv := fun (u : Nat → Nat) => (fun _ => some (.int r)) u) (u := (fun i => 0)) hx hb hr hlocks hK hP hD hS rfl e38 (nar01 h36) dX8_isApart_78
          exact hL29 (0 : Int32) hf H locs hP hD hS _ (lv_sub hl [5, 6, 7, 8, 4, 3, 2, 1, 0] rfl)
    exact hL5 (0 : Int32) 0 0 hf H locs hP hD hS _ (lv_sub hl [1, 2, 3, 0] rfl)
  rw [hH, hlo] at hW
  exact hW
