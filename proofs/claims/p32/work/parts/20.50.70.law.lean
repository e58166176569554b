set_option maxHeartbeats 40000000 in
set_option maxRecDepth 100000 in
theorem law_L70 {p : Program} {e : Env} {s : State} {m : MethodId} {below : List Frame} {meth : Method} {c : Code} (l : Launch) (g : Gx) {A : Nat → Prop} {b : Nat} (hx : p.tables.exec = Jvm.exec) (hb : c.code = cL_law) (hml : c.maxLocals = 13) (hr : meth.sig.returnType = ret) (hlocks : meth.locks = false) (hown : s.vm.findClass RL = some m.cls) (htu : ∀ w ∈ UW, w.before #[Value.ref b] s = true) (hK : va_K g.1 vwCl (tyL g) s) (hG : BG g A s s.heap) (hA : ∀ q, s.heap.size ≤ q → A q) (hAs : ∀ q, A q → s.heap.size ≤ q) (r5 : Int32) (r13 : Int32) (q18 : Nat) (vO24_20 : Vs) (vN30_1_22 : Vs) (u26 : Nat → Nat) (q28 : Nat) : ∀ (x5_63 : Int32) (vO34_64 : Vs) (vN62_65 : Vs) (vN30_66 : Vs) (vN30_2_67 : Vs) (kc68 : Nat) (ks69 : Nat), lp (f_L_law_L70 (scL g) (scX g) r5 r13 vO24_20 vN30_1_22) (fun _ _ _ _ _ _ _ => none) FU x5_63 vO34_64 vN62_65 vN30_66 vN30_2_67 kc68 ks69 = some () → ∀ (qN62_70 : Nat) (bN30_2_71 : Nat → Nat), ∀ (H : Heap) (locs : List Loc), va_P g.1 vwCl (cU g q28 (.ref qN62_70) vO34_64 ++ (cB g qN62_70 vN62_65 ++ (cM g q18 (.ref (u26 0)) (.ref (u26 2)) (.ref (u26 1)) vO24_20 ++ (cA g (u26 0) vN30_66 ++ (cA g (u26 1) vN30_1_22 ++ (cQ g (u26 2) bN30_2_71 vN30_2_67)))))) H → va_D A (cU g q28 (.ref qN62_70) vO34_64 ++ (cB g qN62_70 vN62_65 ++ (cM g q18 (.ref (u26 0)) (.ref (u26 2)) (.ref (u26 1)) vO24_20 ++ (cA g (u26 0) vN30_66 ++ (cA g (u26 1) vN30_1_22 ++ (cQ g (u26 2) bN30_2_71 vN30_2_67)))))) → va_S A s.heap H locs → ∀ ls : Array Slot, lv_has ls 13 [(0, .ref (adS g 5)), (1, .int ((2 : Int32) + r5)), (2, .int ((3 : Int32) + r13)), (3, .ref q18), (4, .ref q28), (5, .int x5_63)] → W p l e room_1 s m #[Value.ref b] below meth c H locs kc68 ks69 (lw_Z below #[Value.ref b] s) (F0 m 70 ls []) := by
  refine lp_ind (T := Int32 → Vs → Vs → Vs → Vs → Nat → Nat → Option (Unit)) (fun self72 => ∀ (x5_63 : Int32) (vO34_64 : Vs) (vN62_65 : Vs) (vN30_66 : Vs) (vN30_2_67 : Vs) (kc68 : Nat) (ks69 : Nat), self72 x5_63 vO34_64 vN62_65 vN30_66 vN30_2_67 kc68 ks69 = some () → ∀ (qN62_70 : Nat) (bN30_2_71 : Nat → Nat), ∀ (H : Heap) (locs : List Loc), va_P g.1 vwCl (cU g q28 (.ref qN62_70) vO34_64 ++ (cB g qN62_70 vN62_65 ++ (cM g q18 (.ref (u26 0)) (.ref (u26 2)) (.ref (u26 1)) vO24_20 ++ (cA g (u26 0) vN30_66 ++ (cA g (u26 1) vN30_1_22 ++ (cQ g (u26 2) bN30_2_71 vN30_2_67)))))) H → va_D A (cU g q28 (.ref qN62_70) vO34_64 ++ (cB g qN62_70 vN62_65 ++ (cM g q18 (.ref (u26 0)) (.ref (u26 2)) (.ref (u26 1)) vO24_20 ++ (cA g (u26 0) vN30_66 ++ (cA g (u26 1) vN30_1_22 ++ (cQ g (u26 2) bN30_2_71 vN30_2_67)))))) → va_S A s.heap H locs → ∀ ls : Array Slot, lv_has ls 13 [(0, .ref (adS g 5)), (1, .int ((2 : Int32) + r5)), (2, .int ((3 : Int32) + r13)), (3, .ref q18), (4, .ref q28), (5, .int x5_63)] → W p l e room_1 s m #[Value.ref b] below meth c H locs kc68 ks69 (lw_Z below #[Value.ref b] s) (F0 m 70 ls [])) ?_ ?_ FU
  · intro x5_63 vO34_64 vN62_65 vN30_66 vN30_2_67 kc68 ks69 hf; cases hf
  · intro self72 ih74 x5_63 vO34_64 vN62_65 vN30_66 vN30_2_67 kc68 ks69 hf qN62_70 bN30_2_71 H locs hP hD hS ls hl
    unfold f_L_law_L70 at hf
    refine lv_iload hx hb dL_law_70 (lv_at hl 5 rfl) ?_
    refine lv_iload_n hx hb dL_law_72 rfl (lv_at hl 2 rfl) ?_
    refine lv_icmp_ge (tgt := 254) hx hb dL_law_73 (by decide) (fun c75 => ?_) (fun c75 => ?_)
    · have hf := it_t hf c75
      refine lv_iconst (v := (0 : Int32)) hx hb dL_law_254 (by decide) ?_
      refine lv_istore (lv' := [(5, .int (0 : Int32)), (0, .ref (adS g 5)), (1, .int ((2 : Int32) + r5)), (2, .int ((3 : Int32) + r13)), (3, .ref q18), (4, .ref q28)]) hx hb dL_law_255 hl (by decide) rfl (fun ls hl => ?_)
      have hL79 := law_L257 (e := e) (below := below) l g hx hb hml hr hlocks hown htu hK hG hA hAs r5 q18 vO24_20 u26 q28 vO34_64 vN62_65 vN30_66 vN30_2_67 kc68 ks69 qN62_70 bN30_2_71
      exact hL79 (0 : Int32) vN30_1_22 hf H locs hP hD hS _ (lv_sub hl [1, 2, 4, 5, 0] rfl)
    · have hf := it_f hf c75
      refine lv_aload_n hx hb dL_law_76 rfl (lv_at hl 0 rfl) ?_
      refine lv_iconst (v := (2 : Int32)) hx hb dL_law_77 (by decide) ?_
      refine lv_iload hx hb dL_law_78 (lv_at hl 5 rfl) ?_
      refine lv_iadd hx hb dL_law_80 ?_
      obtain ⟨h394, hf⟩ := gd_at hf
      obtain ⟨r392, hg393, hf⟩ := o1_at hf
      have hpm : (cU g q28 (.ref qN62_70) vO34_64 ++ (cB g qN62_70 vN62_65 ++ (cM g q18 (.ref (u26 0)) (.ref (u26 2)) (.ref (u26 1)) vO24_20 ++ (cA g (u26 0) vN30_66 ++ (cA g (u26 1) vN30_1_22 ++ (cQ g (u26 2) bN30_2_71 vN30_2_67)))))).Perm ((([] : va_W)) ++ (cU g q28 (.ref qN62_70) vO34_64 ++ (cB g qN62_70 vN62_65 ++ (cM g q18 (.ref (u26 0)) (.ref (u26 2)) (.ref (u26 1)) vO24_20 ++ (cA g (u26 0) vN30_66 ++ (cA g (u26 1) vN30_1_22 ++ (cQ g (u26 2) bN30_2_71 vN30_2_67))))))) := pm_16
      refine k_G (wc := ([] : va_W)) (wr := cU g q28 (.ref qN62_70) vO34_64 ++ (cB g qN62_70 vN62_65 ++ (cM g q18 (.ref (u26 0)) (.ref (u26 2)) (.ref (u26 1)) vO24_20 ++ (cA g (u26 0) vN30_66 ++ (cA g (u26 1) vN30_1_22 ++ (cQ g (u26 2) bN30_2_71 vN30_2_67)))))) (w1 := fun (u : Nat → Nat) => ([] : va_W)) (rv := fun (u : Nat → Nat) => (fun _ => some (.int r392)) u) hP hD hS hA hpm (va_runS (As := [.ref (adS g 5), .int ((2 : Int32) + x5_63)]) (rest := []) ⟨hx, hb, hml, hown, htu⟩ ((c_L_cell l g ((2 : Int32) + x5_63) r392 hg393) H.size) (va_cwS 2 htu (gU_S mw_3_143 hcL_cell) rfl rfl rfl hdL_cell ⟨Nat.le_of_ble_eq_true rfl, Nat.le_of_ble_eq_true rfl⟩) (k_preS hK hP hD hS hA hG hpm) rfl rfl hl.1 rfl (lv_room (Nat.le_of_ble_eq_true rfl)) dL_law_81 (of_decide_eq_true h394)) hQ_G (fun u395 H locs hP hD hS => ?_)
      refine W.eq (g2 := F0 m 84 ls [.int r392]) rfl ?_
      have hP : va_P g.1 vwCl ((([] : va_W)) ++ (cU g q28 (.ref qN62_70) vO34_64 ++ (cB g qN62_70 vN62_65 ++ (cM g q18 (.ref (u26 0)) (.ref (u26 2)) (.ref (u26 1)) vO24_20 ++ (cA g (u26 0) vN30_66 ++ (cA g (u26 1) vN30_1_22 ++ (cQ g (u26 2) bN30_2_71 vN30_2_67))))))) H := hP
      have hD : va_D A ((([] : va_W)) ++ (cU g q28 (.ref qN62_70) vO34_64 ++ (cB g qN62_70 vN62_65 ++ (cM g q18 (.ref (u26 0)) (.ref (u26 2)) (.ref (u26 1)) vO24_20 ++ (cA g (u26 0) vN30_66 ++ (cA g (u26 1) vN30_1_22 ++ (cQ g (u26 2) bN30_2_71 vN30_2_67))))))) := hD
      have hP : va_P g.1 vwCl (cU g q28 (.ref qN62_70) vO34_64 ++ (cB g qN62_70 vN62_65 ++ (cM g q18 (.ref (u26 0)) (.ref (u26 2)) (.ref (u26 1)) vO24_20 ++ (cA g (u26 0) vN30_66 ++ (cA g (u26 1) vN30_1_22 ++ (cQ g (u26 2) bN30_2_71 vN30_2_67)))))) H := hP.perm pm_17
      have hD : va_D A (cU g q28 (.ref qN62_70) vO34_64 ++ (cB g qN62_70 vN62_65 ++ (cM g q18 (.ref (u26 0)) (.ref (u26 2)) (.ref (u26 1)) vO24_20 ++ (cA g (u26 0) vN30_66 ++ (cA g (u26 1) vN30_1_22 ++ (cQ g (u26 2) bN30_2_71 vN30_2_67)))))) := hD.perm pm_17
      refine lv_istore (lv' := [(6, .int r392), (0, .ref (adS g 5)), (1, .int ((2 : Int32) + r5)), (2, .int ((3 : Int32) + r13)), (3, .ref q18), (4, .ref q28), (5, .int x5_63)]) hx hb dL_law_84 hl (by decide) rfl (fun ls hl => ?_)
      refine lv_aload_n hx hb dL_law_86 rfl (lv_at hl 4 rfl) ?_
      refine va_getN (D := g.1) (ci := 8) (fs := fcM (.ref (u26 0)) (.ref (u26 2)) (.ref (u26 1)) vO24_20) (v := .ref (u26 0)) (C := RX8) (T := TX8) (N := 8) hx hb htu hinX8 hown hK hP 2 rfl rfl 2 (by decide) (va_Nw.use rfl (hG.1.2.1 _ (List.mem_of_getElem? (i := 1) rfl))) (fun _ h9 => h9) rfl dL_law_87 ?_
      refine lv_iload hx hb dL_law_90 (lv_at hl 6 rfl) ?_
      refine lv_iload hx hb dL_law_92 (lv_at hl 0 rfl) ?_
      refine lv_bipush (v := (9 : Int32)) hx hb dL_law_94 (by decide) ?_
      obtain ⟨h398, hf⟩ := gd_at hf
      obtain ⟨r396, hg397, hf⟩ := o1_at hf
      have hpm : (cU g q28 (.ref qN62_70) vO34_64 ++ (cB g qN62_70 vN62_65 ++ (cM g q18 (.ref (u26 0)) (.ref (u26 2)) (.ref (u26 1)) vO24_20 ++ (cA g (u26 0) vN30_66 ++ (cA g (u26 1) vN30_1_22 ++ (cQ g (u26 2) bN30_2_71 vN30_2_67)))))).Perm ((([] : va_W)) ++ (cU g q28 (.ref qN62_70) vO34_64 ++ (cB g qN62_70 vN62_65 ++ (cM g q18 (.ref (u26 0)) (.ref (u26 2)) (.ref (u26 1)) vO24_20 ++ (cA g (u26 0) vN30_66 ++ (cA g (u26 1) vN30_1_22 ++ (cQ g (u26 2) bN30_2_71 vN30_2_67))))))) := pm_16
      refine k_G (wc := ([] : va_W)) (wr := cU g q28 (.ref qN62_70) vO34_64 ++ (cB g qN62_70 vN62_65 ++ (cM g q18 (.ref (u26 0)) (.ref (u26 2)) (.ref (u26 1)) vO24_20 ++ (cA g (u26 0) vN30_66 ++ (cA g (u26 1) vN30_1_22 ++ (cQ g (u26 2) bN30_2_71 vN30_2_67)))))) (w1 := fun (u : Nat → Nat) => ([] : va_W)) (rv := fun (u : Nat → Nat) => (fun _ => some (.int r396)) u) hP hD hS hA hpm (va_runS (As := [.int r392, .int (9 : Int32)]) (rest := [.int x5_63, .ref (u26 0)]) ⟨hx, hb, hml, hown, htu⟩ ((c_L_bound l g r392 (9 : Int32) r396 hg397) H.size) (va_cwS 2 htu (gU_S mw_3_146 hcL_bound) rfl rfl rfl hdL_bound ⟨Nat.le_of_ble_eq_true rfl, Nat.le_of_ble_eq_true rfl⟩) (k_preS hK hP hD hS hA hG hpm) rfl rfl hl.1 rfl (lv_room (Nat.le_of_ble_eq_true rfl)) dL_law_96 (of_decide_eq_true h398)) hQ_G (fun u399 H locs hP hD hS => ?_)
      refine W.eq (g2 := F0 m 99 ls [.int r396, .int x5_63, .ref (u26 0)]) rfl ?_
      have hP : va_P g.1 vwCl ((([] : va_W)) ++ (cU g q28 (.ref qN62_70) vO34_64 ++ (cB g qN62_70 vN62_65 ++ (cM g q18 (.ref (u26 0)) (.ref (u26 2)) (.ref (u26 1)) vO24_20 ++ (cA g (u26 0) vN30_66 ++ (cA g (u26 1) vN30_1_22 ++ (cQ g (u26 2) bN30_2_71 vN30_2_67))))))) H := hP
      have hD : va_D A ((([] : va_W)) ++ (cU g q28 (.ref qN62_70) vO34_64 ++ (cB g qN62_70 vN62_65 ++ (cM g q18 (.ref (u26 0)) (.ref (u26 2)) (.ref (u26 1)) vO24_20 ++ (cA g (u26 0) vN30_66 ++ (cA g (u26 1) vN30_1_22 ++ (cQ g (u26 2) bN30_2_71 vN30_2_67))))))) := hD
      have hP : va_P g.1 vwCl (cU g q28 (.ref qN62_70) vO34_64 ++ (cB g qN62_70 vN62_65 ++ (cM g q18 (.ref (u26 0)) (.ref (u26 2)) (.ref (u26 1)) vO24_20 ++ (cA g (u26 0) vN30_66 ++ (cA g (u26 1) vN30_1_22 ++ (cQ g (u26 2) bN30_2_71 vN30_2_67)))))) H := hP.perm pm_17
      have hD : va_D A (cU g q28 (.ref qN62_70) vO34_64 ++ (cB g qN62_70 vN62_65 ++ (cM g q18 (.ref (u26 0)) (.ref (u26 2)) (.ref (u26 1)) vO24_20 ++ (cA g (u26 0) vN30_66 ++ (cA g (u26 1) vN30_1_22 ++ (cQ g (u26 2) bN30_2_71 vN30_2_67)))))) := hD.perm pm_17
      obtain ⟨h400, hf⟩ := gd_in hf
      refine va_iast (D := g.1) (f := (vN30_66.2.1 0)) hx hb hK hP hD hS 3 0 rfl rfl h400 dL_law_99 (fun H locs hP hD hS => ?_)
      obtain ⟨vN30_401, evN30_401⟩ : ∃ z : Vs, z = sI vN30_66 0 (x5_63).toNatClampNeg r396 := ⟨_, rfl⟩
      have hf := bn_at hf evN30_401
      have hP : va_P g.1 vwCl (cU g q28 (.ref qN62_70) vO34_64 ++ (cB g qN62_70 vN62_65 ++ (cM g q18 (.ref (u26 0)) (.ref (u26 2)) (.ref (u26 1)) vO24_20 ++ (cA g (u26 0) vN30_401 ++ (cA g (u26 1) vN30_1_22 ++ (cQ g (u26 2) bN30_2_71 vN30_2_67)))))) H := by rw [evN30_401]; exact hP
      have hD : va_D A (cU g q28 (.ref qN62_70) vO34_64 ++ (cB g qN62_70 vN62_65 ++ (cM g q18 (.ref (u26 0)) (.ref (u26 2)) (.ref (u26 1)) vO24_20 ++ (cA g (u26 0) vN30_401 ++ (cA g (u26 1) vN30_1_22 ++ (cQ g (u26 2) bN30_2_71 vN30_2_67)))))) := by rw [evN30_401]; exact hD
      refine lv_aload_n hx hb dL_law_100 rfl (lv_at hl 4 rfl) ?_
      refine va_getN (D := g.1) (ci := 8) (fs := fcM (.ref (u26 0)) (.ref (u26 2)) (.ref (u26 1)) vO24_20) (v := .ref (u26 0)) (C := RX8) (T := TX8) (N := 8) hx hb htu hinX8 hown hK hP 2 rfl rfl 2 (by decide) (va_Nw.use rfl (hG.1.2.1 _ (List.mem_of_getElem? (i := 1) rfl))) (fun _ h9 => h9) rfl dL_law_101 ?_
      refine lv_iload hx hb dL_law_104 (lv_at hl 6 rfl) ?_
      obtain ⟨h402, hf⟩ := gd_in hf
      refine va_iald (D := g.1) (f := (vN30_401.2.1 0)) hx hb hK hP 3 0 rfl rfl h402 dL_law_106 ?_
      refine lv_bipush (v := (8 : Int32)) hx hb dL_law_107 (by decide) ?_
      obtain ⟨k404, hk459, hf⟩ := jn_at hf
      have hJ405 : ∀ (t403 : Int32), k404 t403 = some () → ∀ (H : Heap) (locs : List Loc), va_P g.1 vwCl (cU g q28 (.ref qN62_70) vO34_64 ++ (cB g qN62_70 vN62_65 ++ (cM g q18 (.ref (u26 0)) (.ref (u26 2)) (.ref (u26 1)) vO24_20 ++ (cA g (u26 0) vN30_401 ++ (cA g (u26 1) vN30_1_22 ++ (cQ g (u26 2) bN30_2_71 vN30_2_67)))))) H → va_D A (cU g q28 (.ref qN62_70) vO34_64 ++ (cB g qN62_70 vN62_65 ++ (cM g q18 (.ref (u26 0)) (.ref (u26 2)) (.ref (u26 1)) vO24_20 ++ (cA g (u26 0) vN30_401 ++ (cA g (u26 1) vN30_1_22 ++ (cQ g (u26 2) bN30_2_71 vN30_2_67)))))) → va_S A s.heap H locs → ∀ ls : Array Slot, lv_has ls 13 [(0, .ref (adS g 5)), (1, .int ((2 : Int32) + r5)), (2, .int ((3 : Int32) + r13)), (3, .ref q18), (4, .ref q28), (5, .int x5_63), (6, .int r392)] → W p l e room_1 s m #[Value.ref b] below meth c H locs kc68 ks69 (lw_Z below #[Value.ref b] s) (F0 m 141 ls [.int t403]) := by rw [hk459]; exact law_J141 (e := e) (below := below) l g hx hb hml hr hlocks hown htu hK hG hA hAs r5 r13 q18 vO24_20 vN30_1_22 u26 q28 x5_63 vO34_64 vN62_65 vN30_2_67 kc68 ks69 qN62_70 bN30_2_71 self72 ih74 r392 vN30_401
      clear hk459
      refine lv_icmp_ne (tgt := 116) hx hb dL_law_109 (by decide) (fun c460 => ?_) (fun c460 => ?_)
      · have hf := it_f hf c460
        refine lv_aload_n hx hb dL_law_116 rfl (lv_at hl 4 rfl) ?_
        refine va_getN (D := g.1) (ci := 8) (fs := fcM (.ref (u26 0)) (.ref (u26 2)) (.ref (u26 1)) vO24_20) (v := .ref (u26 0)) (C := RX8) (T := TX8) (N := 8) hx hb htu hinX8 hown hK hP 2 rfl rfl 2 (by decide) (va_Nw.use rfl (hG.1.2.1 _ (List.mem_of_getElem? (i := 1) rfl))) (fun _ h9 => h9) rfl dL_law_117 ?_
        refine lv_iload hx hb dL_law_120 (lv_at hl 6 rfl) ?_
        obtain ⟨h461, hf⟩ := gd_in hf
        refine va_iald (D := g.1) (f := (vN30_401.2.1 0)) hx hb hK hP 3 0 rfl rfl h461 dL_law_122 ?_
        refine lv_iconst (v := (5 : Int32)) hx hb dL_law_123 (by decide) ?_
        refine lv_icmp_le (tgt := 131) hx hb dL_law_124 (by decide) (fun c462 => ?_) (fun c462 => ?_)
        · have hf := it_t hf c462
          refine lv_iconst (v := (2 : Int32)) hx hb dL_law_131 (by decide) ?_
          refine lv_iload hx hb dL_law_132 (lv_at hl 0 rfl) ?_
          refine lv_iconst (v := (4 : Int32)) hx hb dL_law_134 (by decide) ?_
          refine lv_ishr hx hb dL_law_135 ?_
          refine lv_iconst (v := (3 : Int32)) hx hb dL_law_136 (by decide) ?_
          obtain ⟨h465, hf⟩ := gd_at hf
          obtain ⟨r463, hg464, hf⟩ := o1_at hf
          have hpm : (cU g q28 (.ref qN62_70) vO34_64 ++ (cB g qN62_70 vN62_65 ++ (cM g q18 (.ref (u26 0)) (.ref (u26 2)) (.ref (u26 1)) vO24_20 ++ (cA g (u26 0) vN30_401 ++ (cA g (u26 1) vN30_1_22 ++ (cQ g (u26 2) bN30_2_71 vN30_2_67)))))).Perm ((([] : va_W)) ++ (cU g q28 (.ref qN62_70) vO34_64 ++ (cB g qN62_70 vN62_65 ++ (cM g q18 (.ref (u26 0)) (.ref (u26 2)) (.ref (u26 1)) vO24_20 ++ (cA g (u26 0) vN30_401 ++ (cA g (u26 1) vN30_1_22 ++ (cQ g (u26 2) bN30_2_71 vN30_2_67))))))) := pm_16
          refine k_G (wc := ([] : va_W)) (wr := cU g q28 (.ref qN62_70) vO34_64 ++ (cB g qN62_70 vN62_65 ++ (cM g q18 (.ref (u26 0)) (.ref (u26 2)) (.ref (u26 1)) vO24_20 ++ (cA g (u26 0) vN30_401 ++ (cA g (u26 1) vN30_1_22 ++ (cQ g (u26 2) bN30_2_71 vN30_2_67)))))) (w1 := fun (u : Nat → Nat) => ([] : va_W)) (rv := fun (u : Nat → Nat) => (fun _ => some (.int r463)) u) hP hD hS hA hpm (va_runS (As := [.int (r392 >>> ((4 : Int32) &&& 31)), .int (3 : Int32)]) (rest := [.int (2 : Int32)]) ⟨hx, hb, hml, hown, htu⟩ ((c_L_bound l g (r392 >>> ((4 : Int32) &&& 31)) (3 : Int32) r463 hg464) H.size) (va_cwS 2 htu (gU_S mw_3_146 hcL_bound) rfl rfl rfl hdL_bound ⟨Nat.le_of_ble_eq_true rfl, Nat.le_of_ble_eq_true rfl⟩) (k_preS hK hP hD hS hA hG hpm) rfl rfl hl.1 rfl (lv_room (Nat.le_of_ble_eq_true rfl)) dL_law_137 (of_decide_eq_true h465)) hQ_G (fun u466 H locs hP hD hS => ?_)
          refine W.eq (g2 := F0 m 140 ls [.int r463, .int (2 : Int32)]) rfl ?_
          have hP : va_P g.1 vwCl ((([] : va_W)) ++ (cU g q28 (.ref qN62_70) vO34_64 ++ (cB g qN62_70 vN62_65 ++ (cM g q18 (.ref (u26 0)) (.ref (u26 2)) (.ref (u26 1)) vO24_20 ++ (cA g (u26 0) vN30_401 ++ (cA g (u26 1) vN30_1_22 ++ (cQ g (u26 2) bN30_2_71 vN30_2_67))))))) H := hP
          have hD : va_D A ((([] : va_W)) ++ (cU g q28 (.ref qN62_70) vO34_64 ++ (cB g qN62_70 vN62_65 ++ (cM g q18 (.ref (u26 0)) (.ref (u26 2)) (.ref (u26 1)) vO24_20 ++ (cA g (u26 0) vN30_401 ++ (cA g (u26 1) vN30_1_22 ++ (cQ g (u26 2) bN30_2_71 vN30_2_67))))))) := hD
          have hP : va_P g.1 vwCl (cU g q28 (.ref qN62_70) vO34_64 ++ (cB g qN62_70 vN62_65 ++ (cM g q18 (.ref (u26 0)) (.ref (u26 2)) (.ref (u26 1)) vO24_20 ++ (cA g (u26 0) vN30_401 ++ (cA g (u26 1) vN30_1_22 ++ (cQ g (u26 2) bN30_2_71 vN30_2_67)))))) H := hP.perm pm_17
          have hD : va_D A (cU g q28 (.ref qN62_70) vO34_64 ++ (cB g qN62_70 vN62_65 ++ (cM g q18 (.ref (u26 0)) (.ref (u26 2)) (.ref (u26 1)) vO24_20 ++ (cA g (u26 0) vN30_401 ++ (cA g (u26 1) vN30_1_22 ++ (cQ g (u26 2) bN30_2_71 vN30_2_67)))))) := hD.perm pm_17
          refine lv_iadd hx hb dL_law_140 ?_
          exact hJ405 ((2 : Int32) + r463) hf H locs hP hD hS _ (lv_sub hl [1, 2, 3, 4, 5, 6, 0] rfl)
        · have hf := it_f hf c462
          refine lv_iconst (v := (1 : Int32)) hx hb dL_law_127 (by decide) ?_
          refine lv_goto (tgt := 141) hx hb dL_law_128 (by decide) ?_
          exact hJ405 (1 : Int32) hf H locs hP hD hS _ (lv_sub hl [1, 2, 3, 4, 5, 6, 0] rfl)
      · have hf := it_t hf c460
        refine lv_iconst (v := (3 : Int32)) hx hb dL_law_112 (by decide) ?_
        refine lv_goto (tgt := 141) hx hb dL_law_113 (by decide) ?_
        exact hJ405 (3 : Int32) hf H locs hP hD hS _ (lv_sub hl [1, 2, 3, 4, 5, 6, 0] rfl)
set_option maxHeartbeats 40000000 in
set_option maxRecDepth 100000 in
theorem law_all {p : Program} {e : Env} {s : State} {m : MethodId} {below : List Frame} {meth : Method} {c : Code} (l : Launch) (g : Gx) {A : Nat → Prop} {b : Nat} (hx : p.tables.exec = Jvm.exec) (hb : c.code = cL_law) (hml : c.maxLocals = 13) (hr : meth.sig.returnType = ret) (hlocks : meth.locks = false) (hown : s.vm.findClass RL = some m.cls) (htu : ∀ w ∈ UW, w.before #[Value.ref b] s = true) (hK : va_K g.1 vwCl (tyL g) s) (hG : BG g A s s.heap) (hA : ∀ q, s.heap.size ≤ q → A q) (hAs : ∀ q, A q → s.heap.size ≤ q) (hf : f_L_law (scL g) (scX g) = some ()) : ∀ (H : Heap) (locs : List Loc), va_P g.1 vwCl ([] : va_W) H → va_D A ([] : va_W) → va_S A s.heap H locs → ∀ ls : Array Slot, lv_has ls 13 [(0, .ref (adS g 5))] → W p l e room_1 s m #[Value.ref b] below meth c H locs 0 0 (lw_Z below #[Value.ref b] s) (F0 m 0 ls []) := by
  intro H locs hP hD hS ls hl
  have k_3_75 := htu _ mw_3_75
  have k_3_76 := htu _ mw_3_76
  have k_1_1 := htu _ mw_1_1
  have k_4_166 := htu _ mw_4_166
  have k_4_167 := htu _ mw_4_167
  have k_1_3 := htu _ mw_1_3
  unfold f_L_law at hf
  refine lv_iconst (v := (2 : Int32)) hx hb dL_law_0 (by decide) ?_
  refine lv_aload_n hx hb dL_law_1 rfl (lv_at hl 0 rfl) ?_
  refine lv_iconst (v := (0 : Int32)) hx hb dL_law_2 (by decide) ?_
  obtain ⟨r1, hg2, hf⟩ := o1_at hf
  have hpm : (([] : va_W)).Perm ((([] : va_W)) ++ (([] : va_W))) := pm_0
  refine k_G (wc := ([] : va_W)) (wr := ([] : va_W)) (w1 := fun (u : Nat → Nat) => ([] : va_W)) (rv := fun (u : Nat → Nat) => (fun _ => some (.int r1)) u) hP hD hS hA hpm (va_runS (As := [.ref (adS g 5), .int (0 : Int32)]) (rest := [.int (2 : Int32)]) ⟨hx, hb, hml, hown, htu⟩ ((c_L_cell l g (0 : Int32) r1 hg2) H.size) (va_cwS 2 htu (gU_S mw_3_143 hcL_cell) rfl rfl rfl hdL_cell ⟨Nat.le_of_ble_eq_true rfl, Nat.le_of_ble_eq_true rfl⟩) (k_preS hK hP hD hS hA hG hpm) rfl rfl hl.1 rfl (lv_room (Nat.le_of_ble_eq_true rfl)) dL_law_3 ⟨Nat.zero_le _, Nat.zero_le _⟩) hQ_G (fun u4 H locs hP hD hS => ?_)
  refine W.eq (g2 := F0 m 6 ls [.int r1, .int (2 : Int32)]) rfl ?_
  have hP : va_P g.1 vwCl ((([] : va_W)) ++ (([] : va_W))) H := hP
  have hD : va_D A ((([] : va_W)) ++ (([] : va_W))) := hD
  have hP : va_P g.1 vwCl (([] : va_W)) H := hP.perm pm_1
  have hD : va_D A (([] : va_W)) := hD.perm pm_1
  refine lv_iconst (v := (2 : Int32)) hx hb dL_law_6 (by decide) ?_
  obtain ⟨r5, hg6, hf⟩ := o1_at hf
  have hpm : (([] : va_W)).Perm ((([] : va_W)) ++ (([] : va_W))) := pm_0
  refine k_G (wc := ([] : va_W)) (wr := ([] : va_W)) (w1 := fun (u : Nat → Nat) => ([] : va_W)) (rv := fun (u : Nat → Nat) => (fun _ => some (.int r5)) u) hP hD hS hA hpm (va_runS (As := [.int r1, .int (2 : Int32)]) (rest := [.int (2 : Int32)]) ⟨hx, hb, hml, hown, htu⟩ ((c_L_bound l g r1 (2 : Int32) r5 hg6) H.size) (va_cwS 2 htu (gU_S mw_3_146 hcL_bound) rfl rfl rfl hdL_bound ⟨Nat.le_of_ble_eq_true rfl, Nat.le_of_ble_eq_true rfl⟩) (k_preS hK hP hD hS hA hG hpm) rfl rfl hl.1 rfl (lv_room (Nat.le_of_ble_eq_true rfl)) dL_law_7 ⟨Nat.zero_le _, Nat.zero_le _⟩) hQ_G (fun u8 H locs hP hD hS => ?_)
  refine W.eq (g2 := F0 m 10 ls [.int r5, .int (2 : Int32)]) rfl ?_
  have hP : va_P g.1 vwCl ((([] : va_W)) ++ (([] : va_W))) H := hP
  have hD : va_D A ((([] : va_W)) ++ (([] : va_W))) := hD
  have hP : va_P g.1 vwCl (([] : va_W)) H := hP.perm pm_1
  have hD : va_D A (([] : va_W)) := hD.perm pm_1
  refine lv_iadd hx hb dL_law_10 ?_
  refine lv_istore_n (lv' := [(1, .int ((2 : Int32) + r5)), (0, .ref (adS g 5))]) hx hb dL_law_11 rfl hl (by decide) rfl (fun ls hl => ?_)
  refine lv_iconst (v := (3 : Int32)) hx hb dL_law_12 (by decide) ?_
  refine lv_aload_n hx hb dL_law_13 rfl (lv_at hl 1 rfl) ?_
  refine lv_iconst (v := (1 : Int32)) hx hb dL_law_14 (by decide) ?_
  obtain ⟨r9, hg10, hf⟩ := o1_at hf
  have hpm : (([] : va_W)).Perm ((([] : va_W)) ++ (([] : va_W))) := pm_0
  refine k_G (wc := ([] : va_W)) (wr := ([] : va_W)) (w1 := fun (u : Nat → Nat) => ([] : va_W)) (rv := fun (u : Nat → Nat) => (fun _ => some (.int r9)) u) hP hD hS hA hpm (va_runS (As := [.ref (adS g 5), .int (1 : Int32)]) (rest := [.int (3 : Int32)]) ⟨hx, hb, hml, hown, htu⟩ ((c_L_cell l g (1 : Int32) r9 hg10) H.size) (va_cwS 2 htu (gU_S mw_3_143 hcL_cell) rfl rfl rfl hdL_cell ⟨Nat.le_of_ble_eq_true rfl, Nat.le_of_ble_eq_true rfl⟩) (k_preS hK hP hD hS hA hG hpm) rfl rfl hl.1 rfl (lv_room (Nat.le_of_ble_eq_true rfl)) dL_law_15 ⟨Nat.zero_le _, Nat.zero_le _⟩) hQ_G (fun u12 H locs hP hD hS => ?_)
  refine W.eq (g2 := F0 m 18 ls [.int r9, .int (3 : Int32)]) rfl ?_
  have hP : va_P g.1 vwCl ((([] : va_W)) ++ (([] : va_W))) H := hP
  have hD : va_D A ((([] : va_W)) ++ (([] : va_W))) := hD
  have hP : va_P g.1 vwCl (([] : va_W)) H := hP.perm pm_1
  have hD : va_D A (([] : va_W)) := hD.perm pm_1
  refine lv_iconst (v := (4 : Int32)) hx hb dL_law_18 (by decide) ?_
  obtain ⟨r13, hg14, hf⟩ := o1_at hf
  have hpm : (([] : va_W)).Perm ((([] : va_W)) ++ (([] : va_W))) := pm_0
  refine k_G (wc := ([] : va_W)) (wr := ([] : va_W)) (w1 := fun (u : Nat → Nat) => ([] : va_W)) (rv := fun (u : Nat → Nat) => (fun _ => some (.int r13)) u) hP hD hS hA hpm (va_runS (As := [.int r9, .int (4 : Int32)]) (rest := [.int (3 : Int32)]) ⟨hx, hb, hml, hown, htu⟩ ((c_L_bound l g r9 (4 : Int32) r13 hg14) H.size) (va_cwS 2 htu (gU_S mw_3_146 hcL_bound) rfl rfl rfl hdL_bound ⟨Nat.le_of_ble_eq_true rfl, Nat.le_of_ble_eq_true rfl⟩) (k_preS hK hP hD hS hA hG hpm) rfl rfl hl.1 rfl (lv_room (Nat.le_of_ble_eq_true rfl)) dL_law_19 ⟨Nat.zero_le _, Nat.zero_le _⟩) hQ_G (fun u16 H locs hP hD hS => ?_)
  refine W.eq (g2 := F0 m 22 ls [.int r13, .int (3 : Int32)]) rfl ?_
  have hP : va_P g.1 vwCl ((([] : va_W)) ++ (([] : va_W))) H := hP
  have hD : va_D A ((([] : va_W)) ++ (([] : va_W))) := hD
  have hP : va_P g.1 vwCl (([] : va_W)) H := hP.perm pm_1
  have hD : va_D A (([] : va_W)) := hD.perm pm_1
  refine lv_iadd hx hb dL_law_22 ?_
  refine lv_istore_n (lv' := [(2, .int ((3 : Int32) + r13)), (1, .int ((2 : Int32) + r5)), (0, .ref (adS g 5))]) hx hb dL_law_23 rfl hl (by decide) rfl (fun ls hl => ?_)
  obtain ⟨h17, hf⟩ := gd_at hf
  have h17 := of_decide_eq_true h17
  refine va_new (D := g.1) (ci := 8) (fs := [.int 0, .int 0, .null, .null, .null, .int 0, .int 0, .int 0]) (C := RX8) (T := TX8) (N := 8) hx hb htu hinX8 tyX8 tyX8_ok hown k_3_75 k_3_76 k_1_1 hK hP hD hS hA rfl (fun j hj => by rcases (show j = 0 ∨ j = 1 ∨ j = 2 ∨ j = 3 ∨ j = 4 ∨ j = 5 ∨ j = 6 ∨ j = 7 by omega) with rfl | rfl | rfl | rfl | rfl | rfl | rfl | rfl <;> rfl) h17.1 h17.2 dL_law_24 (fun q18 H hP hD hS => ?_)
  obtain ⟨vO24_19, evO24_19⟩ : ∃ z : Vs, z = zV := ⟨_, rfl⟩
  have hf := bn_at hf evO24_19
  have hP : va_P g.1 vwCl (([] : va_W) ++ (cM g q18 .null .null .null vO24_19)) H := by rw [evO24_19]; exact hP
  have hD : va_D A (([] : va_W) ++ (cM g q18 .null .null .null vO24_19)) := by rw [evO24_19]; exact hD
  have hP : va_P g.1 vwCl (cM g q18 .null .null .null vO24_19) H := hP.perm pm_2
  have hD : va_D A (cM g q18 .null .null .null vO24_19) := hD.perm pm_2
  refine lv_dup hx hb dL_law_27 rfl ?_
  refine lv_iload_n hx hb dL_law_28 rfl (lv_at hl 1 rfl) ?_
  refine lv_iload_n hx hb dL_law_29 rfl (lv_at hl 0 rfl) ?_
  obtain ⟨h25, hf⟩ := gd_at hf
  obtain ⟨vO24_20, vN30_21, vN30_1_22, vN30_2_23, hg24, hf⟩ := o4_at hf
  have hpm : (cM g q18 .null .null .null vO24_19).Perm ((cM g q18 .null .null .null vO24_19) ++ (([] : va_W))) := pm_3
  refine k_G (wc := cM g q18 .null .null .null vO24_19) (wr := ([] : va_W)) (w1 := fun (u : Nat → Nat) => cM g q18 (.ref (u 0)) (.ref (u 2)) (.ref (u 1)) vO24_20 ++ (cA g (u 0) vN30_21 ++ (cA g (u 1) vN30_1_22 ++ (cQ g (u 2) (fun _ => 0) vN30_2_23)))) (rv := fun (u : Nat → Nat) => (fun _ => none) u) hP hD hS hA hpm (va_runI (As := [.int ((2 : Int32) + r5), .int ((3 : Int32) + r13)]) (rest := [.ref q18]) ⟨hx, hb, hml, hown, htu⟩ ((c_X8_init l g q18 vO24_19 ((2 : Int32) + r5) ((3 : Int32) + r13) vO24_20 vN30_21 vN30_1_22 vN30_2_23 hg24) H.size) (cwI 2 htu (gU_0 mw_3_79) rfl rfl rfl (htu _ mw_1_1) (htu _ mw_3_77) (htu _ mw_3_78) rfl hdX8_init ⟨Nat.le_of_ble_eq_true rfl, Nat.le_of_ble_eq_true rfl⟩) (k_preS hK hP hD hS hA hG hpm) rfl rfl hl.1 rfl (lv_room (Nat.le_of_ble_eq_true rfl)) dL_law_30 (of_decide_eq_true h25)) hQ_G (fun u26 H locs hP hD hS => ?_)
  refine W.eq (g2 := F0 m 33 ls [.ref q18]) rfl ?_
  have hP : va_P g.1 vwCl ((cM g q18 (.ref (u26 0)) (.ref (u26 2)) (.ref (u26 1)) vO24_20 ++ (cA g (u26 0) vN30_21 ++ (cA g (u26 1) vN30_1_22 ++ (cQ g (u26 2) (fun _ => 0) vN30_2_23)))) ++ (([] : va_W))) H := hP
  have hD : va_D A ((cM g q18 (.ref (u26 0)) (.ref (u26 2)) (.ref (u26 1)) vO24_20 ++ (cA g (u26 0) vN30_21 ++ (cA g (u26 1) vN30_1_22 ++ (cQ g (u26 2) (fun _ => 0) vN30_2_23)))) ++ (([] : va_W))) := hD
  have hP : va_P g.1 vwCl (cM g q18 (.ref (u26 0)) (.ref (u26 2)) (.ref (u26 1)) vO24_20 ++ (cA g (u26 0) vN30_21 ++ (cA g (u26 1) vN30_1_22 ++ (cQ g (u26 2) (fun _ => 0) vN30_2_23)))) H := hP.perm pm_4
  have hD : va_D A (cM g q18 (.ref (u26 0)) (.ref (u26 2)) (.ref (u26 1)) vO24_20 ++ (cA g (u26 0) vN30_21 ++ (cA g (u26 1) vN30_1_22 ++ (cQ g (u26 2) (fun _ => 0) vN30_2_23)))) := hD.perm pm_4
  refine lv_astore_n (lv' := [(3, .ref q18), (2, .int ((3 : Int32) + r13)), (1, .int ((2 : Int32) + r5)), (0, .ref (adS g 5))]) hx hb dL_law_33 rfl hl (by decide) rfl (fun ls hl => ?_)
  obtain ⟨h27, hf⟩ := gd_at hf
  have h27 := of_decide_eq_true h27
  refine va_new (D := g.1) (ci := 10) (fs := [.null, .int 0, .int 0, .int 0]) (C := RJ4) (T := TJ4) (N := 4) hx hb htu hinJ4 tyJ4 tyJ4_ok hown k_4_166 k_4_167 k_1_3 hK hP hD hS hA rfl (fun j hj => by rcases (show j = 0 ∨ j = 1 ∨ j = 2 ∨ j = 3 by omega) with rfl | rfl | rfl | rfl <;> rfl) h27.1 h27.2 dL_law_34 (fun q28 H hP hD hS => ?_)
  obtain ⟨vO34_29, evO34_29⟩ : ∃ z : Vs, z = zV := ⟨_, rfl⟩
  have hf := bn_at hf evO34_29
  have hP : va_P g.1 vwCl (cM g q18 (.ref (u26 0)) (.ref (u26 2)) (.ref (u26 1)) vO24_20 ++ (cA g (u26 0) vN30_21 ++ (cA g (u26 1) vN30_1_22 ++ (cQ g (u26 2) (fun _ => 0) vN30_2_23))) ++ (cU g q28 .null vO34_29)) H := by rw [evO34_29]; exact hP
  have hD : va_D A (cM g q18 (.ref (u26 0)) (.ref (u26 2)) (.ref (u26 1)) vO24_20 ++ (cA g (u26 0) vN30_21 ++ (cA g (u26 1) vN30_1_22 ++ (cQ g (u26 2) (fun _ => 0) vN30_2_23))) ++ (cU g q28 .null vO34_29)) := by rw [evO34_29]; exact hD
  have hP : va_P g.1 vwCl (cU g q28 .null vO34_29 ++ (cM g q18 (.ref (u26 0)) (.ref (u26 2)) (.ref (u26 1)) vO24_20 ++ (cA g (u26 0) vN30_21 ++ (cA g (u26 1) vN30_1_22 ++ (cQ g (u26 2) (fun _ => 0) vN30_2_23))))) H := hP.perm pm_5
  have hD : va_D A (cU g q28 .null vO34_29 ++ (cM g q18 (.ref (u26 0)) (.ref (u26 2)) (.ref (u26 1)) vO24_20 ++ (cA g (u26 0) vN30_21 ++ (cA g (u26 1) vN30_1_22 ++ (cQ g (u26 2) (fun _ => 0) vN30_2_23))))) := hD.perm pm_5
  refine lv_dup hx hb dL_law_37 rfl ?_
  obtain ⟨h30, hf⟩ := gd_at hf
  have h30 := of_decide_eq_true h30
  refine va_new (D := g.1) (ci := 10) (fs := [.null, .int 0, .int 0, .int 0]) (C := RJ4) (T := TJ4) (N := 4) hx hb htu hinJ4 tyJ4 tyJ4_ok hown k_4_166 k_4_167 k_1_3 hK hP hD hS hA rfl (fun j hj => by rcases (show j = 0 ∨ j = 1 ∨ j = 2 ∨ j = 3 by omega) with rfl | rfl | rfl | rfl <;> rfl) h30.1 h30.2 dL_law_38 (fun q31 H hP hD hS => ?_)
  obtain ⟨vO38_32, evO38_32⟩ : ∃ z : Vs, z = zV := ⟨_, rfl⟩
  have hf := bn_at hf evO38_32
  have hP : va_P g.1 vwCl (cU g q28 .null vO34_29 ++ (cM g q18 (.ref (u26 0)) (.ref (u26 2)) (.ref (u26 1)) vO24_20 ++ (cA g (u26 0) vN30_21 ++ (cA g (u26 1) vN30_1_22 ++ (cQ g (u26 2) (fun _ => 0) vN30_2_23)))) ++ (cU g q31 .null vO38_32)) H := by rw [evO38_32]; exact hP
  have hD : va_D A (cU g q28 .null vO34_29 ++ (cM g q18 (.ref (u26 0)) (.ref (u26 2)) (.ref (u26 1)) vO24_20 ++ (cA g (u26 0) vN30_21 ++ (cA g (u26 1) vN30_1_22 ++ (cQ g (u26 2) (fun _ => 0) vN30_2_23)))) ++ (cU g q31 .null vO38_32)) := by rw [evO38_32]; exact hD
  have hP : va_P g.1 vwCl (cU g q31 .null vO38_32 ++ (cU g q28 .null vO34_29 ++ (cM g q18 (.ref (u26 0)) (.ref (u26 2)) (.ref (u26 1)) vO24_20 ++ (cA g (u26 0) vN30_21 ++ (cA g (u26 1) vN30_1_22 ++ (cQ g (u26 2) (fun _ => 0) vN30_2_23)))))) H := hP.perm pm_6
  have hD : va_D A (cU g q31 .null vO38_32 ++ (cU g q28 .null vO34_29 ++ (cM g q18 (.ref (u26 0)) (.ref (u26 2)) (.ref (u26 1)) vO24_20 ++ (cA g (u26 0) vN30_21 ++ (cA g (u26 1) vN30_1_22 ++ (cQ g (u26 2) (fun _ => 0) vN30_2_23)))))) := hD.perm pm_6
  refine lv_dup hx hb dL_law_41 rfl ?_
  obtain ⟨h36, hf⟩ := gd_at hf
  obtain ⟨vO38_33, vN42_34, hg35, hf⟩ := o2_at hf
  have hpm : (cU g q31 .null vO38_32 ++ (cU g q28 .null vO34_29 ++ (cM g q18 (.ref (u26 0)) (.ref (u26 2)) (.ref (u26 1)) vO24_20 ++ (cA g (u26 0) vN30_21 ++ (cA g (u26 1) vN30_1_22 ++ (cQ g (u26 2) (fun _ => 0) vN30_2_23)))))).Perm ((cU g q31 .null vO38_32) ++ (cU g q28 .null vO34_29 ++ (cM g q18 (.ref (u26 0)) (.ref (u26 2)) (.ref (u26 1)) vO24_20 ++ (cA g (u26 0) vN30_21 ++ (cA g (u26 1) vN30_1_22 ++ (cQ g (u26 2) (fun _ => 0) vN30_2_23)))))) := pm_7
  refine k_G (wc := cU g q31 .null vO38_32) (wr := cU g q28 .null vO34_29 ++ (cM g q18 (.ref (u26 0)) (.ref (u26 2)) (.ref (u26 1)) vO24_20 ++ (cA g (u26 0) vN30_21 ++ (cA g (u26 1) vN30_1_22 ++ (cQ g (u26 2) (fun _ => 0) vN30_2_23))))) (w1 := fun (u : Nat → Nat) => cU g q31 (.ref (u 0)) vO38_33 ++ (cB g (u 0) vN42_34)) (rv := fun (u : Nat → Nat) => (fun _ => none) u) hP hD hS hA hpm (va_runI (As := []) (rest := [.ref q31, .ref q28, .ref q28]) ⟨hx, hb, hml, hown, htu⟩ ((c_J4_init_da8c8 l g q31 vO38_32 vO38_33 vN42_34 hg35) H.size) (cwI 0 htu (gU_0 mw_4_170) rfl rfl rfl (htu _ mw_1_3) (htu _ mw_4_168) (htu _ mw_4_169) rfl hdJ4_init_da8c8 ⟨Nat.le_of_ble_eq_true rfl, Nat.le_of_ble_eq_true rfl⟩) (k_preS hK hP hD hS hA hG hpm) rfl rfl hl.1 rfl (lv_room (Nat.le_of_ble_eq_true rfl)) dL_law_42 (of_decide_eq_true h36)) hQ_G (fun u37 H locs hP hD hS => ?_)
  refine W.eq (g2 := F0 m 45 ls [.ref q31, .ref q28, .ref q28]) rfl ?_
  have hP : va_P g.1 vwCl ((cU g q31 (.ref (u37 0)) vO38_33 ++ (cB g (u37 0) vN42_34)) ++ (cU g q28 .null vO34_29 ++ (cM g q18 (.ref (u26 0)) (.ref (u26 2)) (.ref (u26 1)) vO24_20 ++ (cA g (u26 0) vN30_21 ++ (cA g (u26 1) vN30_1_22 ++ (cQ g (u26 2) (fun _ => 0) vN30_2_23)))))) H := hP
  have hD : va_D A ((cU g q31 (.ref (u37 0)) vO38_33 ++ (cB g (u37 0) vN42_34)) ++ (cU g q28 .null vO34_29 ++ (cM g q18 (.ref (u26 0)) (.ref (u26 2)) (.ref (u26 1)) vO24_20 ++ (cA g (u26 0) vN30_21 ++ (cA g (u26 1) vN30_1_22 ++ (cQ g (u26 2) (fun _ => 0) vN30_2_23)))))) := hD
  have hP : va_P g.1 vwCl (cU g q31 (.ref (u37 0)) vO38_33 ++ (cB g (u37 0) vN42_34 ++ (cU g q28 .null vO34_29 ++ (cM g q18 (.ref (u26 0)) (.ref (u26 2)) (.ref (u26 1)) vO24_20 ++ (cA g (u26 0) vN30_21 ++ (cA g (u26 1) vN30_1_22 ++ (cQ g (u26 2) (fun _ => 0) vN30_2_23))))))) H := hP.perm pm_8
  have hD : va_D A (cU g q31 (.ref (u37 0)) vO38_33 ++ (cB g (u37 0) vN42_34 ++ (cU g q28 .null vO34_29 ++ (cM g q18 (.ref (u26 0)) (.ref (u26 2)) (.ref (u26 1)) vO24_20 ++ (cA g (u26 0) vN30_21 ++ (cA g (u26 1) vN30_1_22 ++ (cQ g (u26 2) (fun _ => 0) vN30_2_23))))))) := hD.perm pm_8
  refine va_ldcS hx hb hown (tx := "circuit ") (q := adK g 8) (hG.1.1 ("FaultTestsLaw", 78, "circuit ", 8) (List.mem_of_getElem? (i := 22) rfl)) dL_law_45 ?_
  obtain ⟨h41, hf⟩ := gd_at hf
  obtain ⟨vO38_38, vN42_39, hg40, hf⟩ := o2_at hf
  have hpm : (cU g q31 (.ref (u37 0)) vO38_33 ++ (cB g (u37 0) vN42_34 ++ (cU g q28 .null vO34_29 ++ (cM g q18 (.ref (u26 0)) (.ref (u26 2)) (.ref (u26 1)) vO24_20 ++ (cA g (u26 0) vN30_21 ++ (cA g (u26 1) vN30_1_22 ++ (cQ g (u26 2) (fun _ => 0) vN30_2_23))))))).Perm ((cU g q31 (.ref (u37 0)) vO38_33 ++ (cB g (u37 0) vN42_34)) ++ (cU g q28 .null vO34_29 ++ (cM g q18 (.ref (u26 0)) (.ref (u26 2)) (.ref (u26 1)) vO24_20 ++ (cA g (u26 0) vN30_21 ++ (cA g (u26 1) vN30_1_22 ++ (cQ g (u26 2) (fun _ => 0) vN30_2_23)))))) := pm_9
  refine k_G (wc := cU g q31 (.ref (u37 0)) vO38_33 ++ (cB g (u37 0) vN42_34)) (wr := cU g q28 .null vO34_29 ++ (cM g q18 (.ref (u26 0)) (.ref (u26 2)) (.ref (u26 1)) vO24_20 ++ (cA g (u26 0) vN30_21 ++ (cA g (u26 1) vN30_1_22 ++ (cQ g (u26 2) (fun _ => 0) vN30_2_23))))) (w1 := fun (u : Nat → Nat) => cU g q31 (.ref (u 0)) vO38_38 ++ (cB g (u 0) vN42_39)) (rv := fun (u : Nat → Nat) => (fun u => some (.ref q31)) u) hP hD hS hA hpm (va_runV (As := [.ref (adK g 8)]) (rest := [.ref q28, .ref q28]) ⟨hx, hb, hml, hown, htu⟩ ((c_J4_append_15ec4_k l g q31 vO38_33 (u37 0) vN42_34 8 (by decide) vO38_38 vN42_39 hg40) H.size) (cwV 1 htu (gU_V mw_5_63 hcJ4_append_15ec4) rfl rfl rfl hdJ4_append_15ec4 ⟨Nat.le_of_ble_eq_true rfl, Nat.le_of_ble_eq_true rfl⟩) (k_preV (C := RJ4) hK hP hD hS hA hG hpm (va_recv (ci := 10) (q0 := 0) (fs := fcU (.ref (u37 0)) vO38_33) (q := (RJ4, TJ4, 4)) hK hP rfl rfl)) rfl rfl hl.1 rfl (lv_room (Nat.le_of_ble_eq_true rfl)) dL_law_47 (of_decide_eq_true h41)) hQ_G (fun u42 H locs hP hD hS => ?_)
  refine W.eq (g2 := F0 m 50 ls [.ref q31, .ref q28, .ref q28]) rfl ?_
  have hP : va_P g.1 vwCl ((cU g q31 (.ref (u42 0)) vO38_38 ++ (cB g (u42 0) vN42_39)) ++ (cU g q28 .null vO34_29 ++ (cM g q18 (.ref (u26 0)) (.ref (u26 2)) (.ref (u26 1)) vO24_20 ++ (cA g (u26 0) vN30_21 ++ (cA g (u26 1) vN30_1_22 ++ (cQ g (u26 2) (fun _ => 0) vN30_2_23)))))) H := hP
  have hD : va_D A ((cU g q31 (.ref (u42 0)) vO38_38 ++ (cB g (u42 0) vN42_39)) ++ (cU g q28 .null vO34_29 ++ (cM g q18 (.ref (u26 0)) (.ref (u26 2)) (.ref (u26 1)) vO24_20 ++ (cA g (u26 0) vN30_21 ++ (cA g (u26 1) vN30_1_22 ++ (cQ g (u26 2) (fun _ => 0) vN30_2_23)))))) := hD
  have hP : va_P g.1 vwCl (cU g q31 (.ref (u42 0)) vO38_38 ++ (cB g (u42 0) vN42_39 ++ (cU g q28 .null vO34_29 ++ (cM g q18 (.ref (u26 0)) (.ref (u26 2)) (.ref (u26 1)) vO24_20 ++ (cA g (u26 0) vN30_21 ++ (cA g (u26 1) vN30_1_22 ++ (cQ g (u26 2) (fun _ => 0) vN30_2_23))))))) H := hP.perm pm_8
  have hD : va_D A (cU g q31 (.ref (u42 0)) vO38_38 ++ (cB g (u42 0) vN42_39 ++ (cU g q28 .null vO34_29 ++ (cM g q18 (.ref (u26 0)) (.ref (u26 2)) (.ref (u26 1)) vO24_20 ++ (cA g (u26 0) vN30_21 ++ (cA g (u26 1) vN30_1_22 ++ (cQ g (u26 2) (fun _ => 0) vN30_2_23))))))) := hD.perm pm_8
  refine lv_iload_n hx hb dL_law_50 rfl (lv_at hl 2 rfl) ?_
  obtain ⟨h46, hf⟩ := gd_at hf
  obtain ⟨vO38_43, vN42_44, hg45, hf⟩ := o2_at hf
  have hpm : (cU g q31 (.ref (u42 0)) vO38_38 ++ (cB g (u42 0) vN42_39 ++ (cU g q28 .null vO34_29 ++ (cM g q18 (.ref (u26 0)) (.ref (u26 2)) (.ref (u26 1)) vO24_20 ++ (cA g (u26 0) vN30_21 ++ (cA g (u26 1) vN30_1_22 ++ (cQ g (u26 2) (fun _ => 0) vN30_2_23))))))).Perm ((cU g q31 (.ref (u42 0)) vO38_38 ++ (cB g (u42 0) vN42_39)) ++ (cU g q28 .null vO34_29 ++ (cM g q18 (.ref (u26 0)) (.ref (u26 2)) (.ref (u26 1)) vO24_20 ++ (cA g (u26 0) vN30_21 ++ (cA g (u26 1) vN30_1_22 ++ (cQ g (u26 2) (fun _ => 0) vN30_2_23)))))) := pm_9
  refine k_G (wc := cU g q31 (.ref (u42 0)) vO38_38 ++ (cB g (u42 0) vN42_39)) (wr := cU g q28 .null vO34_29 ++ (cM g q18 (.ref (u26 0)) (.ref (u26 2)) (.ref (u26 1)) vO24_20 ++ (cA g (u26 0) vN30_21 ++ (cA g (u26 1) vN30_1_22 ++ (cQ g (u26 2) (fun _ => 0) vN30_2_23))))) (w1 := fun (u : Nat → Nat) => cU g q31 (.ref (u 0)) vO38_43 ++ (cB g (u 0) vN42_44)) (rv := fun (u : Nat → Nat) => (fun u => some (.ref q31)) u) hP hD hS hA hpm (va_runV (As := [.int ((2 : Int32) + r5)]) (rest := [.ref q28, .ref q28]) ⟨hx, hb, hml, hown, htu⟩ ((c_J4_append_bf812 l g q31 vO38_38 (u42 0) vN42_39 ((2 : Int32) + r5) vO38_43 vN42_44 hg45) H.size) (cwV 1 htu (gU_V mw_5_77 hcJ4_append_bf812) rfl rfl rfl hdJ4_append_bf812 ⟨Nat.le_of_ble_eq_true rfl, Nat.le_of_ble_eq_true rfl⟩) (k_preV (C := RJ4) hK hP hD hS hA hG hpm (va_recv (ci := 10) (q0 := 0) (fs := fcU (.ref (u42 0)) vO38_38) (q := (RJ4, TJ4, 4)) hK hP rfl rfl)) rfl rfl hl.1 rfl (lv_room (Nat.le_of_ble_eq_true rfl)) dL_law_51 (of_decide_eq_true h46)) hQ_G (fun u47 H locs hP hD hS => ?_)
  refine W.eq (g2 := F0 m 54 ls [.ref q31, .ref q28, .ref q28]) rfl ?_
  have hP : va_P g.1 vwCl ((cU g q31 (.ref (u47 0)) vO38_43 ++ (cB g (u47 0) vN42_44)) ++ (cU g q28 .null vO34_29 ++ (cM g q18 (.ref (u26 0)) (.ref (u26 2)) (.ref (u26 1)) vO24_20 ++ (cA g (u26 0) vN30_21 ++ (cA g (u26 1) vN30_1_22 ++ (cQ g (u26 2) (fun _ => 0) vN30_2_23)))))) H := hP
  have hD : va_D A ((cU g q31 (.ref (u47 0)) vO38_43 ++ (cB g (u47 0) vN42_44)) ++ (cU g q28 .null vO34_29 ++ (cM g q18 (.ref (u26 0)) (.ref (u26 2)) (.ref (u26 1)) vO24_20 ++ (cA g (u26 0) vN30_21 ++ (cA g (u26 1) vN30_1_22 ++ (cQ g (u26 2) (fun _ => 0) vN30_2_23)))))) := hD
  have hP : va_P g.1 vwCl (cU g q31 (.ref (u47 0)) vO38_43 ++ (cB g (u47 0) vN42_44 ++ (cU g q28 .null vO34_29 ++ (cM g q18 (.ref (u26 0)) (.ref (u26 2)) (.ref (u26 1)) vO24_20 ++ (cA g (u26 0) vN30_21 ++ (cA g (u26 1) vN30_1_22 ++ (cQ g (u26 2) (fun _ => 0) vN30_2_23))))))) H := hP.perm pm_8
  have hD : va_D A (cU g q31 (.ref (u47 0)) vO38_43 ++ (cB g (u47 0) vN42_44 ++ (cU g q28 .null vO34_29 ++ (cM g q18 (.ref (u26 0)) (.ref (u26 2)) (.ref (u26 1)) vO24_20 ++ (cA g (u26 0) vN30_21 ++ (cA g (u26 1) vN30_1_22 ++ (cQ g (u26 2) (fun _ => 0) vN30_2_23))))))) := hD.perm pm_8
  refine va_ldcS hx hb hown (tx := ";") (q := adK g 2) (hG.1.1 ("FaultTestsLaw", 86, ";", 2) (List.mem_of_getElem? (i := 23) rfl)) dL_law_54 ?_
  obtain ⟨h51, hf⟩ := gd_at hf
  obtain ⟨vO38_48, vN42_49, hg50, hf⟩ := o2_at hf
  have hpm : (cU g q31 (.ref (u47 0)) vO38_43 ++ (cB g (u47 0) vN42_44 ++ (cU g q28 .null vO34_29 ++ (cM g q18 (.ref (u26 0)) (.ref (u26 2)) (.ref (u26 1)) vO24_20 ++ (cA g (u26 0) vN30_21 ++ (cA g (u26 1) vN30_1_22 ++ (cQ g (u26 2) (fun _ => 0) vN30_2_23))))))).Perm ((cU g q31 (.ref (u47 0)) vO38_43 ++ (cB g (u47 0) vN42_44)) ++ (cU g q28 .null vO34_29 ++ (cM g q18 (.ref (u26 0)) (.ref (u26 2)) (.ref (u26 1)) vO24_20 ++ (cA g (u26 0) vN30_21 ++ (cA g (u26 1) vN30_1_22 ++ (cQ g (u26 2) (fun _ => 0) vN30_2_23)))))) := pm_9
  refine k_G (wc := cU g q31 (.ref (u47 0)) vO38_43 ++ (cB g (u47 0) vN42_44)) (wr := cU g q28 .null vO34_29 ++ (cM g q18 (.ref (u26 0)) (.ref (u26 2)) (.ref (u26 1)) vO24_20 ++ (cA g (u26 0) vN30_21 ++ (cA g (u26 1) vN30_1_22 ++ (cQ g (u26 2) (fun _ => 0) vN30_2_23))))) (w1 := fun (u : Nat → Nat) => cU g q31 (.ref (u 0)) vO38_48 ++ (cB g (u 0) vN42_49)) (rv := fun (u : Nat → Nat) => (fun u => some (.ref q31)) u) hP hD hS hA hpm (va_runV (As := [.ref (adK g 2)]) (rest := [.ref q28, .ref q28]) ⟨hx, hb, hml, hown, htu⟩ ((c_J4_append_15ec4_k l g q31 vO38_43 (u47 0) vN42_44 2 (by decide) vO38_48 vN42_49 hg50) H.size) (cwV 1 htu (gU_V mw_5_63 hcJ4_append_15ec4) rfl rfl rfl hdJ4_append_15ec4 ⟨Nat.le_of_ble_eq_true rfl, Nat.le_of_ble_eq_true rfl⟩) (k_preV (C := RJ4) hK hP hD hS hA hG hpm (va_recv (ci := 10) (q0 := 0) (fs := fcU (.ref (u47 0)) vO38_43) (q := (RJ4, TJ4, 4)) hK hP rfl rfl)) rfl rfl hl.1 rfl (lv_room (Nat.le_of_ble_eq_true rfl)) dL_law_56 (of_decide_eq_true h51)) hQ_G (fun u52 H locs hP hD hS => ?_)
  refine W.eq (g2 := F0 m 59 ls [.ref q31, .ref q28, .ref q28]) rfl ?_
  have hP : va_P g.1 vwCl ((cU g q31 (.ref (u52 0)) vO38_48 ++ (cB g (u52 0) vN42_49)) ++ (cU g q28 .null vO34_29 ++ (cM g q18 (.ref (u26 0)) (.ref (u26 2)) (.ref (u26 1)) vO24_20 ++ (cA g (u26 0) vN30_21 ++ (cA g (u26 1) vN30_1_22 ++ (cQ g (u26 2) (fun _ => 0) vN30_2_23)))))) H := hP
  have hD : va_D A ((cU g q31 (.ref (u52 0)) vO38_48 ++ (cB g (u52 0) vN42_49)) ++ (cU g q28 .null vO34_29 ++ (cM g q18 (.ref (u26 0)) (.ref (u26 2)) (.ref (u26 1)) vO24_20 ++ (cA g (u26 0) vN30_21 ++ (cA g (u26 1) vN30_1_22 ++ (cQ g (u26 2) (fun _ => 0) vN30_2_23)))))) := hD
  have hP : va_P g.1 vwCl (cU g q31 (.ref (u52 0)) vO38_48 ++ (cB g (u52 0) vN42_49 ++ (cU g q28 .null vO34_29 ++ (cM g q18 (.ref (u26 0)) (.ref (u26 2)) (.ref (u26 1)) vO24_20 ++ (cA g (u26 0) vN30_21 ++ (cA g (u26 1) vN30_1_22 ++ (cQ g (u26 2) (fun _ => 0) vN30_2_23))))))) H := hP.perm pm_8
  have hD : va_D A (cU g q31 (.ref (u52 0)) vO38_48 ++ (cB g (u52 0) vN42_49 ++ (cU g q28 .null vO34_29 ++ (cM g q18 (.ref (u26 0)) (.ref (u26 2)) (.ref (u26 1)) vO24_20 ++ (cA g (u26 0) vN30_21 ++ (cA g (u26 1) vN30_1_22 ++ (cQ g (u26 2) (fun _ => 0) vN30_2_23))))))) := hD.perm pm_8
  obtain ⟨h56, hf⟩ := gd_at hf
  obtain ⟨vN59_53, vN59_1_54, hg55, hf⟩ := o2_at hf
  have hpm : (cU g q31 (.ref (u52 0)) vO38_48 ++ (cB g (u52 0) vN42_49 ++ (cU g q28 .null vO34_29 ++ (cM g q18 (.ref (u26 0)) (.ref (u26 2)) (.ref (u26 1)) vO24_20 ++ (cA g (u26 0) vN30_21 ++ (cA g (u26 1) vN30_1_22 ++ (cQ g (u26 2) (fun _ => 0) vN30_2_23))))))).Perm ((cU g q31 (.ref (u52 0)) vO38_48 ++ (cB g (u52 0) vN42_49)) ++ (cU g q28 .null vO34_29 ++ (cM g q18 (.ref (u26 0)) (.ref (u26 2)) (.ref (u26 1)) vO24_20 ++ (cA g (u26 0) vN30_21 ++ (cA g (u26 1) vN30_1_22 ++ (cQ g (u26 2) (fun _ => 0) vN30_2_23)))))) := pm_9
  refine k_G (wc := cU g q31 (.ref (u52 0)) vO38_48 ++ (cB g (u52 0) vN42_49)) (wr := cU g q28 .null vO34_29 ++ (cM g q18 (.ref (u26 0)) (.ref (u26 2)) (.ref (u26 1)) vO24_20 ++ (cA g (u26 0) vN30_21 ++ (cA g (u26 1) vN30_1_22 ++ (cQ g (u26 2) (fun _ => 0) vN30_2_23))))) (w1 := fun (u : Nat → Nat) => cU g q31 (.ref (u52 0)) vO38_48 ++ (cB g (u52 0) vN42_49 ++ (cZ g (u 0) (.ref (u 1)) vN59_53 ++ (cB g (u 1) vN59_1_54)))) (rv := fun (u : Nat → Nat) => (fun u => some (.ref (u 0))) u) hP hD hS hA hpm (va_runV (As := []) (rest := [.ref q28, .ref q28]) ⟨hx, hb, hml, hown, htu⟩ ((c_J4_toString_0e30d l g q31 vO38_48 (u52 0) vN42_49 vN59_53 vN59_1_54 hg55) H.size) (cwV 0 htu (gU_V mw_5_102 hcJ4_toString_0e30d) rfl rfl rfl hdJ4_toString_0e30d ⟨Nat.le_of_ble_eq_true rfl, Nat.le_of_ble_eq_true rfl⟩) (k_preV (C := RJ4) hK hP hD hS hA hG hpm (va_recv (ci := 10) (q0 := 0) (fs := fcU (.ref (u52 0)) vO38_48) (q := (RJ4, TJ4, 4)) hK hP rfl rfl)) rfl rfl hl.1 rfl (lv_room (Nat.le_of_ble_eq_true rfl)) dL_law_59 (of_decide_eq_true h56)) hQ_G (fun u57 H locs hP hD hS => ?_)
  refine W.eq (g2 := F0 m 62 ls [.ref (u57 0), .ref q28, .ref q28]) rfl ?_
  have hP : va_P g.1 vwCl ((cU g q31 (.ref (u52 0)) vO38_48 ++ (cB g (u52 0) vN42_49 ++ (cZ g (u57 0) (.ref (u57 1)) vN59_53 ++ (cB g (u57 1) vN59_1_54)))) ++ (cU g q28 .null vO34_29 ++ (cM g q18 (.ref (u26 0)) (.ref (u26 2)) (.ref (u26 1)) vO24_20 ++ (cA g (u26 0) vN30_21 ++ (cA g (u26 1) vN30_1_22 ++ (cQ g (u26 2) (fun _ => 0) vN30_2_23)))))) H := hP
  have hD : va_D A ((cU g q31 (.ref (u52 0)) vO38_48 ++ (cB g (u52 0) vN42_49 ++ (cZ g (u57 0) (.ref (u57 1)) vN59_53 ++ (cB g (u57 1) vN59_1_54)))) ++ (cU g q28 .null vO34_29 ++ (cM g q18 (.ref (u26 0)) (.ref (u26 2)) (.ref (u26 1)) vO24_20 ++ (cA g (u26 0) vN30_21 ++ (cA g (u26 1) vN30_1_22 ++ (cQ g (u26 2) (fun _ => 0) vN30_2_23)))))) := hD
  have hP : va_P g.1 vwCl (cU g q31 (.ref (u52 0)) vO38_48 ++ (cB g (u52 0) vN42_49 ++ (cZ g (u57 0) (.ref (u57 1)) vN59_53 ++ (cB g (u57 1) vN59_1_54 ++ (cU g q28 .null vO34_29 ++ (cM g q18 (.ref (u26 0)) (.ref (u26 2)) (.ref (u26 1)) vO24_20 ++ (cA g (u26 0) vN30_21 ++ (cA g (u26 1) vN30_1_22 ++ (cQ g (u26 2) (fun _ => 0) vN30_2_23))))))))) H := hP.perm pm_10
  have hD : va_D A (cU g q31 (.ref (u52 0)) vO38_48 ++ (cB g (u52 0) vN42_49 ++ (cZ g (u57 0) (.ref (u57 1)) vN59_53 ++ (cB g (u57 1) vN59_1_54 ++ (cU g q28 .null vO34_29 ++ (cM g q18 (.ref (u26 0)) (.ref (u26 2)) (.ref (u26 1)) vO24_20 ++ (cA g (u26 0) vN30_21 ++ (cA g (u26 1) vN30_1_22 ++ (cQ g (u26 2) (fun _ => 0) vN30_2_23))))))))) := hD.perm pm_10
  obtain ⟨h61, hf⟩ := gd_at hf
  obtain ⟨vO34_58, vN62_59, hg60, hf⟩ := o2_at hf
  have hpm : (cU g q31 (.ref (u52 0)) vO38_48 ++ (cB g (u52 0) vN42_49 ++ (cZ g (u57 0) (.ref (u57 1)) vN59_53 ++ (cB g (u57 1) vN59_1_54 ++ (cU g q28 .null vO34_29 ++ (cM g q18 (.ref (u26 0)) (.ref (u26 2)) (.ref (u26 1)) vO24_20 ++ (cA g (u26 0) vN30_21 ++ (cA g (u26 1) vN30_1_22 ++ (cQ g (u26 2) (fun _ => 0) vN30_2_23))))))))).Perm ((cU g q28 .null vO34_29 ++ (cZ g (u57 0) (.ref (u57 1)) vN59_53 ++ (cB g (u57 1) vN59_1_54))) ++ (cU g q31 (.ref (u52 0)) vO38_48 ++ (cB g (u52 0) vN42_49 ++ (cM g q18 (.ref (u26 0)) (.ref (u26 2)) (.ref (u26 1)) vO24_20 ++ (cA g (u26 0) vN30_21 ++ (cA g (u26 1) vN30_1_22 ++ (cQ g (u26 2) (fun _ => 0) vN30_2_23))))))) := pm_11
  refine k_G (wc := cU g q28 .null vO34_29 ++ (cZ g (u57 0) (.ref (u57 1)) vN59_53 ++ (cB g (u57 1) vN59_1_54))) (wr := cU g q31 (.ref (u52 0)) vO38_48 ++ (cB g (u52 0) vN42_49 ++ (cM g q18 (.ref (u26 0)) (.ref (u26 2)) (.ref (u26 1)) vO24_20 ++ (cA g (u26 0) vN30_21 ++ (cA g (u26 1) vN30_1_22 ++ (cQ g (u26 2) (fun _ => 0) vN30_2_23)))))) (w1 := fun (u : Nat → Nat) => cU g q28 (.ref (u 0)) vO34_58 ++ (cZ g (u57 0) (.ref (u57 1)) vN59_53 ++ (cB g (u57 1) vN59_1_54 ++ (cB g (u 0) vN62_59)))) (rv := fun (u : Nat → Nat) => (fun _ => none) u) hP hD hS hA hpm (va_runI (As := [.ref (u57 0)]) (rest := [.ref q28]) ⟨hx, hb, hml, hown, htu⟩ ((c_J4_init_a7421 l g q28 vO34_29 (u57 0) vN59_53 (u57 1) vN59_1_54 vO34_58 vN62_59 hg60) H.size) (cwI 1 htu (gU_0 mw_4_198) rfl rfl rfl (htu _ mw_1_3) (htu _ mw_4_196) (htu _ mw_4_197) rfl hdJ4_init_a7421 ⟨Nat.le_of_ble_eq_true rfl, Nat.le_of_ble_eq_true rfl⟩) (k_preS hK hP hD hS hA hG hpm) rfl rfl hl.1 rfl (lv_room (Nat.le_of_ble_eq_true rfl)) dL_law_62 (of_decide_eq_true h61)) hQ_G (fun u62 H locs hP hD hS => ?_)
  refine W.eq (g2 := F0 m 65 ls [.ref q28]) rfl ?_
  have hP : va_P g.1 vwCl ((cU g q28 (.ref (u62 0)) vO34_58 ++ (cZ g (u57 0) (.ref (u57 1)) vN59_53 ++ (cB g (u57 1) vN59_1_54 ++ (cB g (u62 0) vN62_59)))) ++ (cU g q31 (.ref (u52 0)) vO38_48 ++ (cB g (u52 0) vN42_49 ++ (cM g q18 (.ref (u26 0)) (.ref (u26 2)) (.ref (u26 1)) vO24_20 ++ (cA g (u26 0) vN30_21 ++ (cA g (u26 1) vN30_1_22 ++ (cQ g (u26 2) (fun _ => 0) vN30_2_23))))))) H := hP
  have hD : va_D A ((cU g q28 (.ref (u62 0)) vO34_58 ++ (cZ g (u57 0) (.ref (u57 1)) vN59_53 ++ (cB g (u57 1) vN59_1_54 ++ (cB g (u62 0) vN62_59)))) ++ (cU g q31 (.ref (u52 0)) vO38_48 ++ (cB g (u52 0) vN42_49 ++ (cM g q18 (.ref (u26 0)) (.ref (u26 2)) (.ref (u26 1)) vO24_20 ++ (cA g (u26 0) vN30_21 ++ (cA g (u26 1) vN30_1_22 ++ (cQ g (u26 2) (fun _ => 0) vN30_2_23))))))) := hD
  have hP : va_P g.1 vwCl (cU g q28 (.ref (u62 0)) vO34_58 ++ (cZ g (u57 0) (.ref (u57 1)) vN59_53 ++ (cB g (u57 1) vN59_1_54 ++ (cB g (u62 0) vN62_59 ++ (cU g q31 (.ref (u52 0)) vO38_48 ++ (cB g (u52 0) vN42_49 ++ (cM g q18 (.ref (u26 0)) (.ref (u26 2)) (.ref (u26 1)) vO24_20 ++ (cA g (u26 0) vN30_21 ++ (cA g (u26 1) vN30_1_22 ++ (cQ g (u26 2) (fun _ => 0) vN30_2_23)))))))))) H := hP.perm pm_12
  have hD : va_D A (cU g q28 (.ref (u62 0)) vO34_58 ++ (cZ g (u57 0) (.ref (u57 1)) vN59_53 ++ (cB g (u57 1) vN59_1_54 ++ (cB g (u62 0) vN62_59 ++ (cU g q31 (.ref (u52 0)) vO38_48 ++ (cB g (u52 0) vN42_49 ++ (cM g q18 (.ref (u26 0)) (.ref (u26 2)) (.ref (u26 1)) vO24_20 ++ (cA g (u26 0) vN30_21 ++ (cA g (u26 1) vN30_1_22 ++ (cQ g (u26 2) (fun _ => 0) vN30_2_23)))))))))) := hD.perm pm_12
  refine lv_astore (lv' := [(4, .ref q28), (3, .ref q18), (2, .int ((3 : Int32) + r13)), (1, .int ((2 : Int32) + r5)), (0, .ref (adS g 5))]) hx hb dL_law_65 hl (by decide) rfl (fun ls hl => ?_)
  refine lv_iconst (v := (0 : Int32)) hx hb dL_law_67 (by decide) ?_
  refine lv_istore (lv' := [(5, .int (0 : Int32)), (4, .ref q28), (3, .ref q18), (2, .int ((3 : Int32) + r13)), (1, .int ((2 : Int32) + r5)), (0, .ref (adS g 5))]) hx hb dL_law_68 hl (by decide) rfl (fun ls hl => ?_)
  have hP : va_P g.1 vwCl (cU g q28 (.ref (u62 0)) vO34_58 ++ (cB g (u62 0) vN62_59 ++ (cM g q18 (.ref (u26 0)) (.ref (u26 2)) (.ref (u26 1)) vO24_20 ++ (cA g (u26 0) vN30_21 ++ (cA g (u26 1) vN30_1_22 ++ (cQ g (u26 2) (fun _ => 0) vN30_2_23)))))) H := k_dropP hP (w3 := cZ g (u57 0) (.ref (u57 1)) vN59_53 ++ (cB g (u57 1) vN59_1_54 ++ (cU g q31 (.ref (u52 0)) vO38_48 ++ (cB g (u52 0) vN42_49)))) pm_13
  have hD : va_D A (cU g q28 (.ref (u62 0)) vO34_58 ++ (cB g (u62 0) vN62_59 ++ (cM g q18 (.ref (u26 0)) (.ref (u26 2)) (.ref (u26 1)) vO24_20 ++ (cA g (u26 0) vN30_21 ++ (cA g (u26 1) vN30_1_22 ++ (cQ g (u26 2) (fun _ => 0) vN30_2_23)))))) := k_dropD hD (w3 := cZ g (u57 0) (.ref (u57 1)) vN59_53 ++ (cB g (u57 1) vN59_1_54 ++ (cU g q31 (.ref (u52 0)) vO38_48 ++ (cB g (u52 0) vN42_49)))) pm_13
  have hL73 := law_L70 (e := e) (below := below) l g hx hb hml hr hlocks hown htu hK hG hA hAs r5 r13 q18 vO24_20 vN30_1_22 u26 q28
  exact hL73 (0 : Int32) vO34_58 vN62_59 vN30_21 vN30_2_23 ((((((((((0 + 1) + 3) + 1) + 1) + 1) + 1) + 1) + 1) + 2) + 2) ((((((((((0 + 8) + 40) + 4) + 4) + 400) + 400) + 400) + 400) + 404) + 800) hf (u62 0) (fun _ => 0) H locs hP hD hS _ (lv_sub hl [5, 4, 3, 2, 1, 0] rfl)
