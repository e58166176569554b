def f_L_cell (x1 : Int32) (sL : Nat) (sX : Nat → Int32) : Option (Int32) :=
  jn (fun (t1 : Int32) => some (t1)) (fun k2 => if (nI sL) ≤ x1 then k2 (0 : Int32) else gd (inb x1 sL) (k2 (sX (x1).toNatClampNeg)))
abbrev wsL_cell : List Cond := .code yL_cell cL_cell 2 (some .int) :: UW
abbrev rmL_cell : Room := { frames := 1, cells := 0, slots := 0, locals := 24 }
set_option maxHeartbeats 4000000 in
set_option maxRecDepth 100000 in
theorem c_L_cell (l : Launch) (g : Gx) (x1 : Int32) (r : Int32) (hf : f_L_cell x1 (scL g) (scX g) = some r) : CtG l yL_cell wsL_cell rmL_cell g [.ref (adS g 5), .int x1] (([] : va_W)) (fun (u : Nat → Nat) => ([] : va_W)) (fun (u : Nat → Nat) => (fun _ => some (.int r)) u) 0 0 := by
  unfold CtG
  intro sz
  refine Met.ofW (cc := cL_cell) (maxL := 2) (ret := (some .int)) (by decide) rfl ?_
  intro p e s m args below meth c s₁ B hml hv
  obtain ⟨rfl, hsz, hP, hK, hD0, hG⟩ := hv
  have hx := B.exec
  have hb := B.bytes
  have hr := B.returns
  have hts := atoms_spec (ws := wsL_cell) B.pre
  have hown : s.vm.findClass RL = some m.cls := findClass_of_methodNamed B.named
  have hlocks := B.notSynchronized
  subst hsz
  have hD := hD0.self (sz := s.heap.size)
  generalize hAe : va_A (([] : va_W)) s.heap.size = A at hD hG ⊢
  have hA : ∀ q : Nat, s.heap.size ≤ q → A q := fun q h => by rw [← hAe]; exact Or.inr h
  clear hAe hD0
  have hS : va_S A s.heap s.heap [] := va_S.rf
  have hl := lv_entry ([.ref (adS g 5), .int x1]) (n := 2) (Nat.le_of_ble_eq_true rfl)
  rw [lg_entry_eq]
  generalize (lg_sl ([.ref (adS g 5), .int x1]) ++ List.replicate (2 - (lg_sl ([.ref (adS g 5), .int x1])).length) Slot.unset).toArray = ls at hl ⊢
  have hl : lv_has ls 2 [(0, .ref (adS g 5)), (1, .int x1)] := hl
  have htu : ∀ w ∈ UW, w.before _ s = true := fun w h => hts w (List.mem_cons_of_mem _ h)
  unfold f_L_cell at hf
  obtain ⟨H, hH⟩ : ∃ z, z = s.heap := ⟨_, rfl⟩
  obtain ⟨locs, hlo⟩ : ∃ z : List Loc, z = [] := ⟨_, rfl⟩
  have hS : va_S A s.heap H locs := by rw [hH, hlo]; exact hS
  rw [← hH] at hP
  have hW : W p l e (headSpec wsL_cell rmL_cell).room s m ([.ref (adS g 5), .int x1] : List Value).toArray below meth c H locs 0 0 (MQ below (qG g A (fun (u : Nat → Nat) => ([] : va_W)) (fun (u : Nat → Nat) => (fun _ => some (.int r)) u)) ([.ref (adS g 5), .int x1] : List Value).toArray s 0 0 A) (F0 m 0 ls []) := by
    refine lv_iload_n hx hb dL_cell_0 rfl (lv_at hl 1 rfl) ?_
    refine lv_aload_n hx hb dL_cell_1 rfl (lv_at hl 0 rfl) ?_
    refine va_tlen (v := Int32.ofNat (scL g)) hx hb hG.2.1.2.2 hS rfl dL_cell_2 ?_
    obtain ⟨k2, hk5, hf⟩ := jn_at hf
    have hJ3 : ∀ (t1 : Int32), k2 t1 = some r → ∀ (H : Heap) (locs : List Loc), va_P g.1 vwCl (([] : va_W)) H → va_D A (([] : va_W)) → va_S A s.heap H locs → ∀ ls : Array Slot, lv_has ls 2 [] → W p l e (headSpec wsL_cell rmL_cell).room s m ([.ref (adS g 5), .int x1] : List Value).toArray below meth c H locs 0 0 (MQ below (qG g A (fun (u : Nat → Nat) => ([] : va_W)) (fun (u : Nat → Nat) => (fun _ => some (.int r)) u)) ([.ref (adS g 5), .int x1] : List Value).toArray s 0 0 A) (F0 m 13 ls [.int t1]) := by
      intro t1 hf H locs hP hD hS ls hl
      rw [hk5] at hf
      dsimp only at hf
      clear hk5
      have e4 := Option.some.inj hf
      exact k_Giret (w1 := fun (u : Nat → Nat) => ([] : va_W)) (rv := fun (u : Nat → Nat) => (fun _ => some (.int r)) u) (u := (fun i => 0)) hx hb hr hlocks hK hP hD hS rfl e4 dL_cell_13
    refine lv_icmp_ge (tgt := 12) hx hb dL_cell_3 (by decide) (fun c6 => ?_) (fun c6 => ?_)
    · have hf := it_t hf c6
      refine lv_iconst (v := (0 : Int32)) hx hb dL_cell_12 (by decide) ?_
      exact hJ3 (0 : Int32) hf H locs hP hD hS _ (lv_sub hl [] rfl)
    · have hf := it_f hf c6
      refine lv_aload_n hx hb dL_cell_6 rfl (lv_at hl 0 rfl) ?_
      refine lv_iload_n hx hb dL_cell_7 rfl (lv_at hl 1 rfl) ?_
      obtain ⟨h7, hf⟩ := gd_in hf
      refine va_ti (v := .int ((scX g) (x1).toNatClampNeg)) hx hb hG.2.1.2.2 hS h7 rfl dL_cell_8 ?_
      refine lv_goto (tgt := 13) hx hb dL_cell_9 (by decide) ?_
      exact hJ3 ((scX g) (x1).toNatClampNeg) hf H locs hP hD hS _ (lv_sub hl [] rfl)
  rw [hH, hlo] at hW
  exact hW
def f_L_bound (x0 : Int32) (x1 : Int32) : Option (Int32) :=
  gd (nz x1) (some (((x0 &&& (2147483647 : Int32)) - (x0 &&& (2147483647 : Int32)) / x1 * x1)))
abbrev wsL_bound : List Cond := .code yL_bound cL_bound 2 (some .int) :: UW
abbrev rmL_bound : Room := { frames := 1, cells := 0, slots := 0, locals := 24 }
set_option maxHeartbeats 4000000 in
set_option maxRecDepth 100000 in
theorem c_L_bound (l : Launch) (g : Gx) (x0 : Int32) (x1 : Int32) (r : Int32) (hf : f_L_bound x0 x1 = some r) : CtG l yL_bound wsL_bound rmL_bound g [.int x0, .int x1] (([] : va_W)) (fun (u : Nat → Nat) => ([] : va_W)) (fun (u : Nat → Nat) => (fun _ => some (.int r)) u) 0 0 := by
  unfold CtG
  intro sz
  refine Met.ofW (cc := cL_bound) (maxL := 2) (ret := (some .int)) (by decide) rfl ?_
  intro p e s m args below meth c s₁ B hml hv
  obtain ⟨rfl, hsz, hP, hK, hD0, hG⟩ := hv
  have hx := B.exec
  have hb := B.bytes
  have hr := B.returns
  have hts := atoms_spec (ws := wsL_bound) B.pre
  have hown : s.vm.findClass RL = some m.cls := findClass_of_methodNamed B.named
  have hlocks := B.notSynchronized
  subst hsz
  have hD := hD0.self (sz := s.heap.size)
  generalize hAe : va_A (([] : va_W)) s.heap.size = A at hD hG ⊢
  have hA : ∀ q : Nat, s.heap.size ≤ q → A q := fun q h => by rw [← hAe]; exact Or.inr h
  clear hAe hD0
  have hS : va_S A s.heap s.heap [] := va_S.rf
  have hl := lv_entry ([.int x0, .int x1]) (n := 2) (Nat.le_of_ble_eq_true rfl)
  rw [lg_entry_eq]
  generalize (lg_sl ([.int x0, .int x1]) ++ List.replicate (2 - (lg_sl ([.int x0, .int x1])).length) Slot.unset).toArray = ls at hl ⊢
  have hl : lv_has ls 2 [(0, .int x0), (1, .int x1)] := hl
  have htu : ∀ w ∈ UW, w.before _ s = true := fun w h => hts w (List.mem_cons_of_mem _ h)
  have k_3_149 := htu _ mw_3_149
  unfold f_L_bound at hf
  obtain ⟨H, hH⟩ : ∃ z, z = s.heap := ⟨_, rfl⟩
  obtain ⟨locs, hlo⟩ : ∃ z : List Loc, z = [] := ⟨_, rfl⟩
  have hS : va_S A s.heap H locs := by rw [hH, hlo]; exact hS
  rw [← hH] at hP
  have hW : W p l e (headSpec wsL_bound rmL_bound).room s m ([.int x0, .int x1] : List Value).toArray below meth c H locs 0 0 (MQ below (qG g A (fun (u : Nat → Nat) => ([] : va_W)) (fun (u : Nat → Nat) => (fun _ => some (.int r)) u)) ([.int x0, .int x1] : List Value).toArray s 0 0 A) (F0 m 0 ls []) := by
    refine lv_iload_n hx hb dL_bound_0 rfl (lv_at hl 0 rfl) ?_
    refine lv_ldc (v := (2147483647 : Int32)) hx hb hown k_3_149 dL_bound_1 ?_
    refine lv_iand hx hb dL_bound_3 ?_
    refine lv_iload_n hx hb dL_bound_4 rfl (lv_at hl 1 rfl) ?_
    obtain ⟨h1, hf⟩ := gd_nz hf
    refine lv_irem hx hb dL_bound_5 h1 ?_
    have e2 := Option.some.inj hf
    exact k_Giret (w1 := fun (u : Nat → Nat) => ([] : va_W)) (rv := fun (u : Nat → Nat) => (fun _ => some (.int r)) u) (u := (fun i => 0)) hx hb hr hlocks hK hP hD hS rfl e2 dL_bound_6
  rw [hH, hlo] at hW
  exact hW
def f_L_plain_L5 (x0 : Int32) (x1 : Int32) (x2 : Int32) (self3 : Int32 → Int32 → Option (Int32)) (x3_1 : Int32) (x4_2 : Int32) : Option (Int32) :=
  if x1 ≤ x4_2 then if x0 = (0 : Int32) then jn (fun (t8 : Int32) => some (t8)) (fun k9 => if x3_1 = x1 then k9 (1 : Int32) else k9 (0 : Int32)) else if x0 = (1 : Int32) then jn (fun (t15 : Int32) => some (t15)) (fun k16 => if x3_1 ≤ 0 then k16 (0 : Int32) else k16 (1 : Int32)) else if x0 = (2 : Int32) then jn (fun (t22 : Int32) => some (t22)) (fun k23 => if x3_1 = x1 then k23 (0 : Int32) else k23 (1 : Int32)) else if x0 = (3 : Int32) then jn (fun (t29 : Int32) => some (t29)) (fun k30 => if x3_1 ≤ 0 then k30 (1 : Int32) else k30 (0 : Int32)) else if x0 = (4 : Int32) then gd (nz (2 : Int32)) (some ((x3_1 - x3_1 / (2 : Int32) * (2 : Int32)))) else if x0 = (5 : Int32) then gd (nz (2 : Int32)) (some (((1 : Int32) - (x3_1 - x3_1 / (2 : Int32) * (2 : Int32))))) else if x0 = (6 : Int32) then some (((1 : Int32) - x3_1)) else if x0 = (7 : Int32) then some (x3_1) else jn (fun (t45 : Int32) => some (t45)) (fun k46 => if (x2 &&& (1 : Int32)) = 0 then k46 ((x2 >>> ((1 : Int32) &&& 31)) &&& (1 : Int32)) else k46 ((x2 >>> ((2 : Int32) &&& 31)) &&& (1 : Int32))) else self3 (x3_1 + ((x2 >>> (x4_2 &&& 31)) &&& (1 : Int32))) (x4_2 + (1 : Int32))
def f_L_plain (x0 : Int32) (x1 : Int32) (x2 : Int32) : Option (Int32) :=
  lp (f_L_plain_L5 x0 x1 x2) (fun _ _ => none) FU (0 : Int32) (0 : Int32)
abbrev wsL_plain : List Cond := .code yL_plain cL_plain 5 (some .int) :: UW
abbrev rmL_plain : Room := { frames := 1, cells := 0, slots := 0, locals := 24 }
set_option maxHeartbeats 4000000 in
set_option maxRecDepth 100000 in
theorem c_L_plain (l : Launch) (g : Gx) (x0 : Int32) (x1 : Int32) (x2 : Int32) (r : Int32) (hf : f_L_plain x0 x1 x2 = some r) : CtG l yL_plain wsL_plain rmL_plain g [.int x0, .int x1, .int x2] (([] : va_W)) (fun (u : Nat → Nat) => ([] : va_W)) (fun (u : Nat → Nat) => (fun _ => some (.int r)) u) 0 0 := by
  unfold CtG
  intro sz
  refine Met.ofW (cc := cL_plain) (maxL := 5) (ret := (some .int)) (by decide) rfl ?_
  intro p e s m args below meth c s₁ B hml hv
  obtain ⟨rfl, hsz, hP, hK, hD0, hG⟩ := hv
  have hx := B.exec
  have hb := B.bytes
  have hr := B.returns
  have hts := atoms_spec (ws := wsL_plain) B.pre
  have hown : s.vm.findClass RL = some m.cls := findClass_of_methodNamed B.named
  have hlocks := B.notSynchronized
  subst hsz
  have hD := hD0.self (sz := s.heap.size)
  generalize hAe : va_A (([] : va_W)) s.heap.size = A at hD hG ⊢
  have hA : ∀ q : Nat, s.heap.size ≤ q → A q := fun q h => by rw [← hAe]; exact Or.inr h
  clear hAe hD0
  have hS : va_S A s.heap s.heap [] := va_S.rf
  have hl := lv_entry ([.int x0, .int x1, .int x2]) (n := 5) (Nat.le_of_ble_eq_true rfl)
  rw [lg_entry_eq]
  generalize (lg_sl ([.int x0, .int x1, .int x2]) ++ List.replicate (5 - (lg_sl ([.int x0, .int x1, .int x2])).length) Slot.unset).toArray = ls at hl ⊢
  have hl : lv_has ls 5 [(0, .int x0), (1, .int x1), (2, .int x2)] := hl
  have htu : ∀ w ∈ UW, w.before _ s = true := fun w h => hts w (List.mem_cons_of_mem _ h)
  unfold f_L_plain at hf
  obtain ⟨H, hH⟩ : ∃ z, z = s.heap := ⟨_, rfl⟩
  obtain ⟨locs, hlo⟩ : ∃ z : List Loc, z = [] := ⟨_, rfl⟩
  have hS : va_S A s.heap H locs := by rw [hH, hlo]; exact hS
  rw [← hH] at hP
  have hW : W p l e (headSpec wsL_plain rmL_plain).room s m ([.int x0, .int x1, .int x2] : List Value).toArray below meth c H locs 0 0 (MQ below (qG g A (fun (u : Nat → Nat) => ([] : va_W)) (fun (u : Nat → Nat) => (fun _ => some (.int r)) u)) ([.int x0, .int x1, .int x2] : List Value).toArray s 0 0 A) (F0 m 0 ls []) := by
    refine lv_iconst (v := (0 : Int32)) hx hb dL_plain_0 (by decide) ?_
    refine lv_istore_n (lv' := [(3, .int (0 : Int32)), (0, .int x0), (1, .int x1), (2, .int x2)]) hx hb dL_plain_1 rfl hl (by decide) rfl (fun ls hl => ?_)
    refine lv_iconst (v := (0 : Int32)) hx hb dL_plain_2 (by decide) ?_
    refine lv_istore (lv' := [(4, .int (0 : Int32)), (3, .int (0 : Int32)), (0, .int x0), (1, .int x1), (2, .int x2)]) hx hb dL_plain_3 hl (by decide) rfl (fun ls hl => ?_)
    have hL4 : ∀ (x3_1 : Int32) (x4_2 : Int32), lp (f_L_plain_L5 x0 x1 x2) (fun _ _ => none) FU x3_1 x4_2 = some r → ∀ (H : Heap) (locs : List Loc), va_P g.1 vwCl (([] : va_W)) H → va_D A (([] : va_W)) → va_S A s.heap H locs → ∀ ls : Array Slot, lv_has ls 5 [(0, .int x0), (1, .int x1), (2, .int x2), (3, .int x3_1), (4, .int x4_2)] → W p l e (headSpec wsL_plain rmL_plain).room s m ([.int x0, .int x1, .int x2] : List Value).toArray below meth c H locs 0 0 (MQ below (qG g A (fun (u : Nat → Nat) => ([] : va_W)) (fun (u : Nat → Nat) => (fun _ => some (.int r)) u)) ([.int x0, .int x1, .int x2] : List Value).toArray s 0 0 A) (F0 m 5 ls []) := by
      refine lp_ind (T := Int32 → Int32 → Option (Int32)) (fun self3 => ∀ (x3_1 : Int32) (x4_2 : Int32), self3 x3_1 x4_2 = some r → ∀ (H : Heap) (locs : List Loc), va_P g.1 vwCl (([] : va_W)) H → va_D A (([] : va_W)) → va_S A s.heap H locs → ∀ ls : Array Slot, lv_has ls 5 [(0, .int x0), (1, .int x1), (2, .int x2), (3, .int x3_1), (4, .int x4_2)] → W p l e (headSpec wsL_plain rmL_plain).room s m ([.int x0, .int x1, .int x2] : List Value).toArray below meth c H locs 0 0 (MQ below (qG g A (fun (u : Nat → Nat) => ([] : va_W)) (fun (u : Nat → Nat) => (fun _ => some (.int r)) u)) ([.int x0, .int x1, .int x2] : List Value).toArray s 0 0 A) (F0 m 5 ls [])) ?_ ?_ FU
      · intro x3_1 x4_2 hf; cases hf
      · intro self3 ih5 x3_1 x4_2 hf H locs hP hD hS ls hl
        unfold f_L_plain_L5 at hf
        refine lv_iload hx hb dL_plain_5 (lv_at hl 4 rfl) ?_
        refine lv_iload_n hx hb dL_plain_7 rfl (lv_at hl 1 rfl) ?_
        refine lv_icmp_ge (tgt := 26) hx hb dL_plain_8 (by decide) (fun c6 => ?_) (fun c6 => ?_)
        · have hf := it_t hf c6
          refine lv_iload_n hx hb dL_plain_26 rfl (lv_at hl 0 rfl) ?_
          by_cases c7 : x0 = (0 : Int32)
          · have hf := it_t hf c7
            refine lv_tableIn (off := 45) (tgt := 72) hx hb dL_plain_27 (by rw [c7]; decide) (by rw [c7]; decide) (by rw [c7]; rfl) (by decide) ?_
            refine lv_iload_n hx hb dL_plain_72 rfl (lv_at hl 3 rfl) ?_
            refine lv_iload_n hx hb dL_plain_73 rfl (lv_at hl 1 rfl) ?_
            obtain ⟨k9, hk12, hf⟩ := jn_at hf
            have hJ10 : ∀ (t8 : Int32), k9 t8 = some r → ∀ (H : Heap) (locs : List Loc), va_P g.1 vwCl (([] : va_W)) H → va_D A (([] : va_W)) → va_S A s.heap H locs → ∀ ls : Array Slot, lv_has ls 5 [] → W p l e (headSpec wsL_plain rmL_plain).room s m ([.int x0, .int x1, .int x2] : List Value).toArray below meth c H locs 0 0 (MQ below (qG g A (fun (u : Nat → Nat) => ([] : va_W)) (fun (u : Nat → Nat) => (fun _ => some (.int r)) u)) ([.int x0, .int x1, .int x2] : List Value).toArray s 0 0 A) (F0 m 82 ls [.int t8]) := by
              intro t8 hf H locs hP hD hS ls hl
              rw [hk12] at hf
              dsimp only at hf
              clear hk12
              have e11 := Option.some.inj hf
              exact k_Giret (w1 := fun (u : Nat → Nat) => ([] : va_W)) (rv := fun (u : Nat → Nat) => (fun _ => some (.int r)) u) (u := (fun i => 0)) hx hb hr hlocks hK hP hD hS rfl e11 dL_plain_82
            refine lv_icmp_ne (tgt := 81) hx hb dL_plain_74 (by decide) (fun c13 => ?_) (fun c13 => ?_)
            · have hf := it_f hf c13
              refine lv_iconst (v := (0 : Int32)) hx hb dL_plain_81 (by decide) ?_
              exact hJ10 (0 : Int32) hf H locs hP hD hS _ (lv_sub hl [] rfl)
            · have hf := it_t hf c13
              refine lv_iconst (v := (1 : Int32)) hx hb dL_plain_77 (by decide) ?_
              refine lv_goto (tgt := 82) hx hb dL_plain_78 (by decide) ?_
              exact hJ10 (1 : Int32) hf H locs hP hD hS _ (lv_sub hl [] rfl)
          · have hf := it_f hf c7
            by_cases c14 : x0 = (1 : Int32)
            · have hf := it_t hf c14
              refine lv_tableIn (off := 56) (tgt := 83) hx hb dL_plain_27 (by rw [c14]; decide) (by rw [c14]; decide) (by rw [c14]; rfl) (by decide) ?_
              refine lv_iload_n hx hb dL_plain_83 rfl (lv_at hl 3 rfl) ?_
              obtain ⟨k16, hk19, hf⟩ := jn_at hf
              have hJ17 : ∀ (t15 : Int32), k16 t15 = some r → ∀ (H : Heap) (locs : List Loc), va_P g.1 vwCl (([] : va_W)) H → va_D A (([] : va_W)) → va_S A s.heap H locs → ∀ ls : Array Slot, lv_has ls 5 [] → W p l e (headSpec wsL_plain rmL_plain).room s m ([.int x0, .int x1, .int x2] : List Value).toArray below meth c H locs 0 0 (MQ below (qG g A (fun (u : Nat → Nat) => ([] : va_W)) (fun (u : Nat → Nat) => (fun _ => some (.int r)) u)) ([.int x0, .int x1, .int x2] : List Value).toArray s 0 0 A) (F0 m 92 ls [.int t15]) := by
                intro t15 hf H locs hP hD hS ls hl
                rw [hk19] at hf
                dsimp only at hf
                clear hk19
                have e18 := Option.some.inj hf
                exact k_Giret (w1 := fun (u : Nat → Nat) => ([] : va_W)) (rv := fun (u : Nat → Nat) => (fun _ => some (.int r)) u) (u := (fun i => 0)) hx hb hr hlocks hK hP hD hS rfl e18 dL_plain_92
              refine lv_if_le (tgt := 91) hx hb dL_plain_84 (by decide) (fun c20 => ?_) (fun c20 => ?_)
              · have hf := it_t hf c20
                refine lv_iconst (v := (0 : Int32)) hx hb dL_plain_91 (by decide) ?_
                exact hJ17 (0 : Int32) hf H locs hP hD hS _ (lv_sub hl [] rfl)
              · have hf := it_f hf c20
                refine lv_iconst (v := (1 : Int32)) hx hb dL_plain_87 (by decide) ?_
                refine lv_goto (tgt := 92) hx hb dL_plain_88 (by decide) ?_
                exact hJ17 (1 : Int32) hf H locs hP hD hS _ (lv_sub hl [] rfl)
            · have hf := it_f hf c14
              by_cases c21 : x0 = (2 : Int32)
              · have hf := it_t hf c21
                refine lv_tableIn (off := 66) (tgt := 93) hx hb dL_plain_27 (by rw [c21]; decide) (by rw [c21]; decide) (by rw [c21]; rfl) (by decide) ?_
                refine lv_iload_n hx hb dL_plain_93 rfl (lv_at hl 3 rfl) ?_
                refine lv_iload_n hx hb dL_plain_94 rfl (lv_at hl 1 rfl) ?_
                obtain ⟨k23, hk26, hf⟩ := jn_at hf
                have hJ24 : ∀ (t22 : Int32), k23 t22 = some r → ∀ (H : Heap) (locs : List Loc), va_P g.1 vwCl (([] : va_W)) H → va_D A (([] : va_W)) → va_S A s.heap H locs → ∀ ls : Array Slot, lv_has ls 5 [] → W p l e (headSpec wsL_plain rmL_plain).room s m ([.int x0, .int x1, .int x2] : List Value).toArray below meth c H locs 0 0 (MQ below (qG g A (fun (u : Nat → Nat) => ([] : va_W)) (fun (u : Nat → Nat) => (fun _ => some (.int r)) u)) ([.int x0, .int x1, .int x2] : List Value).toArray s 0 0 A) (F0 m 103 ls [.int t22]) := by
                  intro t22 hf H locs hP hD hS ls hl
                  rw [hk26] at hf
                  dsimp only at hf
                  clear hk26
                  have e25 := Option.some.inj hf
                  exact k_Giret (w1 := fun (u : Nat → Nat) => ([] : va_W)) (rv := fun (u : Nat → Nat) => (fun _ => some (.int r)) u) (u := (fun i => 0)) hx hb hr hlocks hK hP hD hS rfl e25 dL_plain_103
                refine lv_icmp_ne (tgt := 102) hx hb dL_plain_95 (by decide) (fun c27 => ?_) (fun c27 => ?_)
                · have hf := it_f hf c27
                  refine lv_iconst (v := (1 : Int32)) hx hb dL_plain_102 (by decide) ?_
                  exact hJ24 (1 : Int32) hf H locs hP hD hS _ (lv_sub hl [] rfl)
                · have hf := it_t hf c27
                  refine lv_iconst (v := (0 : Int32)) hx hb dL_plain_98 (by decide) ?_
                  refine lv_goto (tgt := 103) hx hb dL_plain_99 (by decide) ?_
                  exact hJ24 (0 : Int32) hf H locs hP hD hS _ (lv_sub hl [] rfl)
              · have hf := it_f hf c21
                by_cases c28 : x0 = (3 : Int32)
                · have hf := it_t hf c28
                  refine lv_tableIn (off := 77) (tgt := 104) hx hb dL_plain_27 (by rw [c28]; decide) (by rw [c28]; decide) (by rw [c28]; rfl) (by decide) ?_
                  refine lv_iload_n hx hb dL_plain_104 rfl (lv_at hl 3 rfl) ?_
                  obtain ⟨k30, hk33, hf⟩ := jn_at hf
                  have hJ31 : ∀ (t29 : Int32), k30 t29 = some r → ∀ (H : Heap) (locs : List Loc), va_P g.1 vwCl (([] : va_W)) H → va_D A (([] : va_W)) → va_S A s.heap H locs → ∀ ls : Array Slot, lv_has ls 5 [] → W p l e (headSpec wsL_plain rmL_plain).room s m ([.int x0, .int x1, .int x2] : List Value).toArray below meth c H locs 0 0 (MQ below (qG g A (fun (u : Nat → Nat) => ([] : va_W)) (fun (u : Nat → Nat) => (fun _ => some (.int r)) u)) ([.int x0, .int x1, .int x2] : List Value).toArray s 0 0 A) (F0 m 113 ls [.int t29]) := by
                    intro t29 hf H locs hP hD hS ls hl
                    rw [hk33] at hf
                    dsimp only at hf
                    clear hk33
                    have e32 := Option.some.inj hf
                    exact k_Giret (w1 := fun (u : Nat → Nat) => ([] : va_W)) (rv := fun (u : Nat → Nat) => (fun _ => some (.int r)) u) (u := (fun i => 0)) hx hb hr hlocks hK hP hD hS rfl e32 dL_plain_113
                  refine lv_if_le (tgt := 112) hx hb dL_plain_105 (by decide) (fun c34 => ?_) (fun c34 => ?_)
                  · have hf := it_t hf c34
                    refine lv_iconst (v := (1 : Int32)) hx hb dL_plain_112 (by decide) ?_
                    exact hJ31 (1 : Int32) hf H locs hP hD hS _ (lv_sub hl [] rfl)
                  · have hf := it_f hf c34
                    refine lv_iconst (v := (0 : Int32)) hx hb dL_plain_108 (by decide) ?_
                    refine lv_goto (tgt := 113) hx hb dL_plain_109 (by decide) ?_
                    exact hJ31 (0 : Int32) hf H locs hP hD hS _ (lv_sub hl [] rfl)
                · have hf := it_f hf c28
                  by_cases c35 : x0 = (4 : Int32)
                  · have hf := it_t hf c35
                    refine lv_tableIn (off := 87) (tgt := 114) hx hb dL_plain_27 (by rw [c35]; decide) (by rw [c35]; decide) (by rw [c35]; rfl) (by decide) ?_
                    refine lv_iload_n hx hb dL_plain_114 rfl (lv_at hl 3 rfl) ?_
                    refine lv_iconst (v := (2 : Int32)) hx hb dL_plain_115 (by decide) ?_
                    obtain ⟨h36, hf⟩ := gd_nz hf
                    refine lv_irem hx hb dL_plain_116 h36 ?_
                    have e37 := Option.some.inj hf
                    exact k_Giret (w1 := fun (u : Nat → Nat) => ([] : va_W)) (rv := fun (u : Nat → Nat) => (fun _ => some (.int r)) u) (u := (fun i => 0)) hx hb hr hlocks hK hP hD hS rfl e37 dL_plain_117
                  · have hf := it_f hf c35
                    by_cases c38 : x0 = (5 : Int32)
                    · have hf := it_t hf c38
                      refine lv_tableIn (off := 91) (tgt := 118) hx hb dL_plain_27 (by rw [c38]; decide) (by rw [c38]; decide) (by rw [c38]; rfl) (by decide) ?_
                      refine lv_iconst (v := (1 : Int32)) hx hb dL_plain_118 (by decide) ?_
                      refine lv_iload_n hx hb dL_plain_119 rfl (lv_at hl 3 rfl) ?_
                      refine lv_iconst (v := (2 : Int32)) hx hb dL_plain_120 (by decide) ?_
                      obtain ⟨h39, hf⟩ := gd_nz hf
                      refine lv_irem hx hb dL_plain_121 h39 ?_
                      refine lv_isub hx hb dL_plain_122 ?_
                      have e40 := Option.some.inj hf
                      exact k_Giret (w1 := fun (u : Nat → Nat) => ([] : va_W)) (rv := fun (u : Nat → Nat) => (fun _ => some (.int r)) u) (u := (fun i => 0)) hx hb hr hlocks hK hP hD hS rfl e40 dL_plain_123
                    · have hf := it_f hf c38
                      by_cases c41 : x0 = (6 : Int32)
                      · have hf := it_t hf c41
                        refine lv_tableIn (off := 97) (tgt := 124) hx hb dL_plain_27 (by rw [c41]; decide) (by rw [c41]; decide) (by rw [c41]; rfl) (by decide) ?_
                        refine lv_iconst (v := (1 : Int32)) hx hb dL_plain_124 (by decide) ?_
                        refine lv_iload_n hx hb dL_plain_125 rfl (lv_at hl 3 rfl) ?_
                        refine lv_isub hx hb dL_plain_126 ?_
                        have e42 := Option.some.inj hf
                        exact k_Giret (w1 := fun (u : Nat → Nat) => ([] : va_W)) (rv := fun (u : Nat → Nat) => (fun _ => some (.int r)) u) (u := (fun i => 0)) hx hb hr hlocks hK hP hD hS rfl e42 dL_plain_127
                      · have hf := it_f hf c41
                        by_cases c43 : x0 = (7 : Int32)
                        · have hf := it_t hf c43
                          refine lv_tableIn (off := 101) (tgt := 128) hx hb dL_plain_27 (by rw [c43]; decide) (by rw [c43]; decide) (by rw [c43]; rfl) (by decide) ?_
                          refine lv_iload_n hx hb dL_plain_128 rfl (lv_at hl 3 rfl) ?_
                          have e44 := Option.some.inj hf
                          exact k_Giret (w1 := fun (u : Nat → Nat) => ([] : va_W)) (rv := fun (u : Nat → Nat) => (fun _ => some (.int r)) u) (u := (fun i => 0)) hx hb hr hlocks hK hP hD hS rfl e44 dL_plain_129
                        · have hf := it_f hf c43
                          refine lv_tableOut (tgt := 130) hx hb dL_plain_27 (by
                            have zc7 : ¬ (x0).toInt = 0 := fun h9 => c7 (Int32.toInt_inj.mp (h9.trans (by decide)))
                            have zc14 : ¬ (x0).toInt = 1 := fun h9 => c14 (Int32.toInt_inj.mp (h9.trans (by decide)))
                            have zc21 : ¬ (x0).toInt = 2 := fun h9 => c21 (Int32.toInt_inj.mp (h9.trans (by decide)))
                            have zc28 : ¬ (x0).toInt = 3 := fun h9 => c28 (Int32.toInt_inj.mp (h9.trans (by decide)))
                            have zc35 : ¬ (x0).toInt = 4 := fun h9 => c35 (Int32.toInt_inj.mp (h9.trans (by decide)))
                            have zc38 : ¬ (x0).toInt = 5 := fun h9 => c38 (Int32.toInt_inj.mp (h9.trans (by decide)))
                            have zc41 : ¬ (x0).toInt = 6 := fun h9 => c41 (Int32.toInt_inj.mp (h9.trans (by decide)))
                            have zc43 : ¬ (x0).toInt = 7 := fun h9 => c43 (Int32.toInt_inj.mp (h9.trans (by decide)))
                            omega) (by decide) ?_
                          refine lv_iload_n hx hb dL_plain_130 rfl (lv_at hl 2 rfl) ?_
                          refine lv_iconst (v := (1 : Int32)) hx hb dL_plain_131 (by decide) ?_
                          refine lv_iand hx hb dL_plain_132 ?_
                          obtain ⟨k46, hk49, hf⟩ := jn_at hf
                          have hJ47 : ∀ (t45 : Int32), k46 t45 = some r → ∀ (H : Heap) (locs : List Loc), va_P g.1 vwCl (([] : va_W)) H → va_D A (([] : va_W)) → va_S A s.heap H locs → ∀ ls : Array Slot, lv_has ls 5 [] → W p l e (headSpec wsL_plain rmL_plain).room s m ([.int x0, .int x1, .int x2] : List Value).toArray below meth c H locs 0 0 (MQ below (qG g A (fun (u : Nat → Nat) => ([] : va_W)) (fun (u : Nat → Nat) => (fun _ => some (.int r)) u)) ([.int x0, .int x1, .int x2] : List Value).toArray s 0 0 A) (F0 m 149 ls [.int t45]) := by
                            intro t45 hf H locs hP hD hS ls hl
                            rw [hk49] at hf
                            dsimp only at hf
                            clear hk49
                            have e48 := Option.some.inj hf
                            exact k_Giret (w1 := fun (u : Nat → Nat) => ([] : va_W)) (rv := fun (u : Nat → Nat) => (fun _ => some (.int r)) u) (u := (fun i => 0)) hx hb hr hlocks hK hP hD hS rfl e48 dL_plain_149
                          refine lv_if_ne (tgt := 144) hx hb dL_plain_133 (by decide) (fun c50 => ?_) (fun c50 => ?_)
                          · have hf := it_f hf c50
                            refine lv_iload_n hx hb dL_plain_144 rfl (lv_at hl 2 rfl) ?_
                            refine lv_iconst (v := (2 : Int32)) hx hb dL_plain_145 (by decide) ?_
                            refine lv_ishr hx hb dL_plain_146 ?_
                            refine lv_iconst (v := (1 : Int32)) hx hb dL_plain_147 (by decide) ?_
                            refine lv_iand hx hb dL_plain_148 ?_
                            exact hJ47 ((x2 >>> ((2 : Int32) &&& 31)) &&& (1 : Int32)) hf H locs hP hD hS _ (lv_sub hl [] rfl)
                          · have hf := it_t hf c50
                            refine lv_iload_n hx hb dL_plain_136 rfl (lv_at hl 2 rfl) ?_
                            refine lv_iconst (v := (1 : Int32)) hx hb dL_plain_137 (by decide) ?_
                            refine lv_ishr hx hb dL_plain_138 ?_
                            refine lv_iconst (v := (1 : Int32)) hx hb dL_plain_139 (by decide) ?_
                            refine lv_iand hx hb dL_plain_140 ?_
                            refine lv_goto (tgt := 149) hx hb dL_plain_141 (by decide) ?_
                            exact hJ47 ((x2 >>> ((1 : Int32) &&& 31)) &&& (1 : Int32)) hf H locs hP hD hS _ (lv_sub hl [] rfl)
        · have hf := it_f hf c6
          refine lv_iload_n hx hb dL_plain_11 rfl (lv_at hl 3 rfl) ?_
          refine lv_iload_n hx hb dL_plain_12 rfl (lv_at hl 2 rfl) ?_
          refine lv_iload hx hb dL_plain_13 (lv_at hl 4 rfl) ?_
          refine lv_ishr hx hb dL_plain_15 ?_
          refine lv_iconst (v := (1 : Int32)) hx hb dL_plain_16 (by decide) ?_
          refine lv_iand hx hb dL_plain_17 ?_
          refine lv_iadd hx hb dL_plain_18 ?_
          refine lv_istore_n (lv' := [(3, .int (x3_1 + ((x2 >>> (x4_2 &&& 31)) &&& (1 : Int32)))), (0, .int x0), (1, .int x1), (2, .int x2), (4, .int x4_2)]) hx hb dL_plain_19 rfl hl (by decide) rfl (fun ls hl => ?_)
          refine lv_iinc (v := (x4_2 + (1 : Int32))) (lv' := [(4, .int (x4_2 + (1 : Int32))), (3, .int (x3_1 + ((x2 >>> (x4_2 &&& 31)) &&& (1 : Int32)))), (0, .int x0), (1, .int x1), (2, .int x2)]) hx hb dL_plain_20 hl (k := 4) rfl rfl (by decide) rfl (fun ls hl => ?_)
          refine lv_goto (tgt := 5) hx hb dL_plain_23 (by decide) ?_
          exact ih5 (x3_1 + ((x2 >>> (x4_2 &&& 31)) &&& (1 : Int32))) (x4_2 + (1 : Int32)) hf H locs hP hD hS _ (lv_sub hl [2, 3, 4, 1, 0] rfl)
    exact hL4 (0 : Int32) (0 : Int32) hf H locs hP hD hS _ (lv_sub hl [2, 3, 4, 1, 0] rfl)
  rw [hH, hlo] at hW
  exact hW
def f_L_toldOf (x0 : Int32) : Option (Int32) :=
  jn (fun (t1 : Int32) => some (t1)) (fun k2 => if x0 = (3 : Int32) then k2 (2 : Int32) else k2 (x0 - (1 : Int32)))
abbrev wsL_toldOf : List Cond := .code yL_toldOf cL_toldOf 1 (some .int) :: UW
abbrev rmL_toldOf : Room := { frames := 1, cells := 0, slots := 0, locals := 24 }
set_option maxHeartbeats 4000000 in
set_option maxRecDepth 100000 in
theorem c_L_toldOf (l : Launch) (g : Gx) (x0 : Int32) (r : Int32) (hf : f_L_toldOf x0 = some r) : CtG l yL_toldOf wsL_toldOf rmL_toldOf g [.int x0] (([] : va_W)) (fun (u : Nat → Nat) => ([] : va_W)) (fun (u : Nat → Nat) => (fun _ => some (.int r)) u) 0 0 := by
  unfold CtG
  intro sz
  refine Met.ofW (cc := cL_toldOf) (maxL := 1) (ret := (some .int)) (by decide) rfl ?_
  intro p e s m args below meth c s₁ B hml hv
  obtain ⟨rfl, hsz, hP, hK, hD0, hG⟩ := hv
  have hx := B.exec
  have hb := B.bytes
  have hr := B.returns
  have hts := atoms_spec (ws := wsL_toldOf) B.pre
  have hown : s.vm.findClass RL = some m.cls := findClass_of_methodNamed B.named
  have hlocks := B.notSynchronized
  subst hsz
  have hD := hD0.self (sz := s.heap.size)
  generalize hAe : va_A (([] : va_W)) s.heap.size = A at hD hG ⊢
  have hA : ∀ q : Nat, s.heap.size ≤ q → A q := fun q h => by rw [← hAe]; exact Or.inr h
  clear hAe hD0
  have hS : va_S A s.heap s.heap [] := va_S.rf
  have hl := lv_entry ([.int x0]) (n := 1) (Nat.le_of_ble_eq_true rfl)
  rw [lg_entry_eq]
  generalize (lg_sl ([.int x0]) ++ List.replicate (1 - (lg_sl ([.int x0])).length) Slot.unset).toArray = ls at hl ⊢
  have hl : lv_has ls 1 [(0, .int x0)] := hl
  have htu : ∀ w ∈ UW, w.before _ s = true := fun w h => hts w (List.mem_cons_of_mem _ h)
  unfold f_L_toldOf at hf
  obtain ⟨H, hH⟩ : ∃ z, z = s.heap := ⟨_, rfl⟩
  obtain ⟨locs, hlo⟩ : ∃ z : List Loc, z = [] := ⟨_, rfl⟩
  have hS : va_S A s.heap H locs := by rw [hH, hlo]; exact hS
  rw [← hH] at hP
  have hW : W p l e (headSpec wsL_toldOf rmL_toldOf).room s m ([.int x0] : List Value).toArray below meth c H locs 0 0 (MQ below (qG g A (fun (u : Nat → Nat) => ([] : va_W)) (fun (u : Nat → Nat) => (fun _ => some (.int r)) u)) ([.int x0] : List Value).toArray s 0 0 A) (F0 m 0 ls []) := by
    refine lv_iload_n hx hb dL_toldOf_0 rfl (lv_at hl 0 rfl) ?_
    refine lv_iconst (v := (3 : Int32)) hx hb dL_toldOf_1 (by decide) ?_
    obtain ⟨k2, hk5, hf⟩ := jn_at hf
    have hJ3 : ∀ (t1 : Int32), k2 t1 = some r → ∀ (H : Heap) (locs : List Loc), va_P g.1 vwCl (([] : va_W)) H → va_D A (([] : va_W)) → va_S A s.heap H locs → ∀ ls : Array Slot, lv_has ls 1 [] → W p l e (headSpec wsL_toldOf rmL_toldOf).room s m ([.int x0] : List Value).toArray below meth c H locs 0 0 (MQ below (qG g A (fun (u : Nat → Nat) => ([] : va_W)) (fun (u : Nat → Nat) => (fun _ => some (.int r)) u)) ([.int x0] : List Value).toArray s 0 0 A) (F0 m 12 ls [.int t1]) := by
      intro t1 hf H locs hP hD hS ls hl
      rw [hk5] at hf
      dsimp only at hf
      clear hk5
      have e4 := Option.some.inj hf
      exact k_Giret (w1 := fun (u : Nat → Nat) => ([] : va_W)) (rv := fun (u : Nat → Nat) => (fun _ => some (.int r)) u) (u := (fun i => 0)) hx hb hr hlocks hK hP hD hS rfl e4 dL_toldOf_12
    refine lv_icmp_ne (tgt := 9) hx hb dL_toldOf_2 (by decide) (fun c6 => ?_) (fun c6 => ?_)
    · have hf := it_f hf c6
      refine lv_iload_n hx hb dL_toldOf_9 rfl (lv_at hl 0 rfl) ?_
      refine lv_iconst (v := (1 : Int32)) hx hb dL_toldOf_10 (by decide) ?_
      refine lv_isub hx hb dL_toldOf_11 ?_
      exact hJ3 (x0 - (1 : Int32)) hf H locs hP hD hS _ (lv_sub hl [] rfl)
    · have hf := it_t hf c6
      refine lv_iconst (v := (2 : Int32)) hx hb dL_toldOf_5 (by decide) ?_
      refine lv_goto (tgt := 12) hx hb dL_toldOf_6 (by decide) ?_
      exact hJ3 (2 : Int32) hf H locs hP hD hS _ (lv_sub hl [] rfl)
  rw [hH, hlo] at hW
  exact hW
def f_L_sets_L18 (vN : Vs) (x0 : Int32) (x2_1 : Int32) (x3_2 : Int32) (self3 : Int32 → Int32 → Option (Int32)) (self10 : Int32 → Int32 → Option (Int32)) (x4_8 : Int32) (x5_9 : Int32) : Option (Int32) :=
  if (nI (vN.1 9).toNatClampNeg) ≤ x5_9 then jn (fun (x2_14 : Int32) => self3 x2_14 (x3_2 + (1 : Int32))) (fun k15 => if x4_8 = 0 then k15 x2_1 else o1 (f_L_plain x0 (nI (vN.1 9).toNatClampNeg) x3_2) (fun (r19 : Int32) => k15 (x2_1 ||| ((1 : Int32) <<< (r19 &&& 31))))) else jn (fun (t23 : Int32) => self10 t23 (x5_9 + (1 : Int32))) (fun k24 => jn (k24 (0 : Int32)) (fun k27 => if x4_8 = 0 then k27 else gd (inb x5_9 (vN.1 9).toNatClampNeg) (if (((vN.2.1 0 (x5_9).toNatClampNeg) >>> (((x3_2 >>> (x5_9 &&& 31)) &&& (1 : Int32)) &&& 31)) &&& (1 : Int32)) = (1 : Int32) then k24 (1 : Int32) else k27)))
def f_L_sets_L4 (vN : Vs) (x0 : Int32) (self3 : Int32 → Int32 → Option (Int32)) (x2_1 : Int32) (x3_2 : Int32) : Option (Int32) :=
  if ((1 : Int32) <<< ((nI (vN.1 9).toNatClampNeg) &&& 31)) ≤ x3_2 then some (x2_1) else lp (f_L_sets_L18 vN x0 x2_1 x3_2 self3) (fun _ _ => none) FU (1 : Int32) (0 : Int32)
def f_L_sets (vN : Vs) (x0 : Int32) : Option (Int32) :=
  lp (f_L_sets_L4 vN x0) (fun _ _ => none) FU (0 : Int32) (0 : Int32)
abbrev wsL_sets : List Cond := .code yL_sets cL_sets 6 (some .int) :: UW
abbrev rmL_sets : Room := { frames := 2, cells := 0, slots := 0, locals := 48 }
set_option maxHeartbeats 4000000 in
set_option maxRecDepth 100000 in
theorem c_L_sets (l : Launch) (g : Gx) (qN : Nat) (vN : Vs) (x0 : Int32) (r : Int32) (hf : f_L_sets vN x0 = some r) : CtG l yL_sets wsL_sets rmL_sets g [.int x0, .ref qN] (cA g qN vN) (fun (u : Nat → Nat) => cA g qN vN) (fun (u : Nat → Nat) => (fun _ => some (.int r)) u) 0 0 := by
  unfold CtG
  intro sz
  refine Met.ofW (cc := cL_sets) (maxL := 6) (ret := (some .int)) (by decide) rfl ?_
  intro p e s m args below meth c s₁ B hml hv
  obtain ⟨rfl, hsz, hP, hK, hD0, hG⟩ := hv
  have hx := B.exec
  have hb := B.bytes
  have hr := B.returns
  have hts := atoms_spec (ws := wsL_sets) B.pre
  have hown : s.vm.findClass RL = some m.cls := findClass_of_methodNamed B.named
  have hlocks := B.notSynchronized
  subst hsz
  have hD := hD0.self (sz := s.heap.size)
  generalize hAe : va_A (cA g qN vN) s.heap.size = A at hD hG ⊢
  have hA : ∀ q : Nat, s.heap.size ≤ q → A q := fun q h => by rw [← hAe]; exact Or.inr h
  clear hAe hD0
  have hS : va_S A s.heap s.heap [] := va_S.rf
  have hl := lv_entry ([.int x0, .ref qN]) (n := 6) (Nat.le_of_ble_eq_true rfl)
  rw [lg_entry_eq]
  generalize (lg_sl ([.int x0, .ref qN]) ++ List.replicate (6 - (lg_sl ([.int x0, .ref qN])).length) Slot.unset).toArray = ls at hl ⊢
  have hl : lv_has ls 6 [(0, .int x0), (1, .ref qN)] := hl
  have htu : ∀ w ∈ UW, w.before _ s = true := fun w h => hts w (List.mem_cons_of_mem _ h)
  unfold f_L_sets at hf
  obtain ⟨H, hH⟩ : ∃ z, z = s.heap := ⟨_, rfl⟩
  obtain ⟨locs, hlo⟩ : ∃ z : List Loc, z = [] := ⟨_, rfl⟩
  have hS : va_S A s.heap H locs := by rw [hH, hlo]; exact hS
  rw [← hH] at hP
  have hW : W p l e (headSpec wsL_sets rmL_sets).room s m ([.int x0, .ref qN] : List Value).toArray below meth c H locs 0 0 (MQ below (qG g A (fun (u : Nat → Nat) => cA g qN vN) (fun (u : Nat → Nat) => (fun _ => some (.int r)) u)) ([.int x0, .ref qN] : List Value).toArray s 0 0 A) (F0 m 0 ls []) := by
    refine lv_iconst (v := (0 : Int32)) hx hb dL_sets_0 (by decide) ?_
    refine lv_istore_n (lv' := [(2, .int (0 : Int32)), (0, .int x0), (1, .ref qN)]) hx hb dL_sets_1 rfl hl (by decide) rfl (fun ls hl => ?_)
    refine lv_iconst (v := (0 : Int32)) hx hb dL_sets_2 (by decide) ?_
    refine lv_istore_n (lv' := [(3, .int (0 : Int32)), (2, .int (0 : Int32)), (0, .int x0), (1, .ref qN)]) hx hb dL_sets_3 rfl hl (by decide) rfl (fun ls hl => ?_)
    have hL4 : ∀ (x2_1 : Int32) (x3_2 : Int32), lp (f_L_sets_L4 vN x0) (fun _ _ => none) FU x2_1 x3_2 = some r → ∀ (H : Heap) (locs : List Loc), va_P g.1 vwCl (cA g qN vN) H → va_D A (cA g qN vN) → va_S A s.heap H locs → ∀ ls : Array Slot, lv_has ls 6 [(0, .int x0), (1, .ref qN), (2, .int x2_1), (3, .int x3_2)] → W p l e (headSpec wsL_sets rmL_sets).room s m ([.int x0, .ref qN] : List Value).toArray below meth c H locs 0 0 (MQ below (qG g A (fun (u : Nat → Nat) => cA g qN vN) (fun (u : Nat → Nat) => (fun _ => some (.int r)) u)) ([.int x0, .ref qN] : List Value).toArray s 0 0 A) (F0 m 4 ls []) := by
      refine lp_ind (T := Int32 → Int32 → Option (Int32)) (fun self3 => ∀ (x2_1 : Int32) (x3_2 : Int32), self3 x2_1 x3_2 = some r → ∀ (H : Heap) (locs : List Loc), va_P g.1 vwCl (cA g qN vN) H → va_D A (cA g qN vN) → va_S A s.heap H locs → ∀ ls : Array Slot, lv_has ls 6 [(0, .int x0), (1, .ref qN), (2, .int x2_1), (3, .int x3_2)] → W p l e (headSpec wsL_sets rmL_sets).room s m ([.int x0, .ref qN] : List Value).toArray below meth c H locs 0 0 (MQ below (qG g A (fun (u : Nat → Nat) => cA g qN vN) (fun (u : Nat → Nat) => (fun _ => some (.int r)) u)) ([.int x0, .ref qN] : List Value).toArray s 0 0 A) (F0 m 4 ls [])) ?_ ?_ FU
      · intro x2_1 x3_2 hf; cases hf
      · intro self3 ih5 x2_1 x3_2 hf H locs hP hD hS ls hl
        unfold f_L_sets_L4 at hf
        refine lv_iload_n hx hb dL_sets_4 rfl (lv_at hl 3 rfl) ?_
        refine lv_iconst (v := (1 : Int32)) hx hb dL_sets_5 (by decide) ?_
        refine lv_aload_n hx hb dL_sets_6 rfl (lv_at hl 1 rfl) ?_
        refine va_alen (D := g.1) (v := (nI (vN.1 9).toNatClampNeg)) (ty := .int) hx hb hK hP 0 0 rfl rfl rfl dL_sets_7 ?_
        refine lv_ishl hx hb dL_sets_8 ?_
        refine lv_icmp_ge (tgt := 83) hx hb dL_sets_9 (by decide) (fun c6 => ?_) (fun c6 => ?_)
        · have hf := it_t hf c6
          refine lv_iload_n hx hb dL_sets_83 rfl (lv_at hl 2 rfl) ?_
          have e7 := Option.some.inj hf
          exact k_Giret (w1 := fun (u : Nat → Nat) => cA g qN vN) (rv := fun (u : Nat → Nat) => (fun _ => some (.int r)) u) (u := (fun i => 0)) hx hb hr hlocks hK hP hD hS rfl e7 dL_sets_84
        · have hf := it_f hf c6
          refine lv_iconst (v := (1 : Int32)) hx hb dL_sets_12 (by decide) ?_
          refine lv_istore (lv' := [(4, .int (1 : Int32)), (0, .int x0), (1, .ref qN), (2, .int x2_1), (3, .int x3_2)]) hx hb dL_sets_13 hl (by decide) rfl (fun ls hl => ?_)
          refine lv_iconst (v := (0 : Int32)) hx hb dL_sets_15 (by decide) ?_
          refine lv_istore (lv' := [(5, .int (0 : Int32)), (4, .int (1 : Int32)), (0, .int x0), (1, .ref qN), (2, .int x2_1), (3, .int x3_2)]) hx hb dL_sets_16 hl (by decide) rfl (fun ls hl => ?_)
          have hL11 : ∀ (x4_8 : Int32) (x5_9 : Int32), lp (f_L_sets_L18 vN x0 x2_1 x3_2 self3) (fun _ _ => none) FU x4_8 x5_9 = some r → ∀ (H : Heap) (locs : List Loc), va_P g.1 vwCl (cA g qN vN) H → va_D A (cA g qN vN) → va_S A s.heap H locs → ∀ ls : Array Slot, lv_has ls 6 [(0, .int x0), (1, .ref qN), (2, .int x2_1), (3, .int x3_2), (4, .int x4_8), (5, .int x5_9)] → W p l e (headSpec wsL_sets rmL_sets).room s m ([.int x0, .ref qN] : List Value).toArray below meth c H locs 0 0 (MQ below (qG g A (fun (u : Nat → Nat) => cA g qN vN) (fun (u : Nat → Nat) => (fun _ => some (.int r)) u)) ([.int x0, .ref qN] : List Value).toArray s 0 0 A) (F0 m 18 ls []) := by
            refine lp_ind (T := Int32 → Int32 → Option (Int32)) (fun self10 => ∀ (x4_8 : Int32) (x5_9 : Int32), self10 x4_8 x5_9 = some r → ∀ (H : Heap) (locs : List Loc), va_P g.1 vwCl (cA g qN vN) H → va_D A (cA g qN vN) → va_S A s.heap H locs → ∀ ls : Array Slot, lv_has ls 6 [(0, .int x0), (1, .ref qN), (2, .int x2_1), (3, .int x3_2), (4, .int x4_8), (5, .int x5_9)] → W p l e (headSpec wsL_sets rmL_sets).room s m ([.int x0, .ref qN] : List Value).toArray below meth c H locs 0 0 (MQ below (qG g A (fun (u : Nat → Nat) => cA g qN vN) (fun (u : Nat → Nat) => (fun _ => some (.int r)) u)) ([.int x0, .ref qN] : List Value).toArray s 0 0 A) (F0 m 18 ls [])) ?_ ?_ FU
            · intro x4_8 x5_9 hf; cases hf
            · intro self10 ih12 x4_8 x5_9 hf H locs hP hD hS ls hl
              unfold f_L_sets_L18 at hf
              refine lv_iload hx hb dL_sets_18 (lv_at hl 5 rfl) ?_
              refine lv_aload_n hx hb dL_sets_20 rfl (lv_at hl 1 rfl) ?_
              refine va_alen (D := g.1) (v := (nI (vN.1 9).toNatClampNeg)) (ty := .int) hx hb hK hP 0 0 rfl rfl rfl dL_sets_21 ?_
              refine lv_icmp_ge (tgt := 60) hx hb dL_sets_22 (by decide) (fun c13 => ?_) (fun c13 => ?_)
              · have hf := it_t hf c13
                refine lv_iload hx hb dL_sets_60 (lv_at hl 4 rfl) ?_
                obtain ⟨k15, hk17, hf⟩ := jn_at hf
                have hJ16 : ∀ (x2_14 : Int32), k15 x2_14 = some r → ∀ (H : Heap) (locs : List Loc), va_P g.1 vwCl (cA g qN vN) H → va_D A (cA g qN vN) → va_S A s.heap H locs → ∀ ls : Array Slot, lv_has ls 6 [(0, .int x0), (1, .ref qN), (2, .int x2_14), (3, .int x3_2)] → W p l e (headSpec wsL_sets rmL_sets).room s m ([.int x0, .ref qN] : List Value).toArray below meth c H locs 0 0 (MQ below (qG g A (fun (u : Nat → Nat) => cA g qN vN) (fun (u : Nat → Nat) => (fun _ => some (.int r)) u)) ([.int x0, .ref qN] : List Value).toArray s 0 0 A) (F0 m 77 ls []) := by
                  intro x2_14 hf H locs hP hD hS ls hl
                  rw [hk17] at hf
                  dsimp only at hf
                  clear hk17
                  refine lv_iinc (v := (x3_2 + (1 : Int32))) (lv' := [(3, .int (x3_2 + (1 : Int32))), (0, .int x0), (1, .ref qN), (2, .int x2_14)]) hx hb dL_sets_77 hl (k := 3) rfl rfl (by decide) rfl (fun ls hl => ?_)
                  refine lv_goto (tgt := 4) hx hb dL_sets_80 (by decide) ?_
                  exact ih5 x2_14 (x3_2 + (1 : Int32)) hf H locs hP hD hS _ (lv_sub hl [1, 2, 3, 0] rfl)
                refine lv_if_eq (tgt := 77) hx hb dL_sets_62 (by decide) (fun c18 => ?_) (fun c18 => ?_)
                · have hf := it_t hf c18
                  exact hJ16 x2_1 hf H locs hP hD hS _ (lv_sub hl [0, 1, 2, 3] rfl)
                · have hf := it_f hf c18
                  refine lv_iload_n hx hb dL_sets_65 rfl (lv_at hl 2 rfl) ?_
                  refine lv_iconst (v := (1 : Int32)) hx hb dL_sets_66 (by decide) ?_
                  refine lv_iload_n hx hb dL_sets_67 rfl (lv_at hl 0 rfl) ?_
                  refine lv_aload_n hx hb dL_sets_68 rfl (lv_at hl 1 rfl) ?_
                  refine va_alen (D := g.1) (v := (nI (vN.1 9).toNatClampNeg)) (ty := .int) hx hb hK hP 0 0 rfl rfl rfl dL_sets_69 ?_
                  refine lv_iload_n hx hb dL_sets_70 rfl (lv_at hl 3 rfl) ?_
                  obtain ⟨r19, hg20, hf⟩ := o1_at hf
                  have hpm : (cA g qN vN).Perm ((([] : va_W)) ++ (cA g qN vN)) := (kpc (fun P => by first | omega | (simp only [List.countP_append, List.countP_nil] <;> omega)))
                  refine k_G (wc := ([] : va_W)) (wr := cA g qN vN) (w1 := fun (u : Nat → Nat) => ([] : va_W)) (rv := fun (u : Nat → Nat) => (fun _ => some (.int r19)) u) hP hD hS hA hpm (va_runS (As := [.int x0, .int (nI (vN.1 9).toNatClampNeg), .int x3_2]) (rest := [.int (1 : Int32), .int x2_1]) ⟨hx, hb, hml, hown, htu⟩ ((c_L_plain l g x0 (nI (vN.1 9).toNatClampNeg) x3_2 r19 hg20) H.size) (va_cwS 3 htu (gU_S mw_3_130 hcL_plain) rfl rfl rfl hdL_plain ⟨Nat.le_of_ble_eq_true rfl, Nat.le_of_ble_eq_true rfl⟩) (k_preS hK hP hD hS hA hG hpm) rfl rfl hl.1 rfl (lv_room (Nat.le_of_ble_eq_true rfl)) dL_sets_71 ⟨Nat.zero_le _, Nat.zero_le _⟩) hQ_G (fun u22 H locs hP hD hS => ?_)
                  refine W.eq (g2 := F0 m 74 ls [.int r19, .int (1 : Int32), .int x2_1]) rfl ?_
                  have hP : va_P g.1 vwCl ((([] : va_W)) ++ (cA g qN vN)) H := hP
                  have hD : va_D A ((([] : va_W)) ++ (cA g qN vN)) := hD
                  have hP : va_P g.1 vwCl (cA g qN vN) H := hP.perm (kpc (fun P => by first | omega | (simp only [List.countP_append, List.countP_nil] <;> omega)))
                  have hD : va_D A (cA g qN vN) := hD.perm (kpc (fun P => by first | omega | (simp only [List.countP_append, List.countP_nil] <;> omega)))
                  refine lv_ishl hx hb dL_sets_74 ?_
                  refine lv_ior hx hb dL_sets_75 ?_
                  refine lv_istore_n (lv' := [(2, .int (x2_1 ||| ((1 : Int32) <<< (r19 &&& 31)))), (0, .int x0), (1, .ref qN), (3, .int x3_2), (4, .int x4_8), (5, .int x5_9)]) hx hb dL_sets_76 rfl hl (by decide) rfl (fun ls hl => ?_)
                  exact hJ16 (x2_1 ||| ((1 : Int32) <<< (r19 &&& 31))) hf H locs hP hD hS _ (lv_sub hl [1, 2, 0, 3] rfl)
              · have hf := it_f hf c13
                refine lv_iload hx hb dL_sets_25 (lv_at hl 4 rfl) ?_
                obtain ⟨k24, hk26, hf⟩ := jn_at hf
                have hJ25 : ∀ (t23 : Int32), k24 t23 = some r → ∀ (H : Heap) (locs : List Loc), va_P g.1 vwCl (cA g qN vN) H → va_D A (cA g qN vN) → va_S A s.heap H locs → ∀ ls : Array Slot, lv_has ls 6 [(0, .int x0), (1, .ref qN), (2, .int x2_1), (3, .int x3_2), (5, .int x5_9)] → W p l e (headSpec wsL_sets rmL_sets).room s m ([.int x0, .ref qN] : List Value).toArray below meth c H locs 0 0 (MQ below (qG g A (fun (u : Nat → Nat) => cA g qN vN) (fun (u : Nat → Nat) => (fun _ => some (.int r)) u)) ([.int x0, .ref qN] : List Value).toArray s 0 0 A) (F0 m 52 ls [.int t23]) := by
                  intro t23 hf H locs hP hD hS ls hl
                  rw [hk26] at hf
                  dsimp only at hf
                  clear hk26
                  refine lv_istore (lv' := [(4, .int t23), (0, .int x0), (1, .ref qN), (2, .int x2_1), (3, .int x3_2), (5, .int x5_9)]) hx hb dL_sets_52 hl (by decide) rfl (fun ls hl => ?_)
                  refine lv_iinc (v := (x5_9 + (1 : Int32))) (lv' := [(5, .int (x5_9 + (1 : Int32))), (4, .int t23), (0, .int x0), (1, .ref qN), (2, .int x2_1), (3, .int x3_2)]) hx hb dL_sets_54 hl (k := 5) rfl rfl (by decide) rfl (fun ls hl => ?_)
                  refine lv_goto (tgt := 18) hx hb dL_sets_57 (by decide) ?_
                  exact ih12 t23 (x5_9 + (1 : Int32)) hf H locs hP hD hS _ (lv_sub hl [2, 3, 4, 5, 1, 0] rfl)
                obtain ⟨k27, hk29, hf⟩ := jn_at hf
                have hJ28 : k27 = some r → ∀ (H : Heap) (locs : List Loc), va_P g.1 vwCl (cA g qN vN) H → va_D A (cA g qN vN) → va_S A s.heap H locs → ∀ ls : Array Slot, lv_has ls 6 [(0, .int x0), (1, .ref qN), (2, .int x2_1), (3, .int x3_2), (5, .int x5_9)] → W p l e (headSpec wsL_sets rmL_sets).room s m ([.int x0, .ref qN] : List Value).toArray below meth c H locs 0 0 (MQ below (qG g A (fun (u : Nat → Nat) => cA g qN vN) (fun (u : Nat → Nat) => (fun _ => some (.int r)) u)) ([.int x0, .ref qN] : List Value).toArray s 0 0 A) (F0 m 51 ls []) := by
                  intro hf H locs hP hD hS ls hl
                  rw [hk29] at hf
                  clear hk29
                  refine lv_iconst (v := (0 : Int32)) hx hb dL_sets_51 (by decide) ?_
                  exact hJ25 (0 : Int32) hf H locs hP hD hS _ (lv_sub hl [0, 1, 2, 3, 4] rfl)
                refine lv_if_eq (tgt := 51) hx hb dL_sets_27 (by decide) (fun c30 => ?_) (fun c30 => ?_)
                · have hf := it_t hf c30
                  exact hJ28 hf H locs hP hD hS _ (lv_sub hl [0, 1, 2, 3, 5] rfl)
                · have hf := it_f hf c30
                  refine lv_aload_n hx hb dL_sets_30 rfl (lv_at hl 1 rfl) ?_
                  refine lv_iload hx hb dL_sets_31 (lv_at hl 5 rfl) ?_
                  obtain ⟨h31, hf⟩ := gd_in hf
                  refine va_iald (D := g.1) (f := (vN.2.1 0)) hx hb hK hP 0 0 rfl rfl h31 dL_sets_33 ?_
                  refine lv_iload_n hx hb dL_sets_34 rfl (lv_at hl 3 rfl) ?_
                  refine lv_iload hx hb dL_sets_35 (lv_at hl 5 rfl) ?_
                  refine lv_ishr hx hb dL_sets_37 ?_
                  refine lv_iconst (v := (1 : Int32)) hx hb dL_sets_38 (by decide) ?_
                  refine lv_iand hx hb dL_sets_39 ?_
                  refine lv_ishr hx hb dL_sets_40 ?_
                  refine lv_iconst (v := (1 : Int32)) hx hb dL_sets_41 (by decide) ?_
                  refine lv_iand hx hb dL_sets_42 ?_
                  refine lv_iconst (v := (1 : Int32)) hx hb dL_sets_43 (by decide) ?_
                  refine lv_icmp_ne (tgt := 51) hx hb dL_sets_44 (by decide) (fun c32 => ?_) (fun c32 => ?_)
                  · have hf := it_f hf c32
                    exact hJ28 hf H locs hP hD hS _ (lv_sub hl [0, 1, 2, 3, 5] rfl)
                  · have hf := it_t hf c32
                    refine lv_iconst (v := (1 : Int32)) hx hb dL_sets_47 (by decide) ?_
                    refine lv_goto (tgt := 52) hx hb dL_sets_48 (by decide) ?_
                    exact hJ25 (1 : Int32) hf H locs hP hD hS _ (lv_sub hl [0, 1, 2, 3, 5] rfl)
          exact hL11 (1 : Int32) (0 : Int32) hf H locs hP hD hS _ (lv_sub hl [2, 3, 4, 5, 1, 0] rfl)
    exact hL4 (0 : Int32) (0 : Int32) hf H locs hP hD hS _ (lv_sub hl [2, 3, 1, 0] rfl)
  rw [hH, hlo] at hW
  exact hW
