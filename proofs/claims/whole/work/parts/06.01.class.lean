def f_X7_smallestCover_B (self0 : Vs → Int32 → Int64 → Int32 → Option (Int32)) (vF : Vs) (x2 : Int32) (x3 : Int64) (x5 : Int32) : Option (Int32) :=
  if (lg_cmp x3 (0 : Int64)) = 0 then some ((0 : Int32)) else jn (some ((-1 : Int32))) (fun k2 => if x2 < 0 then k2 else if (16 : Int32) ≤ x2 then k2 else if x5 ≤ 0 then k2 else gd (inb x2 16) (if (lg_cmp (x3 &&& ((vF.2.2 10 (x2).toNatClampNeg) ^^^ (-1 : Int64))) (0 : Int64)) = 0 then o1 (self0 vF (x2 - (1 : Int32)) x3 x5) (fun (r11 : Int32) => jn (some (r11)) (fun k13 => if 0 ≤ r11 then k13 else gd (inb x2 16) (if (lg_cmp (x3 &&& (vF.2.2 9 (x2).toNatClampNeg)) (0 : Int64)) = 0 then k13 else gd (inb x2 16) (o1 (self0 vF (x2 - (1 : Int32)) (x3 &&& ((vF.2.2 9 (x2).toNatClampNeg) ^^^ (-1 : Int64))) (x5 - (1 : Int32))) (fun (r21 : Int32) => jn (fun (t23 : Int32) => some (t23)) (fun k24 => if 0 ≤ r21 then k24 (r21 ||| ((1 : Int32) <<< (x2 &&& 31))) else k24 (-1 : Int32))))))) else k2))
def f_X7_smallestCover (vF : Vs) (x2 : Int32) (x3 : Int64) (x5 : Int32) : Option (Int32) := lp f_X7_smallestCover_B (fun _ _ _ _ => none) 20 vF x2 x3 x5
abbrev wsX7_smallestCover : List Cond := .code yX7_smallestCover cX7_smallestCover 8 (some .int) :: UW
abbrev rrX7_smallestCover (n : Nat) : Room := { frames := n, cells := 0, slots := 0, locals := 27 * n }
abbrev rmX7_smallestCover : Room := { frames := 20, cells := 0, slots := 0, locals := 540 }
set_option maxHeartbeats 4000000 in
set_option maxRecDepth 100000 in
theorem c_X7_smallestCover_r (l : Launch) (g : Gx) : ∀ (n0 : Nat) (bF : Nat → Nat) (qF0 : Nat) (qF1 : Nat) (qF2 : Nat) (qF3 : Nat) (qF4 : Nat) (vF : Vs) (x2 : Int32) (x3 : Int64) (x5 : Int32) (r : Int32) (hf : lp f_X7_smallestCover_B (fun _ _ _ _ => none) n0 vF x2 x3 x5 = some r), CtI l yX7_smallestCover wsX7_smallestCover (rrX7_smallestCover n0) g [.ref (bF 10), .ref (bF 11), .int x2, .long x3, .int x5] (cF g bF qF0 qF1 qF2 qF3 qF4 vF) (cF g bF qF0 qF1 qF2 qF3 qF4 vF) r 0 0 := by
  intro n0
  induction n0 with
  | zero => intro bF qF0 qF1 qF2 qF3 qF4 vF x2 x3 x5 r hf; cases hf
  | succ n0 ih =>
  intro bF qF0 qF1 qF2 qF3 qF4 vF x2 x3 x5 r hf
  have hf : f_X7_smallestCover_B (lp f_X7_smallestCover_B (fun _ _ _ _ => none) n0) vF x2 x3 x5 = some r := hf
  generalize lp f_X7_smallestCover_B (fun _ _ _ _ => none) n0 = self0 at hf ih
  unfold CtI
  intro sz
  refine Met.ofW (cc := cX7_smallestCover) (maxL := 8) (ret := (some .int)) (by decide) rfl ?_
  intro p e s m args below meth c s₁ B hml hv
  obtain ⟨rfl, hsz, hP, hK, hD0, hG⟩ := hv
  have hx := B.exec
  have hb := B.bytes
  have hr := B.returns
  have hts := atoms_spec (ws := wsX7_smallestCover) B.pre
  have hown : s.vm.findClass RX7 = some m.cls := findClass_of_methodNamed B.named
  have hlocks := B.notSynchronized
  subst hsz
  have hD := hD0.self (sz := s.heap.size)
  generalize hAe : va_A (cF g bF qF0 qF1 qF2 qF3 qF4 vF) s.heap.size = A at hD hG ⊢
  have hA : ∀ q : Nat, s.heap.size ≤ q → A q := fun q h => by rw [← hAe]; exact Or.inr h
  clear hAe hD0
  have hS : va_S A s.heap s.heap [] := va_S.rf
  have hl := lv_entry ([.ref (bF 10), .ref (bF 11), .int x2, .long x3, .int x5]) (n := 8) (Nat.le_of_ble_eq_true rfl)
  rw [lg_entry_eq]
  generalize (lg_sl ([.ref (bF 10), .ref (bF 11), .int x2, .long x3, .int x5]) ++ List.replicate (8 - (lg_sl ([.ref (bF 10), .ref (bF 11), .int x2, .long x3, .int x5])).length) Slot.unset).toArray = ls at hl ⊢
  have hl : lv_has ls 8 [(0, .ref (bF 10)), (1, .ref (bF 11)), (2, .int x2), (3, .long x3), (5, .int x5)] := hl
  have htu : ∀ w ∈ UW, w.before _ s = true := fun w h => hts w (List.mem_cons_of_mem _ h)
  have k_2_179 := htu _ mw_2_179
  unfold f_X7_smallestCover_B at hf
  obtain ⟨H, hH⟩ : ∃ z, z = s.heap := ⟨_, rfl⟩
  obtain ⟨locs, hlo⟩ : ∃ z : List Loc, z = [] := ⟨_, rfl⟩
  have hS : va_S A s.heap H locs := by rw [hH, hlo]; exact hS
  rw [← hH] at hP
  have hW : W p l e (headSpec wsX7_smallestCover (rrX7_smallestCover (n0 + 1))).room s m ([.ref (bF 10), .ref (bF 11), .int x2, .long x3, .int x5] : List Value).toArray below meth c H locs 0 0 (MQ below (qI g A (cF g bF qF0 qF1 qF2 qF3 qF4 vF) r) ([.ref (bF 10), .ref (bF 11), .int x2, .long x3, .int x5] : List Value).toArray s 0 0 A) (F0 m 0 ls []) := by
    refine lv_lload_n hx hb dX7_smallestCover_0 rfl (lv_at hl 3 rfl) ?_
    refine lv_lconst (v := (0 : Int64)) hx hb dX7_smallestCover_1 (by decide) ?_
    refine W.lcmp hx hb dX7_smallestCover_2 ?_
    refine lv_if_ne (tgt := 8) hx hb dX7_smallestCover_3 (by decide) (fun c1 => ?_) (fun c1 => ?_)
    · have hf := it_f hf c1
      refine lv_iload_n hx hb dX7_smallestCover_8 rfl (lv_at hl 2 rfl) ?_
      obtain ⟨k2, hk5, hf⟩ := jn_at hf
      have hJ3 : k2 = some r → ∀ (H : Heap) (locs : List Loc), va_P g.1 vwCl (cF g bF qF0 qF1 qF2 qF3 qF4 vF) H → va_D A (cF g bF qF0 qF1 qF2 qF3 qF4 vF) → va_S A s.heap H locs → ∀ ls : Array Slot, lv_has ls 8 [] → W p l e (headSpec wsX7_smallestCover (rrX7_smallestCover (n0 + 1))).room s m ([.ref (bF 10), .ref (bF 11), .int x2, .long x3, .int x5] : List Value).toArray below meth c H locs 0 0 (MQ below (qI g A (cF g bF qF0 qF1 qF2 qF3 qF4 vF) r) ([.ref (bF 10), .ref (bF 11), .int x2, .long x3, .int x5] : List Value).toArray s 0 0 A) (F0 m 37 ls []) := by
        intro hf H locs hP hD hS ls hl
        rw [hk5] at hf
        clear hk5
        refine lv_iconst (v := (-1 : Int32)) hx hb dX7_smallestCover_37 (by decide) ?_
        have e4 := Option.some.inj hf
        exact k_iret hx hb hr hlocks hK hP hD hS e4 dX7_smallestCover_38
      refine lv_if_lt (tgt := 37) hx hb dX7_smallestCover_9 (by decide) (fun c6 => ?_) (fun c6 => ?_)
      · have hf := it_t hf c6
        exact hJ3 hf H locs hP hD hS _ (lv_sub hl [] rfl)
      · have hf := it_f hf c6
        refine lv_iload_n hx hb dX7_smallestCover_12 rfl (lv_at hl 2 rfl) ?_
        refine lv_bipush (v := (16 : Int32)) hx hb dX7_smallestCover_13 (by decide) ?_
        refine lv_icmp_ge (tgt := 37) hx hb dX7_smallestCover_15 (by decide) (fun c7 => ?_) (fun c7 => ?_)
        · have hf := it_t hf c7
          exact hJ3 hf H locs hP hD hS _ (lv_sub hl [] rfl)
        · have hf := it_f hf c7
          refine lv_iload hx hb dX7_smallestCover_18 (lv_at hl 4 rfl) ?_
          refine lv_if_le (tgt := 37) hx hb dX7_smallestCover_20 (by decide) (fun c8 => ?_) (fun c8 => ?_)
          · have hf := it_t hf c8
            exact hJ3 hf H locs hP hD hS _ (lv_sub hl [] rfl)
          · have hf := it_f hf c8
            refine lv_lload_n hx hb dX7_smallestCover_23 rfl (lv_at hl 3 rfl) ?_
            refine lv_aload_n hx hb dX7_smallestCover_24 rfl (lv_at hl 1 rfl) ?_
            refine lv_iload_n hx hb dX7_smallestCover_25 rfl (lv_at hl 2 rfl) ?_
            obtain ⟨h9, hf⟩ := gd_in hf
            refine va_lald (D := g.1) (f := (vF.2.2 10)) hx hb hK hP 4 1 rfl rfl h9 dX7_smallestCover_26 ?_
            refine lv_ldc2 (v := (-1 : Int64)) hx hb hown k_2_179 dX7_smallestCover_27 ?_
            refine lv_lxor hx hb dX7_smallestCover_30 ?_
            refine lv_land hx hb dX7_smallestCover_31 ?_
            refine lv_lconst (v := (0 : Int64)) hx hb dX7_smallestCover_32 (by decide) ?_
            refine W.lcmp hx hb dX7_smallestCover_33 ?_
            refine lv_if_eq (tgt := 39) hx hb dX7_smallestCover_34 (by decide) (fun c10 => ?_) (fun c10 => ?_)
            · have hf := it_t hf c10
              refine lv_aload_n hx hb dX7_smallestCover_39 rfl (lv_at hl 0 rfl) ?_
              refine lv_aload_n hx hb dX7_smallestCover_40 rfl (lv_at hl 1 rfl) ?_
              refine lv_iload_n hx hb dX7_smallestCover_41 rfl (lv_at hl 2 rfl) ?_
              refine lv_iconst (v := (1 : Int32)) hx hb dX7_smallestCover_42 (by decide) ?_
              refine lv_isub hx hb dX7_smallestCover_43 ?_
              refine lv_lload_n hx hb dX7_smallestCover_44 rfl (lv_at hl 3 rfl) ?_
              refine lv_iload hx hb dX7_smallestCover_45 (lv_at hl 4 rfl) ?_
              obtain ⟨r11, hg12, hf⟩ := o1_at hf
              refine k_siW ⟨hx, hb, hml, hown, htu⟩ hK hP hD hS hA hG (ih bF qF0 qF1 qF2 qF3 qF4 vF (x2 - (1 : Int32)) x3 x5 r11 hg12) (va_cwS 5 htu (gU_S mw_2_176 hcX7_smallestCover) rfl rfl rfl hdX7_smallestCover ⟨Nat.le_refl _, by show 8 + (8 + 11) + 27 * n0 ≤ 27 * (n0 + 1); omega⟩) (As := [.ref (bF 10), .ref (bF 11), .int (x2 - (1 : Int32)), .long x3, .int x5]) (rest := []) rfl rfl hl.1 (Nat.le_of_ble_eq_true rfl) dX7_smallestCover_47 (k1 := 0) (n1 := 0) rfl rfl ⟨Nat.zero_le _, Nat.zero_le _⟩ (fun H locs hP hD hS => ?_)
              refine lv_istore (lv' := [(6, .int r11), (0, .ref (bF 10)), (1, .ref (bF 11)), (2, .int x2), (3, .long x3), (5, .int x5)]) hx hb dX7_smallestCover_50 hl (by decide) rfl (fun ls hl => ?_)
              refine lv_iload hx hb dX7_smallestCover_52 (lv_at hl 0 rfl) ?_
              obtain ⟨k13, hk16, hf⟩ := jn_at hf
              have hJ14 : k13 = some r → ∀ (H : Heap) (locs : List Loc), va_P g.1 vwCl (cF g bF qF0 qF1 qF2 qF3 qF4 vF) H → va_D A (cF g bF qF0 qF1 qF2 qF3 qF4 vF) → va_S A s.heap H locs → ∀ ls : Array Slot, lv_has ls 8 [(6, .int r11)] → W p l e (headSpec wsX7_smallestCover (rrX7_smallestCover (n0 + 1))).room s m ([.ref (bF 10), .ref (bF 11), .int x2, .long x3, .int x5] : List Value).toArray below meth c H locs 0 0 (MQ below (qI g A (cF g bF qF0 qF1 qF2 qF3 qF4 vF) r) ([.ref (bF 10), .ref (bF 11), .int x2, .long x3, .int x5] : List Value).toArray s 0 0 A) (F0 m 67 ls []) := by
                intro hf H locs hP hD hS ls hl
                rw [hk16] at hf
                clear hk16
                refine lv_iload hx hb dX7_smallestCover_67 (lv_at hl 0 rfl) ?_
                have e15 := Option.some.inj hf
                exact k_iret hx hb hr hlocks hK hP hD hS e15 dX7_smallestCover_69
              refine lv_if_ge (tgt := 67) hx hb dX7_smallestCover_54 (by decide) (fun c17 => ?_) (fun c17 => ?_)
              · have hf := it_t hf c17
                exact hJ14 hf H locs hP hD hS _ (lv_sub hl [0] rfl)
              · have hf := it_f hf c17
                refine lv_lload_n hx hb dX7_smallestCover_57 rfl (lv_at hl 4 rfl) ?_
                refine lv_aload_n hx hb dX7_smallestCover_58 rfl (lv_at hl 1 rfl) ?_
                refine lv_iload_n hx hb dX7_smallestCover_59 rfl (lv_at hl 3 rfl) ?_
                obtain ⟨h18, hf⟩ := gd_in hf
                refine va_lald (D := g.1) (f := (vF.2.2 9)) hx hb hK hP 3 1 rfl rfl h18 dX7_smallestCover_60 ?_
                refine lv_land hx hb dX7_smallestCover_61 ?_
                refine lv_lconst (v := (0 : Int64)) hx hb dX7_smallestCover_62 (by decide) ?_
                refine W.lcmp hx hb dX7_smallestCover_63 ?_
                refine lv_if_ne (tgt := 70) hx hb dX7_smallestCover_64 (by decide) (fun c19 => ?_) (fun c19 => ?_)
                · have hf := it_f hf c19
                  refine lv_aload_n hx hb dX7_smallestCover_70 rfl (lv_at hl 1 rfl) ?_
                  refine lv_aload_n hx hb dX7_smallestCover_71 rfl (lv_at hl 2 rfl) ?_
                  refine lv_iload_n hx hb dX7_smallestCover_72 rfl (lv_at hl 3 rfl) ?_
                  refine lv_iconst (v := (1 : Int32)) hx hb dX7_smallestCover_73 (by decide) ?_
                  refine lv_isub hx hb dX7_smallestCover_74 ?_
                  refine lv_lload_n hx hb dX7_smallestCover_75 rfl (lv_at hl 4 rfl) ?_
                  refine lv_aload_n hx hb dX7_smallestCover_76 rfl (lv_at hl 1 rfl) ?_
                  refine lv_iload_n hx hb dX7_smallestCover_77 rfl (lv_at hl 3 rfl) ?_
                  obtain ⟨h20, hf⟩ := gd_in hf
                  refine va_lald (D := g.1) (f := (vF.2.2 9)) hx hb hK hP 3 1 rfl rfl h20 dX7_smallestCover_78 ?_
                  refine lv_ldc2 (v := (-1 : Int64)) hx hb hown k_2_179 dX7_smallestCover_79 ?_
                  refine lv_lxor hx hb dX7_smallestCover_82 ?_
                  refine lv_land hx hb dX7_smallestCover_83 ?_
                  refine lv_iload hx hb dX7_smallestCover_84 (lv_at hl 5 rfl) ?_
                  refine lv_iconst (v := (1 : Int32)) hx hb dX7_smallestCover_86 (by decide) ?_
                  refine lv_isub hx hb dX7_smallestCover_87 ?_
                  obtain ⟨r21, hg22, hf⟩ := o1_at hf
                  refine k_siW ⟨hx, hb, hml, hown, htu⟩ hK hP hD hS hA hG (ih bF qF0 qF1 qF2 qF3 qF4 vF (x2 - (1 : Int32)) (x3 &&& ((vF.2.2 9 (x2).toNatClampNeg) ^^^ (-1 : Int64))) (x5 - (1 : Int32)) r21 hg22) (va_cwS 5 htu (gU_S mw_2_176 hcX7_smallestCover) rfl rfl rfl hdX7_smallestCover ⟨Nat.le_refl _, by show 8 + (8 + 11) + 27 * n0 ≤ 27 * (n0 + 1); omega⟩) (As := [.ref (bF 10), .ref (bF 11), .int (x2 - (1 : Int32)), .long (x3 &&& ((vF.2.2 9 (x2).toNatClampNeg) ^^^ (-1 : Int64))), .int (x5 - (1 : Int32))]) (rest := []) rfl rfl hl.1 (Nat.le_of_ble_eq_true rfl) dX7_smallestCover_88 (k1 := 0) (n1 := 0) rfl rfl ⟨Nat.zero_le _, Nat.zero_le _⟩ (fun H locs hP hD hS => ?_)
                  refine lv_istore (lv' := [(7, .int r21), (6, .int r11), (0, .ref (bF 10)), (1, .ref (bF 11)), (2, .int x2), (3, .long x3), (5, .int x5)]) hx hb dX7_smallestCover_91 hl (by decide) rfl (fun ls hl => ?_)
                  refine lv_iload hx hb dX7_smallestCover_93 (lv_at hl 0 rfl) ?_
                  obtain ⟨k24, hk27, hf⟩ := jn_at hf
                  have hJ25 : ∀ (t23 : Int32), k24 t23 = some r → ∀ (H : Heap) (locs : List Loc), va_P g.1 vwCl (cF g bF qF0 qF1 qF2 qF3 qF4 vF) H → va_D A (cF g bF qF0 qF1 qF2 qF3 qF4 vF) → va_S A s.heap H locs → ∀ ls : Array Slot, lv_has ls 8 [] → W p l e (headSpec wsX7_smallestCover (rrX7_smallestCover (n0 + 1))).room s m ([.ref (bF 10), .ref (bF 11), .int x2, .long x3, .int x5] : List Value).toArray below meth c H locs 0 0 (MQ below (qI g A (cF g bF qF0 qF1 qF2 qF3 qF4 vF) r) ([.ref (bF 10), .ref (bF 11), .int x2, .long x3, .int x5] : List Value).toArray s 0 0 A) (F0 m 108 ls [.int t23]) := by
                    intro t23 hf H locs hP hD hS ls hl
                    rw [hk27] at hf
                    dsimp only at hf
                    clear hk27
                    have e26 := Option.some.inj hf
                    exact k_iret hx hb hr hlocks hK hP hD hS e26 dX7_smallestCover_108
                  refine lv_if_ge (tgt := 102) hx hb dX7_smallestCover_95 (by decide) (fun c28 => ?_) (fun c28 => ?_)
                  · have hf := it_t hf c28
                    refine lv_iload hx hb dX7_smallestCover_102 (lv_at hl 0 rfl) ?_
                    refine lv_iconst (v := (1 : Int32)) hx hb dX7_smallestCover_104 (by decide) ?_
                    refine lv_iload_n hx hb dX7_smallestCover_105 rfl (lv_at hl 4 rfl) ?_
                    refine lv_ishl hx hb dX7_smallestCover_106 ?_
                    refine lv_ior hx hb dX7_smallestCover_107 ?_
                    exact hJ25 (r21 ||| ((1 : Int32) <<< (x2 &&& 31))) hf H locs hP hD hS _ (lv_sub hl [] rfl)
                  · have hf := it_f hf c28
                    refine lv_iconst (v := (-1 : Int32)) hx hb dX7_smallestCover_98 (by decide) ?_
                    refine lv_goto (tgt := 108) hx hb dX7_smallestCover_99 (by decide) ?_
                    exact hJ25 (-1 : Int32) hf H locs hP hD hS _ (lv_sub hl [] rfl)
                · have hf := it_t hf c19
                  exact hJ14 hf H locs hP hD hS _ (lv_sub hl [0] rfl)
            · have hf := it_f hf c10
              exact hJ3 hf H locs hP hD hS _ (lv_sub hl [] rfl)
    · have hf := it_t hf c1
      refine lv_iconst (v := (0 : Int32)) hx hb dX7_smallestCover_6 (by decide) ?_
      have e29 := Option.some.inj hf
      exact k_iret hx hb hr hlocks hK hP hD hS e29 dX7_smallestCover_7
  rw [hH, hlo] at hW
  exact hW
theorem c_X7_smallestCover (l : Launch) (g : Gx) (bF : Nat → Nat) (qF0 : Nat) (qF1 : Nat) (qF2 : Nat) (qF3 : Nat) (qF4 : Nat) (vF : Vs) (x2 : Int32) (x3 : Int64) (x5 : Int32) (r : Int32) (hf : f_X7_smallestCover vF x2 x3 x5 = some r) : CtI l yX7_smallestCover wsX7_smallestCover rmX7_smallestCover g [.ref (bF 10), .ref (bF 11), .int x2, .long x3, .int x5] (cF g bF qF0 qF1 qF2 qF3 qF4 vF) (cF g bF qF0 qF1 qF2 qF3 qF4 vF) r 0 0 := c_X7_smallestCover_r l g 20 bF qF0 qF1 qF2 qF3 qF4 vF x2 x3 x5 r hf
def f_X7_leastSet_L58 (vT : Vs) (r1 : Int64) (vRT_3 : Vs) (vG_4 : Vs) (vB_5 : Vs) (vF_9 : Vs) (self15 : Int32 → Option (Int32 × Vs × Vs × Vs × Vs)) (x6_14 : Int32) : Option (Int32 × Vs × Vs × Vs × Vs) :=
  if (vT.1 0) < x6_14 then some ((0 : Int32), vF_9, vRT_3, vG_4, vB_5) else o1 (f_X7_smallestCover vF_9 ((vT.1 0) - (1 : Int32)) r1 x6_14) (fun (r24 : Int32) => if r24 < 0 then self15 (x6_14 + (1 : Int32)) else some (r24, vF_9, vRT_3, vG_4, vB_5))
def f_X7_leastSet_L22 (vT : Vs) (r1 : Int64) (vRT_3 : Vs) (vG_4 : Vs) (vB_5 : Vs) (self10 : Int64 → Int32 → Vs → Option (Int32 × Vs × Vs × Vs × Vs)) (x4_7 : Int64) (x6_8 : Int32) (vF_9 : Vs) : Option (Int32 × Vs × Vs × Vs × Vs) :=
  if (vT.1 0) ≤ x6_8 then lp (f_X7_leastSet_L58 vT r1 vRT_3 vG_4 vB_5 vF_9) (fun _ => none) FU (0 : Int32) else gd (inb x6_8 16) (gd (inb x6_8 16) (bn (sJ vF_9 10 (x6_8).toNatClampNeg (x4_7 ||| (vF_9.2.2 9 (x6_8).toNatClampNeg))) (fun (vF_34 : Vs) => self10 (x4_7 ||| (vF_9.2.2 9 (x6_8).toNatClampNeg)) (x6_8 + (1 : Int32)) vF_34)))
def f_X7_leastSet (vF : Vs) (vC : Vs) (vT : Vs) (nRT : Nat) (vRT : Vs) (vG : Vs) (vB : Vs) : Option (Int32 × Vs × Vs × Vs × Vs) :=
  o5 (f_X7_listFoundByTests vF vC vT nRT vRT vG vB) (fun (r1 : Int64) (vF_2 : Vs) (vRT_3 : Vs) (vG_4 : Vs) (vB_5 : Vs) => lp (f_X7_leastSet_L22 vT r1 vRT_3 vG_4 vB_5) (fun _ _ _ => none) FU (0 : Int64) (0 : Int32) vF_2)
abbrev wsX7_leastSet : List Cond := .code yX7_leastSet cX7_leastSet 8 (some .int) :: UW
abbrev rmX7_leastSet : Room := { frames := 21, cells := 0, slots := 0, locals := 567 }
set_option maxHeartbeats 4000000 in
set_option maxRecDepth 100000 in
theorem c_X7_leastSet (l : Launch) (g : Gx) (bF : Nat → Nat) (qF0 : Nat) (qF2 : Nat) (qF3 : Nat) (vF : Vs) (bS : Nat → Nat) (bC : Nat → Nat) (vC : Vs) (bT : Nat → Nat) (vT : Vs) (bRT : Nat → Nat) (nRT : Nat) (vRT : Vs) (bG : Nat → Nat) (vG : Vs) (bB : Nat → Nat) (vB : Vs) (r : Int32) (vF1 : Vs) (vRT1 : Vs) (vG1 : Vs) (vB1 : Vs) (hf : f_X7_leastSet vF vC vT nRT vRT vG vB = some (r, vF1, vRT1, vG1, vB1)) : CtI l yX7_leastSet wsX7_leastSet rmX7_leastSet g [.ref (bF 0)] (cF g bF qF0 (bS 0) qF2 qF3 (bRT 0) vF ++ (cS g bS (bC 0) (bT 0) ++ (cC g bC vC ++ (cT g bT vT ++ (cR g bRT nRT (bG 0) (bB 0) vRT ++ (cL g bG vG ++ (cL g bB vB))))))) (cF g bF qF0 (bS 0) qF2 qF3 (bRT 0) vF1 ++ (cS g bS (bC 0) (bT 0) ++ (cC g bC vC ++ (cT g bT vT ++ (cR g bRT nRT (bG 0) (bB 0) vRT1 ++ (cL g bG vG1 ++ (cL g bB vB1))))))) r 0 0 := by
  unfold CtI
  intro sz
  refine Met.ofW (cc := cX7_leastSet) (maxL := 8) (ret := (some .int)) (by decide) rfl ?_
  intro p e s m args below meth c s₁ B hml hv
  obtain ⟨rfl, hsz, hP, hK, hD0, hG⟩ := hv
  have hx := B.exec
  have hb := B.bytes
  have hr := B.returns
  have hts := atoms_spec (ws := wsX7_leastSet) B.pre
  have hown : s.vm.findClass RX7 = some m.cls := findClass_of_methodNamed B.named
  have hlocks := B.notSynchronized
  subst hsz
  have hD := hD0.self (sz := s.heap.size)
  generalize hAe : va_A (cF g bF qF0 (bS 0) qF2 qF3 (bRT 0) vF ++ (cS g bS (bC 0) (bT 0) ++ (cC g bC vC ++ (cT g bT vT ++ (cR g bRT nRT (bG 0) (bB 0) vRT ++ (cL g bG vG ++ (cL g bB vB))))))) s.heap.size = A at hD hG ⊢
  have hA : ∀ q : Nat, s.heap.size ≤ q → A q := fun q h => by rw [← hAe]; exact Or.inr h
  clear hAe hD0
  have hS : va_S A s.heap s.heap [] := va_S.rf
  have hl := lv_entry ([.ref (bF 0)]) (n := 8) (Nat.le_of_ble_eq_true rfl)
  rw [lg_entry_eq]
  generalize (lg_sl ([.ref (bF 0)]) ++ List.replicate (8 - (lg_sl ([.ref (bF 0)])).length) Slot.unset).toArray = ls at hl ⊢
  have hl : lv_has ls 8 [(0, .ref (bF 0))] := hl
  have htu : ∀ w ∈ UW, w.before _ s = true := fun w h => hts w (List.mem_cons_of_mem _ h)
  have k_2_19 := htu _ mw_2_19
  have k_1_153 := htu _ mw_1_153
  have k_1_129 := htu _ mw_1_129
  have k_2_27 := htu _ mw_2_27
  have k_2_28 := htu _ mw_2_28
  unfold f_X7_leastSet at hf
  obtain ⟨H, hH⟩ : ∃ z, z = s.heap := ⟨_, rfl⟩
  obtain ⟨locs, hlo⟩ : ∃ z : List Loc, z = [] := ⟨_, rfl⟩
  have hS : va_S A s.heap H locs := by rw [hH, hlo]; exact hS
  rw [← hH] at hP
  have hW : W p l e (headSpec wsX7_leastSet rmX7_leastSet).room s m ([.ref (bF 0)] : List Value).toArray below meth c H locs 0 0 (MQ below (qI g A (cF g bF qF0 (bS 0) qF2 qF3 (bRT 0) vF1 ++ (cS g bS (bC 0) (bT 0) ++ (cC g bC vC ++ (cT g bT vT ++ (cR g bRT nRT (bG 0) (bB 0) vRT1 ++ (cL g bG vG1 ++ (cL g bB vB1))))))) r) ([.ref (bF 0)] : List Value).toArray s 0 0 A) (F0 m 0 ls []) := by
    refine lv_aload_n hx hb dX7_leastSet_0 rfl (lv_at hl 0 rfl) ?_
    obtain ⟨r1, vF_2, vRT_3, vG_4, vB_5, hg6, hf⟩ := o5_at hf
    refine k_vlW ⟨hx, hb, hml, hown, htu⟩ hK hP hD hS hA hG (c_X7_listFoundByTests l g bF qF0 qF2 qF3 vF bS bC vC bT vT bRT nRT vRT bG vG bB vB r1 vF_2 vRT_3 vG_4 vB_5 hg6) (cwV 0 htu (gU_V mw_2_153 hcX7_listFoundByTests) rfl rfl rfl hdX7_listFoundByTests ⟨Nat.le_of_ble_eq_true rfl, Nat.le_of_ble_eq_true rfl⟩) (q0 := 0) (ci := 7) (fs := fcF bF qF0 (bS 0) qF2 qF3 (bRT 0) vF) (q := (RX7, TX7, 12)) rfl rfl rfl (As := []) (rest := []) rfl rfl hl.1 (Nat.le_of_ble_eq_true rfl) dX7_leastSet_1 (k1 := 0) (n1 := 0) rfl rfl ⟨Nat.zero_le _, Nat.zero_le _⟩ (fun H locs hP hD hS => ?_)
    refine lv_lstore_n (lv' := [(1, .long r1), (0, .ref (bF 0))]) hx hb dX7_leastSet_4 rfl hl (by decide) rfl (fun ls hl => ?_)
    refine lv_aload_n hx hb dX7_leastSet_5 rfl (lv_at hl 1 rfl) ?_
    refine va_get (D := g.1) (ci := 7) (fs := fcF bF qF0 (bS 0) qF2 qF3 (bRT 0) vF_2) (v := .ref (bS 0)) (C := RX7) (T := TX7) (N := 12) hx hb htu hinX7 hown hK hP 0 rfl rfl 1 (by decide) k_2_19 (fun _ h9 => h9) rfl dX7_leastSet_6 ?_
    refine va_get (D := g.1) (ci := 4) (fs := fcS bS (bC 0) (bT 0)) (v := .ref (bT 0)) (C := RX4) (T := TX4) (N := 2) hx hb htu hinX4 hown hK hP 6 rfl rfl 1 (by decide) k_1_153 (fun _ h9 => h9) rfl dX7_leastSet_9 ?_
    refine va_get (D := g.1) (ci := 6) (fs := fcT bT vT) (v := .int (vT.1 0)) (C := RX6) (T := TX6) (N := 5) hx hb htu hinX6 hown hK hP 18 rfl rfl 0 (by decide) k_1_129 (fun _ h9 => h9) rfl dX7_leastSet_12 ?_
    refine lv_istore_n (lv' := [(3, .int (vT.1 0)), (1, .long r1), (0, .ref (bF 0))]) hx hb dX7_leastSet_15 rfl hl (by decide) rfl (fun ls hl => ?_)
    refine lv_lconst (v := (0 : Int64)) hx hb dX7_leastSet_16 (by decide) ?_
    refine lv_lstore (lv' := [(4, .long (0 : Int64)), (3, .int (vT.1 0)), (1, .long r1), (0, .ref (bF 0))]) hx hb dX7_leastSet_17 hl (by decide) rfl (fun ls hl => ?_)
    refine lv_iconst (v := (0 : Int32)) hx hb dX7_leastSet_19 (by decide) ?_
    refine lv_istore (lv' := [(6, .int (0 : Int32)), (4, .long (0 : Int64)), (3, .int (vT.1 0)), (1, .long r1), (0, .ref (bF 0))]) hx hb dX7_leastSet_20 hl (by decide) rfl (fun ls hl => ?_)
    have hL11 : ∀ (x4_7 : Int64) (x6_8 : Int32) (vF_9 : Vs), lp (f_X7_leastSet_L22 vT r1 vRT_3 vG_4 vB_5) (fun _ _ _ => none) FU x4_7 x6_8 vF_9 = some (r, vF1, vRT1, vG1, vB1) → ∀ (H : Heap) (locs : List Loc), va_P g.1 vwCl (cF g bF qF0 (bS 0) qF2 qF3 (bRT 0) vF_9 ++ (cS g bS (bC 0) (bT 0) ++ (cC g bC vC ++ (cT g bT vT ++ (cR g bRT nRT (bG 0) (bB 0) vRT_3 ++ (cL g bG vG_4 ++ (cL g bB vB_5))))))) H → va_D A (cF g bF qF0 (bS 0) qF2 qF3 (bRT 0) vF_9 ++ (cS g bS (bC 0) (bT 0) ++ (cC g bC vC ++ (cT g bT vT ++ (cR g bRT nRT (bG 0) (bB 0) vRT_3 ++ (cL g bG vG_4 ++ (cL g bB vB_5))))))) → va_S A s.heap H locs → ∀ ls : Array Slot, lv_has ls 8 [(0, .ref (bF 0)), (1, .long r1), (3, .int (vT.1 0)), (4, .long x4_7), (6, .int x6_8)] → W p l e (headSpec wsX7_leastSet rmX7_leastSet).room s m ([.ref (bF 0)] : List Value).toArray below meth c H locs 0 0 (MQ below (qI g A (cF g bF qF0 (bS 0) qF2 qF3 (bRT 0) vF1 ++ (cS g bS (bC 0) (bT 0) ++ (cC g bC vC ++ (cT g bT vT ++ (cR g bRT nRT (bG 0) (bB 0) vRT1 ++ (cL g bG vG1 ++ (cL g bB vB1))))))) r) ([.ref (bF 0)] : List Value).toArray s 0 0 A) (F0 m 22 ls []) := by
      refine lp_ind (T := Int64 → Int32 → Vs → Option (Int32 × Vs × Vs × Vs × Vs)) (fun self10 => ∀ (x4_7 : Int64) (x6_8 : Int32) (vF_9 : Vs), self10 x4_7 x6_8 vF_9 = some (r, vF1, vRT1, vG1, vB1) → ∀ (H : Heap) (locs : List Loc), va_P g.1 vwCl (cF g bF qF0 (bS 0) qF2 qF3 (bRT 0) vF_9 ++ (cS g bS (bC 0) (bT 0) ++ (cC g bC vC ++ (cT g bT vT ++ (cR g bRT nRT (bG 0) (bB 0) vRT_3 ++ (cL g bG vG_4 ++ (cL g bB vB_5))))))) H → va_D A (cF g bF qF0 (bS 0) qF2 qF3 (bRT 0) vF_9 ++ (cS g bS (bC 0) (bT 0) ++ (cC g bC vC ++ (cT g bT vT ++ (cR g bRT nRT (bG 0) (bB 0) vRT_3 ++ (cL g bG vG_4 ++ (cL g bB vB_5))))))) → va_S A s.heap H locs → ∀ ls : Array Slot, lv_has ls 8 [(0, .ref (bF 0)), (1, .long r1), (3, .int (vT.1 0)), (4, .long x4_7), (6, .int x6_8)] → W p l e (headSpec wsX7_leastSet rmX7_leastSet).room s m ([.ref (bF 0)] : List Value).toArray below meth c H locs 0 0 (MQ below (qI g A (cF g bF qF0 (bS 0) qF2 qF3 (bRT 0) vF1 ++ (cS g bS (bC 0) (bT 0) ++ (cC g bC vC ++ (cT g bT vT ++ (cR g bRT nRT (bG 0) (bB 0) vRT1 ++ (cL g bG vG1 ++ (cL g bB vB1))))))) r) ([.ref (bF 0)] : List Value).toArray s 0 0 A) (F0 m 22 ls [])) ?_ ?_ FU
      · intro x4_7 x6_8 vF_9 hf; cases hf
      · intro self10 ih12 x4_7 x6_8 vF_9 hf H locs hP hD hS ls hl
        unfold f_X7_leastSet_L22 at hf
        refine lv_iload hx hb dX7_leastSet_22 (lv_at hl 4 rfl) ?_
        refine lv_iload_n hx hb dX7_leastSet_24 rfl (lv_at hl 2 rfl) ?_
        refine lv_icmp_ge (tgt := 55) hx hb dX7_leastSet_25 (by decide) (fun c13 => ?_) (fun c13 => ?_)
        · have hf := it_t hf c13
          refine lv_iconst (v := (0 : Int32)) hx hb dX7_leastSet_55 (by decide) ?_
          refine lv_istore (lv' := [(6, .int (0 : Int32)), (0, .ref (bF 0)), (1, .long r1), (3, .int (vT.1 0)), (4, .long x4_7)]) hx hb dX7_leastSet_56 hl (by decide) rfl (fun ls hl => ?_)
          have hL16 : ∀ (x6_14 : Int32), lp (f_X7_leastSet_L58 vT r1 vRT_3 vG_4 vB_5 vF_9) (fun _ => none) FU x6_14 = some (r, vF1, vRT1, vG1, vB1) → ∀ (H : Heap) (locs : List Loc), va_P g.1 vwCl (cF g bF qF0 (bS 0) qF2 qF3 (bRT 0) vF_9 ++ (cS g bS (bC 0) (bT 0) ++ (cC g bC vC ++ (cT g bT vT ++ (cR g bRT nRT (bG 0) (bB 0) vRT_3 ++ (cL g bG vG_4 ++ (cL g bB vB_5))))))) H → va_D A (cF g bF qF0 (bS 0) qF2 qF3 (bRT 0) vF_9 ++ (cS g bS (bC 0) (bT 0) ++ (cC g bC vC ++ (cT g bT vT ++ (cR g bRT nRT (bG 0) (bB 0) vRT_3 ++ (cL g bG vG_4 ++ (cL g bB vB_5))))))) → va_S A s.heap H locs → ∀ ls : Array Slot, lv_has ls 8 [(0, .ref (bF 0)), (1, .long r1), (3, .int (vT.1 0)), (6, .int x6_14)] → W p l e (headSpec wsX7_leastSet rmX7_leastSet).room s m ([.ref (bF 0)] : List Value).toArray below meth c H locs 0 0 (MQ below (qI g A (cF g bF qF0 (bS 0) qF2 qF3 (bRT 0) vF1 ++ (cS g bS (bC 0) (bT 0) ++ (cC g bC vC ++ (cT g bT vT ++ (cR g bRT nRT (bG 0) (bB 0) vRT1 ++ (cL g bG vG1 ++ (cL g bB vB1))))))) r) ([.ref (bF 0)] : List Value).toArray s 0 0 A) (F0 m 58 ls []) := by
            refine lp_ind (T := Int32 → Option (Int32 × Vs × Vs × Vs × Vs)) (fun self15 => ∀ (x6_14 : Int32), self15 x6_14 = some (r, vF1, vRT1, vG1, vB1) → ∀ (H : Heap) (locs : List Loc), va_P g.1 vwCl (cF g bF qF0 (bS 0) qF2 qF3 (bRT 0) vF_9 ++ (cS g bS (bC 0) (bT 0) ++ (cC g bC vC ++ (cT g bT vT ++ (cR g bRT nRT (bG 0) (bB 0) vRT_3 ++ (cL g bG vG_4 ++ (cL g bB vB_5))))))) H → va_D A (cF g bF qF0 (bS 0) qF2 qF3 (bRT 0) vF_9 ++ (cS g bS (bC 0) (bT 0) ++ (cC g bC vC ++ (cT g bT vT ++ (cR g bRT nRT (bG 0) (bB 0) vRT_3 ++ (cL g bG vG_4 ++ (cL g bB vB_5))))))) → va_S A s.heap H locs → ∀ ls : Array Slot, lv_has ls 8 [(0, .ref (bF 0)), (1, .long r1), (3, .int (vT.1 0)), (6, .int x6_14)] → W p l e (headSpec wsX7_leastSet rmX7_leastSet).room s m ([.ref (bF 0)] : List Value).toArray below meth c H locs 0 0 (MQ below (qI g A (cF g bF qF0 (bS 0) qF2 qF3 (bRT 0) vF1 ++ (cS g bS (bC 0) (bT 0) ++ (cC g bC vC ++ (cT g bT vT ++ (cR g bRT nRT (bG 0) (bB 0) vRT1 ++ (cL g bG vG1 ++ (cL g bB vB1))))))) r) ([.ref (bF 0)] : List Value).toArray s 0 0 A) (F0 m 58 ls [])) ?_ ?_ FU
            · intro x6_14 hf; cases hf
            · intro self15 ih17 x6_14 hf H locs hP hD hS ls hl
              unfold f_X7_leastSet_L58 at hf
              refine lv_iload hx hb dX7_leastSet_58 (lv_at hl 3 rfl) ?_
              refine lv_iload_n hx hb dX7_leastSet_60 rfl (lv_at hl 2 rfl) ?_
              refine lv_icmp_gt (tgt := 97) hx hb dX7_leastSet_61 (by decide) (fun c18 => ?_) (fun c18 => ?_)
              · have hf := it_t hf c18
                refine lv_iconst (v := (0 : Int32)) hx hb dX7_leastSet_97 (by decide) ?_
                obtain ⟨e19, e20, e21, e22, e23⟩ := kp_5 hf
                rw [e20] at hP hD
                rw [e21] at hP hD
                rw [e22] at hP hD
                rw [e23] at hP hD
                exact k_iret hx hb hr hlocks hK hP hD hS e19 dX7_leastSet_98
              · have hf := it_f hf c18
                refine lv_aload_n hx hb dX7_leastSet_64 rfl (lv_at hl 0 rfl) ?_
                refine va_get (D := g.1) (ci := 7) (fs := fcF bF qF0 (bS 0) qF2 qF3 (bRT 0) vF_9) (v := .ref (bF 10)) (C := RX7) (T := TX7) (N := 12) hx hb htu hinX7 hown hK hP 0 rfl rfl 9 (by decide) k_2_27 (fun _ h9 => h9) rfl dX7_leastSet_65 ?_
                refine lv_aload_n hx hb dX7_leastSet_68 rfl (lv_at hl 0 rfl) ?_
                refine va_get (D := g.1) (ci := 7) (fs := fcF bF qF0 (bS 0) qF2 qF3 (bRT 0) vF_9) (v := .ref (bF 11)) (C := RX7) (T := TX7) (N := 12) hx hb htu hinX7 hown hK hP 0 rfl rfl 10 (by decide) k_2_28 (fun _ h9 => h9) rfl dX7_leastSet_69 ?_
                refine lv_iload_n hx hb dX7_leastSet_72 rfl (lv_at hl 2 rfl) ?_
                refine lv_iconst (v := (1 : Int32)) hx hb dX7_leastSet_73 (by decide) ?_
                refine lv_isub hx hb dX7_leastSet_74 ?_
                refine lv_lload_n hx hb dX7_leastSet_75 rfl (lv_at hl 1 rfl) ?_
                refine lv_iload hx hb dX7_leastSet_76 (lv_at hl 3 rfl) ?_
                obtain ⟨r24, hg25, hf⟩ := o1_at hf
                refine k_siP ⟨hx, hb, hml, hown, htu⟩ hK hP hD hS hA hG (c_X7_smallestCover l g bF qF0 (bS 0) qF2 qF3 (bRT 0) vF_9 ((vT.1 0) - (1 : Int32)) r1 x6_14 r24 hg25) (va_cwS 5 htu (gU_S mw_2_176 hcX7_smallestCover) rfl rfl rfl hdX7_smallestCover ⟨Nat.le_of_ble_eq_true rfl, Nat.le_of_ble_eq_true rfl⟩) (wr := (cS g bS (bC 0) (bT 0) ++ (cC g bC vC ++ (cT g bT vT ++ (cR g bRT nRT (bG 0) (bB 0) vRT_3 ++ (cL g bG vG_4 ++ (cL g bB vB_5))))))) (w2 := cF g bF qF0 (bS 0) qF2 qF3 (bRT 0) vF_9 ++ (cS g bS (bC 0) (bT 0) ++ (cC g bC vC ++ (cT g bT vT ++ (cR g bRT nRT (bG 0) (bB 0) vRT_3 ++ (cL g bG vG_4 ++ (cL g bB vB_5))))))) [0, 1, 2, 3, 4, 5] [6, 7, 8, 9, 10, 11, 12, 13, 14, 15, 16, 17, 18, 19, 20, 21, 22, 23, 24, 25, 26, 27, 28, 29, 30, 31] [26, 27, 28, 29, 30, 31, 0, 1, 2, 3, 4, 5, 6, 7, 8, 9, 10, 11, 12, 13, 14, 15, 16, 17, 18, 19, 20, 21, 22, 23, 24, 25] rfl rfl (by decide) (by decide) (by decide) rfl rfl (by decide) (As := [.ref (bF 10), .ref (bF 11), .int ((vT.1 0) - (1 : Int32)), .long r1, .int x6_14]) (rest := []) rfl rfl hl.1 (Nat.le_of_ble_eq_true rfl) dX7_leastSet_78 (k1 := 0) (n1 := 0) rfl rfl ⟨Nat.zero_le _, Nat.zero_le _⟩ (fun H locs hP hD hS => ?_)
                refine lv_istore (lv' := [(7, .int r24), (0, .ref (bF 0)), (1, .long r1), (3, .int (vT.1 0)), (6, .int x6_14)]) hx hb dX7_leastSet_81 hl (by decide) rfl (fun ls hl => ?_)
                refine lv_iload hx hb dX7_leastSet_83 (lv_at hl 0 rfl) ?_
                refine lv_if_lt (tgt := 91) hx hb dX7_leastSet_85 (by decide) (fun c26 => ?_) (fun c26 => ?_)
                · have hf := it_t hf c26
                  refine lv_iinc (v := (x6_14 + (1 : Int32))) (lv' := [(6, .int (x6_14 + (1 : Int32))), (7, .int r24), (0, .ref (bF 0)), (1, .long r1), (3, .int (vT.1 0))]) hx hb dX7_leastSet_91 hl (k := 4) rfl rfl (by decide) rfl (fun ls hl => ?_)
                  refine lv_goto (tgt := 58) hx hb dX7_leastSet_94 (by decide) ?_
                  exact ih17 (x6_14 + (1 : Int32)) hf H locs hP hD hS _ (lv_sub hl [2, 3, 4, 0] rfl)
                · have hf := it_f hf c26
                  refine lv_iload hx hb dX7_leastSet_88 (lv_at hl 0 rfl) ?_
                  obtain ⟨e27, e28, e29, e30, e31⟩ := kp_5 hf
                  rw [e28] at hP hD
                  rw [e29] at hP hD
                  rw [e30] at hP hD
                  rw [e31] at hP hD
                  exact k_iret hx hb hr hlocks hK hP hD hS e27 dX7_leastSet_90
          exact hL16 (0 : Int32) hf H locs hP hD hS _ (lv_sub hl [1, 2, 3, 0] rfl)
        · have hf := it_f hf c13
          refine lv_lload hx hb dX7_leastSet_28 (lv_at hl 3 rfl) ?_
          refine lv_aload_n hx hb dX7_leastSet_30 rfl (lv_at hl 0 rfl) ?_
          refine va_get (D := g.1) (ci := 7) (fs := fcF bF qF0 (bS 0) qF2 qF3 (bRT 0) vF_9) (v := .ref (bF 10)) (C := RX7) (T := TX7) (N := 12) hx hb htu hinX7 hown hK hP 0 rfl rfl 9 (by decide) k_2_27 (fun _ h9 => h9) rfl dX7_leastSet_31 ?_
          refine lv_iload hx hb dX7_leastSet_34 (lv_at hl 4 rfl) ?_
          obtain ⟨h32, hf⟩ := gd_in hf
          refine va_lald (D := g.1) (f := (vF_9.2.2 9)) hx hb hK hP 3 1 rfl rfl h32 dX7_leastSet_36 ?_
          refine lv_lor hx hb dX7_leastSet_37 ?_
          refine lv_lstore (lv' := [(4, .long (x4_7 ||| (vF_9.2.2 9 (x6_8).toNatClampNeg))), (0, .ref (bF 0)), (1, .long r1), (3, .int (vT.1 0)), (6, .int x6_8)]) hx hb dX7_leastSet_38 hl (by decide) rfl (fun ls hl => ?_)
          refine lv_aload_n hx hb dX7_leastSet_40 rfl (lv_at hl 1 rfl) ?_
          refine va_get (D := g.1) (ci := 7) (fs := fcF bF qF0 (bS 0) qF2 qF3 (bRT 0) vF_9) (v := .ref (bF 11)) (C := RX7) (T := TX7) (N := 12) hx hb htu hinX7 hown hK hP 0 rfl rfl 10 (by decide) k_2_28 (fun _ h9 => h9) rfl dX7_leastSet_41 ?_
          refine lv_iload hx hb dX7_leastSet_44 (lv_at hl 4 rfl) ?_
          refine lv_lload hx hb dX7_leastSet_46 (lv_at hl 0 rfl) ?_
          obtain ⟨h33, hf⟩ := gd_in hf
          refine va_last (D := g.1) (f := (vF_9.2.2 10)) hx hb hK hP hD hS 4 1 rfl rfl h33 dX7_leastSet_48 (fun H locs hP hD hS => ?_)
          obtain ⟨vF_34, evF_34⟩ : ∃ z, z = sJ vF_9 10 (x6_8).toNatClampNeg (x4_7 ||| (vF_9.2.2 9 (x6_8).toNatClampNeg)) := ⟨_, rfl⟩
          have hf := bn_at hf evF_34
          have hP : va_P g.1 vwCl (cF g bF qF0 (bS 0) qF2 qF3 (bRT 0) vF_34 ++ (cS g bS (bC 0) (bT 0) ++ (cC g bC vC ++ (cT g bT vT ++ (cR g bRT nRT (bG 0) (bB 0) vRT_3 ++ (cL g bG vG_4 ++ (cL g bB vB_5))))))) H := by rw [evF_34]; exact hP
          have hD : va_D A (cF g bF qF0 (bS 0) qF2 qF3 (bRT 0) vF_34 ++ (cS g bS (bC 0) (bT 0) ++ (cC g bC vC ++ (cT g bT vT ++ (cR g bRT nRT (bG 0) (bB 0) vRT_3 ++ (cL g bG vG_4 ++ (cL g bB vB_5))))))) := by rw [evF_34]; exact hD
          refine lv_iinc (v := (x6_8 + (1 : Int32))) (lv' := [(6, .int (x6_8 + (1 : Int32))), (4, .long (x4_7 ||| (vF_9.2.2 9 (x6_8).toNatClampNeg))), (0, .ref (bF 0)), (1, .long r1), (3, .int (vT.1 0))]) hx hb dX7_leastSet_49 hl (k := 4) rfl rfl (by decide) rfl (fun ls hl => ?_)
          refine lv_goto (tgt := 22) hx hb dX7_leastSet_52 (by decide) ?_
          exact ih12 (x4_7 ||| (vF_9.2.2 9 (x6_8).toNatClampNeg)) (x6_8 + (1 : Int32)) vF_34 hf H locs hP hD hS _ (lv_sub hl [2, 3, 4, 1, 0] rfl)
    exact hL11 (0 : Int64) (0 : Int32) vF_2 hf H locs hP hD hS _ (lv_sub hl [4, 3, 2, 1, 0] rfl)
  rw [hH, hlo] at hW
  exact hW
def f_X7_coverage (vF : Vs) (vC : Vs) (vT : Vs) (nRT : Nat) (vRT : Vs) (vG : Vs) (vB : Vs) (nRF : Nat) (vRF : Vs) (vGF : Vs) (vBF : Vs) : Option (UInt64 × Vs × Vs × Vs × Vs × Vs × Vs × Vs) :=
  o1 (f_X0_faultCount vC) (fun (r1 : Int32) => o5 (f_X7_hidden vF vC nRF vRF vGF vBF) (fun (r3 : Int32) (vF_4 : Vs) (vRF_5 : Vs) (vGF_6 : Vs) (vBF_7 : Vs) => if 0 < (r1 - r3) then o5 (f_X7_listFoundByTests vF_4 vC vT nRT vRT vG vB) (fun (r10 : Int64) (vF_11 : Vs) (vRT_12 : Vs) (vG_13 : Vs) (vB_14 : Vs) => o1 (f_J13_bitCount_95d88 r10) (fun (r16 : Int32) => gd (dOK (FP.ddiv (FP.i2d r16) (FP.i2d (r1 - r3)))) (some ((FP.ddiv (FP.i2d r16) (FP.i2d (r1 - r3))), vF_11, vRT_12, vG_13, vB_14, vRF_5, vGF_6, vBF_7)))) else some (FP.dconst1, vF_4, vRT, vG, vB, vRF_5, vGF_6, vBF_7)))
abbrev wsX7_coverage : List Cond := .code yX7_coverage cX7_coverage 3 (some .double) :: UW
abbrev rmX7_coverage : Room := { frames := 5, cells := 0, slots := 0, locals := 129 }
set_option maxHeartbeats 4000000 in
set_option maxRecDepth 100000 in
theorem c_X7_coverage (l : Launch) (g : Gx) (bF : Nat → Nat) (qF0 : Nat) (qF2 : Nat) (vF : Vs) (bS : Nat → Nat) (bC : Nat → Nat) (vC : Vs) (bT : Nat → Nat) (vT : Vs) (bRT : Nat → Nat) (nRT : Nat) (vRT : Vs) (bG : Nat → Nat) (vG : Vs) (bB : Nat → Nat) (vB : Vs) (bRF : Nat → Nat) (nRF : Nat) (vRF : Vs) (bGF : Nat → Nat) (vGF : Vs) (bBF : Nat → Nat) (vBF : Vs) (r : UInt64) (vF1 : Vs) (vRT1 : Vs) (vG1 : Vs) (vB1 : Vs) (vRF1 : Vs) (vGF1 : Vs) (vBF1 : Vs) (hf : f_X7_coverage vF vC vT nRT vRT vG vB nRF vRF vGF vBF = some (r, vF1, vRT1, vG1, vB1, vRF1, vGF1, vBF1)) : CtD l yX7_coverage wsX7_coverage rmX7_coverage g [.ref (bF 0)] (cF g bF qF0 (bS 0) qF2 (bRF 0) (bRT 0) vF ++ (cS g bS (bC 0) (bT 0) ++ (cC g bC vC ++ (cT g bT vT ++ (cR g bRT nRT (bG 0) (bB 0) vRT ++ (cL g bG vG ++ (cL g bB vB ++ (cR g bRF nRF (bGF 0) (bBF 0) vRF ++ (cL g bGF vGF ++ (cL g bBF vBF)))))))))) (cF g bF qF0 (bS 0) qF2 (bRF 0) (bRT 0) vF1 ++ (cS g bS (bC 0) (bT 0) ++ (cC g bC vC ++ (cT g bT vT ++ (cR g bRT nRT (bG 0) (bB 0) vRT1 ++ (cL g bG vG1 ++ (cL g bB vB1 ++ (cR g bRF nRF (bGF 0) (bBF 0) vRF1 ++ (cL g bGF vGF1 ++ (cL g bBF vBF1)))))))))) r 0 0 := by
  unfold CtD
  intro sz
  refine Met.ofW (cc := cX7_coverage) (maxL := 3) (ret := (some .double)) (by decide) rfl ?_
  intro p e s m args below meth c s₁ B hml hv
  obtain ⟨rfl, hsz, hP, hK, hD0, hG⟩ := hv
  have hx := B.exec
  have hb := B.bytes
  have hr := B.returns
  have hts := atoms_spec (ws := wsX7_coverage) B.pre
  have hown : s.vm.findClass RX7 = some m.cls := findClass_of_methodNamed B.named
  have hlocks := B.notSynchronized
  subst hsz
  have hD := hD0.self (sz := s.heap.size)
  generalize hAe : va_A (cF g bF qF0 (bS 0) qF2 (bRF 0) (bRT 0) vF ++ (cS g bS (bC 0) (bT 0) ++ (cC g bC vC ++ (cT g bT vT ++ (cR g bRT nRT (bG 0) (bB 0) vRT ++ (cL g bG vG ++ (cL g bB vB ++ (cR g bRF nRF (bGF 0) (bBF 0) vRF ++ (cL g bGF vGF ++ (cL g bBF vBF)))))))))) s.heap.size = A at hD hG ⊢
  have hA : ∀ q : Nat, s.heap.size ≤ q → A q := fun q h => by rw [← hAe]; exact Or.inr h
  clear hAe hD0
  have hS : va_S A s.heap s.heap [] := va_S.rf
  have hl := lv_entry ([.ref (bF 0)]) (n := 3) (Nat.le_of_ble_eq_true rfl)
  rw [lg_entry_eq]
  generalize (lg_sl ([.ref (bF 0)]) ++ List.replicate (3 - (lg_sl ([.ref (bF 0)])).length) Slot.unset).toArray = ls at hl ⊢
  have hl : lv_has ls 3 [(0, .ref (bF 0))] := hl
  have htu : ∀ w ∈ UW, w.before _ s = true := fun w h => hts w (List.mem_cons_of_mem _ h)
  have k_2_19 := htu _ mw_2_19
  have k_1_150 := htu _ mw_1_150
  unfold f_X7_coverage at hf
  obtain ⟨H, hH⟩ : ∃ z, z = s.heap := ⟨_, rfl⟩
  obtain ⟨locs, hlo⟩ : ∃ z : List Loc, z = [] := ⟨_, rfl⟩
  have hS : va_S A s.heap H locs := by rw [hH, hlo]; exact hS
  rw [← hH] at hP
  have hW : W p l e (headSpec wsX7_coverage rmX7_coverage).room s m ([.ref (bF 0)] : List Value).toArray below meth c H locs 0 0 (MQ below (qD g A (cF g bF qF0 (bS 0) qF2 (bRF 0) (bRT 0) vF1 ++ (cS g bS (bC 0) (bT 0) ++ (cC g bC vC ++ (cT g bT vT ++ (cR g bRT nRT (bG 0) (bB 0) vRT1 ++ (cL g bG vG1 ++ (cL g bB vB1 ++ (cR g bRF nRF (bGF 0) (bBF 0) vRF1 ++ (cL g bGF vGF1 ++ (cL g bBF vBF1)))))))))) r) ([.ref (bF 0)] : List Value).toArray s 0 0 A) (F0 m 0 ls []) := by
    refine lv_aload_n hx hb dX7_coverage_0 rfl (lv_at hl 0 rfl) ?_
    refine va_get (D := g.1) (ci := 7) (fs := fcF bF qF0 (bS 0) qF2 (bRF 0) (bRT 0) vF) (v := .ref (bS 0)) (C := RX7) (T := TX7) (N := 12) hx hb htu hinX7 hown hK hP 0 rfl rfl 1 (by decide) k_2_19 (fun _ h9 => h9) rfl dX7_coverage_1 ?_
    refine va_get (D := g.1) (ci := 4) (fs := fcS bS (bC 0) (bT 0)) (v := .ref (bC 0)) (C := RX4) (T := TX4) (N := 2) hx hb htu hinX4 hown hK hP 6 rfl rfl 0 (by decide) k_1_150 (fun _ h9 => h9) rfl dX7_coverage_4 ?_
    obtain ⟨r1, hg2, hf⟩ := o1_at hf
    refine k_viP ⟨hx, hb, hml, hown, htu⟩ hK hP hD hS hA hG (c_X0_faultCount l g bC vC r1 hg2) (cwV 0 htu (gU_V mw_2_121 hcX0_faultCount) rfl rfl rfl hdX0_faultCount ⟨Nat.le_of_ble_eq_true rfl, Nat.le_of_ble_eq_true rfl⟩) (q0 := 7) (ci := 0) (fs := fcC bC vC) (q := (RX0, TX0, 14)) rfl rfl rfl (wr := (cF g bF qF0 (bS 0) qF2 (bRF 0) (bRT 0) vF ++ (cS g bS (bC 0) (bT 0) ++ (cT g bT vT ++ (cR g bRT nRT (bG 0) (bB 0) vRT ++ (cL g bG vG ++ (cL g bB vB ++ (cR g bRF nRF (bGF 0) (bBF 0) vRF ++ (cL g bGF vGF ++ (cL g bBF vBF)))))))))) (w2 := cF g bF qF0 (bS 0) qF2 (bRF 0) (bRT 0) vF ++ (cS g bS (bC 0) (bT 0) ++ (cC g bC vC ++ (cT g bT vT ++ (cR g bRT nRT (bG 0) (bB 0) vRT ++ (cL g bG vG ++ (cL g bB vB ++ (cR g bRF nRF (bGF 0) (bBF 0) vRF ++ (cL g bGF vGF ++ (cL g bBF vBF)))))))))) [7, 8, 9, 10, 11, 12, 13, 14, 15, 16, 17] [0, 1, 2, 3, 4, 5, 6, 18, 19, 20, 21, 22, 23, 24, 25, 26, 27, 28, 29, 30, 31, 32, 33, 34, 35, 36, 37, 38, 39, 40] [0, 1, 2, 3, 4, 5, 6, 30, 31, 32, 33, 34, 35, 36, 37, 38, 39, 40, 7, 8, 9, 10, 11, 12, 13, 14, 15, 16, 17, 18, 19, 20, 21, 22, 23, 24, 25, 26, 27, 28, 29] rfl rfl (by decide) (by decide) (by decide) rfl rfl (by decide) (As := []) (rest := []) rfl rfl hl.1 (Nat.le_of_ble_eq_true rfl) dX7_coverage_7 (k1 := 0) (n1 := 0) rfl rfl ⟨Nat.zero_le _, Nat.zero_le _⟩ (fun H locs hP hD hS => ?_)
    refine lv_aload_n hx hb dX7_coverage_10 rfl (lv_at hl 0 rfl) ?_
    obtain ⟨r3, vF_4, vRF_5, vGF_6, vBF_7, hg8, hf⟩ := o5_at hf
    refine k_viP ⟨hx, hb, hml, hown, htu⟩ hK hP hD hS hA hG (c_X7_hidden l g bF qF0 qF2 (bRT 0) vF bS (bT 0) bC vC bRF nRF vRF bGF vGF bBF vBF r3 vF_4 vRF_5 vGF_6 vBF_7 hg8) (cwV 0 htu (gU_V mw_2_152 hcX7_hidden) rfl rfl rfl hdX7_hidden ⟨Nat.le_of_ble_eq_true rfl, Nat.le_of_ble_eq_true rfl⟩) (q0 := 0) (ci := 7) (fs := fcF bF qF0 (bS 0) qF2 (bRF 0) (bRT 0) vF) (q := (RX7, TX7, 12)) rfl rfl rfl (wr := (cT g bT vT ++ (cR g bRT nRT (bG 0) (bB 0) vRT ++ (cL g bG vG ++ (cL g bB vB))))) (w2 := cF g bF qF0 (bS 0) qF2 (bRF 0) (bRT 0) vF_4 ++ (cS g bS (bC 0) (bT 0) ++ (cC g bC vC ++ (cT g bT vT ++ (cR g bRT nRT (bG 0) (bB 0) vRT ++ (cL g bG vG ++ (cL g bB vB ++ (cR g bRF nRF (bGF 0) (bBF 0) vRF_5 ++ (cL g bGF vGF_6 ++ (cL g bBF vBF_7)))))))))) [0, 1, 2, 3, 4, 5, 6, 7, 8, 9, 10, 11, 12, 13, 14, 15, 16, 17, 32, 33, 34, 35, 36, 37, 38, 39, 40] [18, 19, 20, 21, 22, 23, 24, 25, 26, 27, 28, 29, 30, 31] [14, 15, 16, 17, 18, 19, 20, 21, 22, 23, 24, 25, 26, 27, 28, 29, 30, 31, 0, 1, 2, 3, 4, 5, 6, 7, 8, 9, 10, 11, 12, 13, 32, 33, 34, 35, 36, 37, 38, 39, 40] rfl rfl (by decide) (by decide) (by decide) rfl rfl (by decide) (As := []) (rest := [.int r1]) rfl rfl hl.1 (Nat.le_of_ble_eq_true rfl) dX7_coverage_11 (k1 := 0) (n1 := 0) rfl rfl ⟨Nat.zero_le _, Nat.zero_le _⟩ (fun H locs hP hD hS => ?_)
    refine lv_isub hx hb dX7_coverage_14 ?_
    refine lv_istore_n (lv' := [(1, .int (r1 - r3)), (0, .ref (bF 0))]) hx hb dX7_coverage_15 rfl hl (by decide) rfl (fun ls hl => ?_)
    refine lv_iload_n hx hb dX7_coverage_16 rfl (lv_at hl 0 rfl) ?_
    refine lv_if_gt (tgt := 22) hx hb dX7_coverage_17 (by decide) (fun c9 => ?_) (fun c9 => ?_)
    · have hf := it_t hf c9
      refine lv_aload_n hx hb dX7_coverage_22 rfl (lv_at hl 1 rfl) ?_
      obtain ⟨r10, vF_11, vRT_12, vG_13, vB_14, hg15, hf⟩ := o5_at hf
      refine k_vlP ⟨hx, hb, hml, hown, htu⟩ hK hP hD hS hA hG (c_X7_listFoundByTests l g bF qF0 qF2 (bRF 0) vF_4 bS bC vC bT vT bRT nRT vRT bG vG bB vB r10 vF_11 vRT_12 vG_13 vB_14 hg15) (cwV 0 htu (gU_V mw_2_153 hcX7_listFoundByTests) rfl rfl rfl hdX7_listFoundByTests ⟨Nat.le_of_ble_eq_true rfl, Nat.le_of_ble_eq_true rfl⟩) (q0 := 0) (ci := 7) (fs := fcF bF qF0 (bS 0) qF2 (bRF 0) (bRT 0) vF_4) (q := (RX7, TX7, 12)) rfl rfl rfl (wr := (cR g bRF nRF (bGF 0) (bBF 0) vRF_5 ++ (cL g bGF vGF_6 ++ (cL g bBF vBF_7)))) (w2 := cF g bF qF0 (bS 0) qF2 (bRF 0) (bRT 0) vF_11 ++ (cS g bS (bC 0) (bT 0) ++ (cC g bC vC ++ (cT g bT vT ++ (cR g bRT nRT (bG 0) (bB 0) vRT_12 ++ (cL g bG vG_13 ++ (cL g bB vB_14 ++ (cR g bRF nRF (bGF 0) (bBF 0) vRF_5 ++ (cL g bGF vGF_6 ++ (cL g bBF vBF_7)))))))))) [0, 1, 2, 3, 4, 5, 6, 7, 8, 9, 10, 11, 12, 13, 14, 15, 16, 17, 18, 19, 20, 21, 22, 23, 24, 25, 26, 27, 28, 29, 30, 31] [32, 33, 34, 35, 36, 37, 38, 39, 40] [9, 10, 11, 12, 13, 14, 15, 16, 17, 18, 19, 20, 21, 22, 23, 24, 25, 26, 27, 28, 29, 30, 31, 32, 33, 34, 35, 36, 37, 38, 39, 40, 0, 1, 2, 3, 4, 5, 6, 7, 8] rfl rfl (by decide) (by decide) (by decide) rfl rfl (by decide) (As := []) (rest := []) rfl rfl hl.1 (Nat.le_of_ble_eq_true rfl) dX7_coverage_23 (k1 := 0) (n1 := 0) rfl rfl ⟨Nat.zero_le _, Nat.zero_le _⟩ (fun H locs hP hD hS => ?_)
      obtain ⟨r16, hg17, hf⟩ := o1_at hf
      refine k_si0 ⟨hx, hb, hml, hown, htu⟩ hK hP hD hS hA hG (c_J13_bitCount_95d88 l g r10 r16 hg17) (va_cwS 1 htu (gU_S mw_2_171 hcJ13_bitCount_95d88) rfl rfl rfl hdJ13_bitCount_95d88 ⟨Nat.le_of_ble_eq_true rfl, Nat.le_of_ble_eq_true rfl⟩) (As := [.long r10]) (rest := []) rfl rfl hl.1 (Nat.le_of_ble_eq_true rfl) dX7_coverage_26 (k1 := 0) (n1 := 0) rfl rfl ⟨Nat.zero_le _, Nat.zero_le _⟩ (fun H locs hP hD hS => ?_)
      refine lv_istore_n (lv' := [(2, .int r16), (1, .int (r1 - r3)), (0, .ref (bF 0))]) hx hb dX7_coverage_29 rfl hl (by decide) rfl (fun ls hl => ?_)
      refine lv_iload_n hx hb dX7_coverage_30 rfl (lv_at hl 0 rfl) ?_
      refine lv_i2d hx hb dX7_coverage_31 ?_
      refine lv_iload_n hx hb dX7_coverage_32 rfl (lv_at hl 1 rfl) ?_
      refine lv_i2d hx hb dX7_coverage_33 ?_
      obtain ⟨h18, hf⟩ := gd_at hf
      refine lv_ddiv hx hb dX7_coverage_34 (dOK_at h18) ?_
      obtain ⟨e19, e20, e21, e22, e23, e24, e25, e26⟩ := kp_8 hf
      rw [e20] at hP hD
      rw [e21] at hP hD
      rw [e22] at hP hD
      rw [e23] at hP hD
      rw [e24] at hP hD
      rw [e25] at hP hD
      rw [e26] at hP hD
      exact k_dret hx hb hr hlocks hK hP hD hS e19 dX7_coverage_35
    · have hf := it_f hf c9
      refine lv_dconst1 hx hb dX7_coverage_20 ?_
      obtain ⟨e27, e28, e29, e30, e31, e32, e33, e34⟩ := kp_8 hf
      rw [e28] at hP hD
      rw [e29] at hP hD
      rw [e30] at hP hD
      rw [e31] at hP hD
      rw [e32] at hP hD
      rw [e33] at hP hD
      rw [e34] at hP hD
      exact k_dret hx hb hr hlocks hK hP hD hS e27 dX7_coverage_21
  rw [hH, hlo] at hW
  exact hW
def f_X8_coverage (vM : Vs) : Option (UInt64 × Vs) :=
  bn (sF vM 0 (0 : Int32)) (fun (vM_1 : Vs) => o1 (f_X8_faults vM_1) (fun (r2 : Int32) => o2 (f_X8_hiddenMany vM_1) (fun (r4 : Int32) (vM_5 : Vs) => jn (fun (t7 : UInt64) (vM_8 : Vs) => some (t7, vM_8)) (fun k9 => if (r2 - r4) = 0 then k9 FP.dconst1 vM_5 else o2 (f_X8_foundMany vM_5) (fun (r15 : Int32) (vM_16 : Vs) => gd (dOK (FP.ddiv (FP.i2d r15) (FP.i2d (r2 - r4)))) (k9 (FP.ddiv (FP.i2d r15) (FP.i2d (r2 - r4))) vM_16))))))
abbrev wsX8_coverage : List Cond := .code yX8_coverage cX8_coverage 2 (some .double) :: UW
abbrev rmX8_coverage : Room := { frames := 7, cells := 0, slots := 0, locals := 164 }
set_option maxHeartbeats 4000000 in
set_option maxRecDepth 100000 in
theorem c_X8_coverage (l : Launch) (g : Gx) (bM : Nat → Nat) (vM : Vs) (r : UInt64) (vM1 : Vs) (hf : f_X8_coverage vM = some (r, vM1)) : CtD l yX8_coverage wsX8_coverage rmX8_coverage g [.ref (bM 0)] (cM g bM vM) (cM g bM vM1) r 0 0 := by
  unfold CtD
  intro sz
  refine Met.ofW (cc := cX8_coverage) (maxL := 2) (ret := (some .double)) (by decide) rfl ?_
  intro p e s m args below meth c s₁ B hml hv
  obtain ⟨rfl, hsz, hP, hK, hD0, hG⟩ := hv
  have hx := B.exec
  have hb := B.bytes
  have hr := B.returns
  have hts := atoms_spec (ws := wsX8_coverage) B.pre
  have hown : s.vm.findClass RX8 = some m.cls := findClass_of_methodNamed B.named
  have hlocks := B.notSynchronized
  subst hsz
  have hD := hD0.self (sz := s.heap.size)
  generalize hAe : va_A (cM g bM vM) s.heap.size = A at hD hG ⊢
  have hA : ∀ q : Nat, s.heap.size ≤ q → A q := fun q h => by rw [← hAe]; exact Or.inr h
  clear hAe hD0
  have hS : va_S A s.heap s.heap [] := va_S.rf
  have hl := lv_entry ([.ref (bM 0)]) (n := 2) (Nat.le_of_ble_eq_true rfl)
  rw [lg_entry_eq]
  generalize (lg_sl ([.ref (bM 0)]) ++ List.replicate (2 - (lg_sl ([.ref (bM 0)])).length) Slot.unset).toArray = ls at hl ⊢
  have hl : lv_has ls 2 [(0, .ref (bM 0))] := hl
  have htu : ∀ w ∈ UW, w.before _ s = true := fun w h => hts w (List.mem_cons_of_mem _ h)
  have k_5_72 := htu _ mw_5_72
  unfold f_X8_coverage at hf
  obtain ⟨H, hH⟩ : ∃ z, z = s.heap := ⟨_, rfl⟩
  obtain ⟨locs, hlo⟩ : ∃ z : List Loc, z = [] := ⟨_, rfl⟩
  have hS : va_S A s.heap H locs := by rw [hH, hlo]; exact hS
  rw [← hH] at hP
  have hW : W p l e (headSpec wsX8_coverage rmX8_coverage).room s m ([.ref (bM 0)] : List Value).toArray below meth c H locs 0 0 (MQ below (qD g A (cM g bM vM1) r) ([.ref (bM 0)] : List Value).toArray s 0 0 A) (F0 m 0 ls []) := by
    refine lv_aload_n hx hb dX8_coverage_0 rfl (lv_at hl 0 rfl) ?_
    refine lv_iconst (v := (0 : Int32)) hx hb dX8_coverage_1 (by decide) ?_
    refine va_put (D := g.1) (ci := 8) (fs := fcM bM vM) (v := .int (0 : Int32)) (ty := .int) (C := RX8) (T := TX8) (N := 23) hx hb htu hinX8 tyX8 tyX8_ok nmX8 hown hK hP hD hS 0 rfl rfl 0 (by decide) k_5_72 (fun _ h9 => h9) rfl (by decide +kernel) rfl rfl (Nat.le_of_ble_eq_true rfl) dX8_coverage_2 (fun H locs hP hD hS => ?_)
    obtain ⟨vM_1, evM_1⟩ : ∃ z, z = sF vM 0 (0 : Int32) := ⟨_, rfl⟩
    have hf := bn_at hf evM_1
    have hP : va_P g.1 vwCl (cM g bM vM_1) H := by rw [evM_1]; exact hP
    have hD : va_D A (cM g bM vM_1) := by rw [evM_1]; exact hD
    refine lv_aload_n hx hb dX8_coverage_5 rfl (lv_at hl 0 rfl) ?_
    obtain ⟨r2, hg3, hf⟩ := o1_at hf
    refine k_viW ⟨hx, hb, hml, hown, htu⟩ hK hP hD hS hA hG (c_X8_faults l g bM vM_1 r2 hg3) (cwV 0 htu (gU_V mw_6_44 hcX8_faults) rfl rfl rfl hdX8_faults ⟨Nat.le_of_ble_eq_true rfl, Nat.le_of_ble_eq_true rfl⟩) (q0 := 0) (ci := 8) (fs := fcM bM vM_1) (q := (RX8, TX8, 23)) rfl rfl rfl (As := []) (rest := []) rfl rfl hl.1 (Nat.le_of_ble_eq_true rfl) dX8_coverage_6 (k1 := 0) (n1 := 0) rfl rfl ⟨Nat.zero_le _, Nat.zero_le _⟩ (fun H locs hP hD hS => ?_)
    refine lv_aload_n hx hb dX8_coverage_9 rfl (lv_at hl 0 rfl) ?_
    obtain ⟨r4, vM_5, hg6, hf⟩ := o2_at hf
    refine k_viW ⟨hx, hb, hml, hown, htu⟩ hK hP hD hS hA hG (c_X8_hiddenMany l g bM vM_1 r4 vM_5 hg6) (cwV 0 htu (gU_V mw_6_202 hcX8_hiddenMany) rfl rfl rfl hdX8_hiddenMany ⟨Nat.le_of_ble_eq_true rfl, Nat.le_of_ble_eq_true rfl⟩) (q0 := 0) (ci := 8) (fs := fcM bM vM_1) (q := (RX8, TX8, 23)) rfl rfl rfl (As := []) (rest := [.int r2]) rfl rfl hl.1 (Nat.le_of_ble_eq_true rfl) dX8_coverage_10 (k1 := 0) (n1 := 0) rfl rfl ⟨Nat.zero_le _, Nat.zero_le _⟩ (fun H locs hP hD hS => ?_)
    refine lv_isub hx hb dX8_coverage_13 ?_
    refine lv_istore_n (lv' := [(1, .int (r2 - r4)), (0, .ref (bM 0))]) hx hb dX8_coverage_14 rfl hl (by decide) rfl (fun ls hl => ?_)
    refine lv_iload_n hx hb dX8_coverage_15 rfl (lv_at hl 0 rfl) ?_
    obtain ⟨k9, hk13, hf⟩ := jn_at hf
    have hJ10 : ∀ (t7 : UInt64) (vM_8 : Vs), k9 t7 vM_8 = some (r, vM1) → ∀ (H : Heap) (locs : List Loc), va_P g.1 vwCl (cM g bM vM_8) H → va_D A (cM g bM vM_8) → va_S A s.heap H locs → ∀ ls : Array Slot, lv_has ls 2 [] → W p l e (headSpec wsX8_coverage rmX8_coverage).room s m ([.ref (bM 0)] : List Value).toArray below meth c H locs 0 0 (MQ below (qD g A (cM g bM vM1) r) ([.ref (bM 0)] : List Value).toArray s 0 0 A) (F0 m 31 ls [.double t7]) := by
      intro t7 vM_8 hf H locs hP hD hS ls hl
      rw [hk13] at hf
      dsimp only at hf
      clear hk13
      obtain ⟨e11, e12⟩ := kp_2 hf
      rw [e12] at hP hD
      exact k_dret hx hb hr hlocks hK hP hD hS e11 dX8_coverage_31
    refine lv_if_ne (tgt := 23) hx hb dX8_coverage_16 (by decide) (fun c14 => ?_) (fun c14 => ?_)
    · have hf := it_f hf c14
      refine lv_aload_n hx hb dX8_coverage_23 rfl (lv_at hl 1 rfl) ?_
      obtain ⟨r15, vM_16, hg17, hf⟩ := o2_at hf
      refine k_viW ⟨hx, hb, hml, hown, htu⟩ hK hP hD hS hA hG (c_X8_foundMany l g bM vM_5 r15 vM_16 hg17) (cwV 0 htu (gU_V mw_6_60 hcX8_foundMany) rfl rfl rfl hdX8_foundMany ⟨Nat.le_of_ble_eq_true rfl, Nat.le_of_ble_eq_true rfl⟩) (q0 := 0) (ci := 8) (fs := fcM bM vM_5) (q := (RX8, TX8, 23)) rfl rfl rfl (As := []) (rest := []) rfl rfl hl.1 (Nat.le_of_ble_eq_true rfl) dX8_coverage_24 (k1 := 0) (n1 := 0) rfl rfl ⟨Nat.zero_le _, Nat.zero_le _⟩ (fun H locs hP hD hS => ?_)
      refine lv_i2d hx hb dX8_coverage_27 ?_
      refine lv_iload_n hx hb dX8_coverage_28 rfl (lv_at hl 0 rfl) ?_
      refine lv_i2d hx hb dX8_coverage_29 ?_
      obtain ⟨h18, hf⟩ := gd_at hf
      refine lv_ddiv hx hb dX8_coverage_30 (dOK_at h18) ?_
      exact hJ10 (FP.ddiv (FP.i2d r15) (FP.i2d (r2 - r4))) vM_16 hf H locs hP hD hS _ (lv_sub hl [] rfl)
    · have hf := it_t hf c14
      refine lv_dconst1 hx hb dX8_coverage_19 ?_
      refine lv_goto (tgt := 31) hx hb dX8_coverage_20 (by decide) ?_
      exact hJ10 FP.dconst1 vM_5 hf H locs hP hD hS _ (lv_sub hl [] rfl)
  rw [hH, hlo] at hW
  exact hW
