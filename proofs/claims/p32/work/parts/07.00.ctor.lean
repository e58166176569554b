/-! Constructors: what a new object's world is. -/
def zV : Vs := (fun _ => 0, fun _ _ => 0, fun _ _ => 0)
def CtN {S : Type} (l : Launch) (y : MethodName) (wy : List Cond) (rm : Room) (g : Gx) (av : List Value) (w0 : va_W) (w1 : S → va_W) (pr : S → Prop) (mc ms : Nat) : Prop :=
  ∀ sz, Met l y wy rm (va_Pc av (wB g w0 sz)) (va_Qv pr (fun u => wE g (va_A w0 sz) (w1 u)) (va_A w0 sz)) mc ms (va_A w0 sz)
section
variable {p : Program} {l : Launch} {e : Env} {R : Room} {s : State} {m : MethodId} {args : Array Value} {below : List Frame} {meth : Method} {c : Code} {H : Heap} {locs : List Loc} {cells slots : Nat} {Q : State → Prop} {g : Gx} {A : Nat → Prop}
theorem k_newI {cc : ByteArray} (hx : p.tables.exec = Jvm.exec) (hb : c.code = cc) (harr : (Cond.arrayClass .int).before args s = true) {ws : va_W} (hK : va_K g.1 vwCl (tyL g) s) (hP : va_P g.1 vwCl ws H) (hD : va_D A ws) (hS : va_S A s.heap H locs) (hA : ∀ q, s.heap.size ≤ q → A q)
    {n : Int32} {N' : Nat} (hn : ¬ n < 0) (hN : n.toNatClampNeg = N') (hbytes : N' * componentBytes .int ≤ 536870912) (hcells : cells + 1 ≤ R.cells) (hslots : slots + N' ≤ R.slots) {pc : Nat} {ls : Array Slot} {rest : List Value} (hdg : decode cc pc = .ok (.newarray .int, 2))
    (kk : ∀ (q : Nat) (H1 : Heap), va_P g.1 vwCl (ws ++ [(q, .inl (g.2.1, N', .inl (fun _ => 0)))]) H1 → va_D A (ws ++ [(q, .inl (g.2.1, N', .inl (fun _ => 0)))]) → va_S A s.heap H1 locs → W p l e R s m args below meth c H1 locs (cells + 1) (slots + N') Q (F0 m (pc + 2) ls (.ref q :: rest))) : W p l e R s m args below meth c H locs cells slots Q (F0 m pc ls (.int n :: rest)) := by
  refine va_newa (atype := .int) (ty := .int) (a0 := (N', .inl (fun _ => 0))) hx hb harr rfl hK hP hD hS hA (fun cA => rfl) hn hN hbytes hcells hslots hdg (fun q cA H1 hK1 hP1 hD1 hS1 => ?_)
  have h1 : s.vm.findClass ("[" ++ FieldType.toString .int) = some cA := (hK1.2 6 (cA, .int) rfl).2
  have h2 : s.vm.findClass ("[" ++ FieldType.toString .int) = some g.2.1 := (hK.2 0 (g.2.1, .int) rfl).2
  have h3 : cA = g.2.1 := Option.some.inj (h1.symm.trans h2)
  rw [h3] at hP1 hD1
  exact kk q H1 hP1 hD1 hS1
theorem k_newJ {cc : ByteArray} (hx : p.tables.exec = Jvm.exec) (hb : c.code = cc) (harr : (Cond.arrayClass .long).before args s = true) {ws : va_W} (hK : va_K g.1 vwCl (tyL g) s) (hP : va_P g.1 vwCl ws H) (hD : va_D A ws) (hS : va_S A s.heap H locs) (hA : ∀ q, s.heap.size ≤ q → A q)
    {n : Int32} {N' : Nat} (hn : ¬ n < 0) (hN : n.toNatClampNeg = N') (hbytes : N' * componentBytes .long ≤ 536870912) (hcells : cells + 1 ≤ R.cells) (hslots : slots + N' ≤ R.slots) {pc : Nat} {ls : Array Slot} {rest : List Value} (hdg : decode cc pc = .ok (.newarray .long, 2))
    (kk : ∀ (q : Nat) (H1 : Heap), va_P g.1 vwCl (ws ++ [(q, .inl (g.2.2.1, N', .inr (.inl (fun _ => 0))))]) H1 → va_D A (ws ++ [(q, .inl (g.2.2.1, N', .inr (.inl (fun _ => 0))))]) → va_S A s.heap H1 locs → W p l e R s m args below meth c H1 locs (cells + 1) (slots + N') Q (F0 m (pc + 2) ls (.ref q :: rest))) : W p l e R s m args below meth c H locs cells slots Q (F0 m pc ls (.int n :: rest)) := by
  refine va_newa (atype := .long) (ty := .long) (a0 := (N', .inr (.inl (fun _ => 0)))) hx hb harr rfl hK hP hD hS hA (fun cA => rfl) hn hN hbytes hcells hslots hdg (fun q cA H1 hK1 hP1 hD1 hS1 => ?_)
  have h1 : s.vm.findClass ("[" ++ FieldType.toString .long) = some cA := (hK1.2 6 (cA, .long) rfl).2
  have h2 : s.vm.findClass ("[" ++ FieldType.toString .long) = some g.2.2.1 := (hK.2 1 (g.2.2.1, .long) rfl).2
  have h3 : cA = g.2.2.1 := Option.some.inj (h1.symm.trans h2)
  rw [h3] at hP1 hD1
  exact kk q H1 hP1 hD1 hS1
theorem k_ctor {S1 : Type} {cc : ByteArray} {nL : Nat} {Ts : List Cond} {own : String} (S : CallFix p m c cc nL s args Ts own) {ws wr : va_W} (hK : va_K g.1 vwCl (tyL g) s) (hP : va_P g.1 vwCl ws H) (hD : va_D A ws) (hS : va_S A s.heap H locs) (hA : ∀ q, s.heap.size ≤ q → A q) (hG : BG g A s s.heap) {y : MethodName} {wy : List Cond} {rm : Room} {As : List Value} {a : Nat} {e0 : va_E} {w1 : S1 → va_W} {pr : S1 → Prop} {mc ms : Nat} (hM : CtN l y wy rm g (.ref a :: As) [(a, e0)] w1 pr mc ms) {index : Nat} {bytes : ByteArray} {maxL : Nat} {n : Nat} {host : String}
    (cw : (CallB R s args own index y bytes maxL none wy rm mc ms n ∧ y.name = "<init>" ∧ (Cond.instanceMethod y).before args s = true) ∨ (va_CN R s args own index y host bytes maxL none wy rm mc ms n ∧ y.name = "<init>" ∧ (Cond.instanceMethod y).before args s = true))
    (hws : ws = wr ++ [(a, e0)]) {pc : Nat} {ls : Array Slot} {st rest : List Value} (hst : st = As.reverse ++ .ref a :: rest) (hn : As.length = n) (hsz : ls.size = nL) (hW : (rest.map fun v => v.category).sum ≤ 8) (hdg : decode cc pc = .ok (.invokespecial index, 3)) {k1 n1 : Nat} (hk : cells + mc = k1) (hns : slots + ms = n1) (hf : k1 ≤ R.cells ∧ n1 ≤ R.slots)
    (kk : ∀ (u : S1) (H1 : Heap) (locs1 : List Loc), pr u → va_P g.1 vwCl (wr ++ w1 u) H1 → va_D A (wr ++ w1 u) → va_S A s.heap H1 locs1 → W p l e R s m args below meth c H1 locs1 k1 n1 Q (F0 m (pc + 3) ls rest)) : W p l e R s m args below meth c H locs cells slots Q (F0 m pc ls st) := by
  subst hst; subst hk; subst hns; subst hws
  have hp : (wr ++ [(a, e0)]).Perm ([(a, e0)] ++ wr) := List.perm_append_comm
  have hFc : ∀ q, va_A [(a, e0)] H.size q → A q := fun q h => (k_free (hD.perm hp) hS hA) q (h.elim (fun ⟨k, e, h⟩ => Or.inl ⟨k, e, by rw [List.getElem?_append_left (List.getElem?_eq_some_iff.mp h).1]; exact h⟩) Or.inr)
  have hPc : va_P g.1 vwCl [(a, e0)] H := fun k q hk => (hP.perm hp) k q (by rw [List.getElem?_append_left (List.getElem?_eq_some_iff.mp hk).1]; exact hk)
  have hDc : va_D (fun _ => True) [(a, e0)] := by
    obtain ⟨h1, h2⟩ := va_D.iff.mp (hD.perm hp)
    rw [List.map_append] at h1
    exact va_D.iff.mpr ⟨(List.nodup_append.mp h1).1, fun _ _ => trivial⟩
  have hpre : PreS s H (va_Pc (.ref a :: As) (wB g [(a, e0)] H.size)) (.ref a :: As) := ⟨k_blind, fun U hU hW => ⟨rfl, by rw [hU], by rw [hU]; exact hPc, va_K.moved hW.alike hK, hDc, by rw [hU]; exact BG.warm hW ((hG.kept hS.2.1).narrow hFc)⟩⟩
  have run : va_Run p l e R s m args below meth c H locs cells slots mc ms (F0 m pc ls (As.reverse ++ .ref a :: rest)) rest (va_Qv pr (fun u => wE g (va_A [(a, e0)] H.size) (w1 u)) (va_A [(a, e0)] H.size) (Value.ref a :: As).toArray) (va_A [(a, e0)] H.size) := by
    rcases cw with cw | cw
    · exact va_runI (As := As) (rest := rest) S (hM H.size) cw hpre rfl hn hsz rfl (lv_room hW) hdg hf
    · exact va_runIN (As := As) (rest := rest) S (hM H.size) cw hpre rfl hn hsz rfl (lv_room hW) hdg hf
  refine va_callv run hS (fun q _ h => hFc q h) hFc (fun u t H1 locs1 ht hvm hw hB hz1 hk1 hS1 => ?_)
  obtain ⟨hP1, _, hD1⟩ := hB
  rw [ht] at hP1
  obtain ⟨hP2, hD2⟩ := k_joinQ hP hD hp (w1 := w1 u) List.perm_append_comm hk1 hFc hP1 hD1
  exact kk u H1 locs1 hw hP2 hD2 hS1
theorem k_nret0 {S1 : Type} {cc : ByteArray} {u : S1} {w1 : S1 → va_W} {pr : S1 → Prop} (hx : p.tables.exec = Jvm.exec) (hb : c.code = cc) (hr : meth.sig.returnType = none) (hlocks : meth.locks = false) (hK : va_K g.1 vwCl (tyL g) s) (hP : va_P g.1 vwCl (w1 u) H) (hD : va_D A (w1 u)) (hS : va_S A s.heap H locs) (hu : pr u) {pc : Nat} {ls : Array Slot} (hdg : decode cc pc = .ok (.return_, 1)) : W p l e R s m args below meth c H locs cells slots (MQ below (va_Qv pr (fun u => wE g A (w1 u)) A) args s cells slots A) (F0 m pc ls []) :=
  W.vret hx hb hr (fun t ht hW => ⟨⟨u, rfl, hu, by rw [ht]; exact hP, va_K.moved hW.alike hK, hD⟩, hS.F ht⟩) hS.2.2 hdg (hlocks := hlocks)
end
abbrev wsX2_init : List Cond := .code yX2_init cX2_init 1 none :: UW
abbrev rmX2_init : Room := { frames := 1, cells := 2, slots := 48, locals := 12 }
set_option maxHeartbeats 4000000 in
set_option maxRecDepth 100000 in
theorem c_X2_init (l : Launch) (g : Gx) (a0 : Nat) : CtN l yX2_init wsX2_init rmX2_init g [.ref a0] [(a0, .inr (2, [.null, .null]))] (S := Nat → Nat) (fun (b : Nat → Nat) => cL g b zV) (fun (b : Nat → Nat) => b 0 = a0) 2 48 := by
  unfold CtN
  intro sz
  refine Met.ofW (cc := cX2_init) (maxL := 1) (ret := none) (by decide) rfl ?_
  intro p e s m args below meth c s₁ B hml hv
  obtain ⟨rfl, hsz, hP, hK, hD0, hG⟩ := hv
  have hx := B.exec
  have hb := B.bytes
  have hr := B.returns
  have hts := atoms_spec (ws := wsX2_init) B.pre
  have hown : s.vm.findClass RX2 = some m.cls := findClass_of_methodNamed B.named
  have hlocks := B.notSynchronized
  have hin : meth.name = "<init>" := (name_of_methodNamed B.named B.method).1
  subst hsz
  have hD := hD0.self (sz := s.heap.size)
  generalize hAe : va_A [(a0, .inr (2, [.null, .null]))] s.heap.size = A at hD hG ⊢
  have hA : ∀ q : Nat, s.heap.size ≤ q → A q := fun q h => by rw [← hAe]; exact Or.inr h
  clear hAe hD0
  have hS : va_S A s.heap s.heap [] := va_S.rf
  have hl := lv_entry ([.ref a0]) (n := 1) (Nat.le_of_ble_eq_true rfl)
  rw [lg_entry_eq]
  generalize (lg_sl ([.ref a0]) ++ List.replicate (1 - (lg_sl ([.ref a0])).length) Slot.unset).toArray = ls at hl ⊢
  have hl : lv_has ls 1 [(0, .ref a0)] := hl
  have htu : ∀ w ∈ UW, w.before _ s = true := fun w h => hts w (List.mem_cons_of_mem _ h)
  have k_1_222 := htu _ mw_1_222
  have k_1_232 := htu _ mw_1_232
  have k_1_223 := htu _ mw_1_223
  have k_1_225 := htu _ mw_1_225
  obtain ⟨H, hH⟩ : ∃ z, z = s.heap := ⟨_, rfl⟩
  obtain ⟨locs, hlo⟩ : ∃ z : List Loc, z = [] := ⟨_, rfl⟩
  have hS : va_S A s.heap H locs := by rw [hH, hlo]; exact hS
  rw [← hH] at hP
  have hW : W p l e (headSpec wsX2_init rmX2_init).room s m ([.ref a0] : List Value).toArray below meth c H locs 0 0 (MQ below (va_Qv (fun (b : Nat → Nat) => b 0 = a0) (fun (u : Nat → Nat) => wE g A ((fun (b : Nat → Nat) => cL g b zV) u)) A) ([.ref a0] : List Value).toArray s 2 48 A) (F0 m 0 ls []) := by
    refine lv_aload_n hx hb dX2_init_0 rfl (lv_at hl 0 rfl) ?_
    refine W.objInit hx hb hown k_1_222 (htu _ mw_1_35) (htu _ mw_1_36) rfl (by rw [hml]; exact hl.1) rfl dX2_init_1 (Nat.le_of_ble_eq_true rfl) (Nat.le_of_ble_eq_true rfl) ?_
    refine W.eq (g2 := F0 m 4 ls []) rfl ?_
    refine lv_aload_n hx hb dX2_init_4 rfl (lv_at hl 0 rfl) ?_
    refine lv_bipush (v := (24 : Int32)) hx hb dX2_init_5 (by decide) ?_
    refine k_newJ (N' := 24) hx hb k_1_232 hK hP hD hS hA (by decide) (by decide) (by decide) (Nat.le_of_ble_eq_true rfl) (Nat.le_of_ble_eq_true rfl) dX2_init_7 (fun q0 H hP hD hS => ?_)
    have hP : va_P g.1 vwCl ([(a0, .inr (2, [.null, .null])), (q0, .inl (g.2.2.1, 24, .inr (.inl (fun _ => 0))))]) H := hP
    have hD : va_D A ([(a0, .inr (2, [.null, .null])), (q0, .inl (g.2.2.1, 24, .inr (.inl (fun _ => 0))))]) := hD
    refine W.widen (k := 1) (n := 24) (by omega) (by omega) ?_
    refine va_putF (D := g.1) (ci := 2) (fs := [.null, .null]) (v := .ref q0) (ty := .array .long) (C := RX2) (T := TX2) (N := 2) hx hb htu hinX2 tyX2 tyX2_ok nmX2 hown hK hP hD hS 0 rfl rfl 0 (by decide) k_1_223 (fun _ h9 => h9) rfl hin rfl (by decide +kernel) rfl rfl (Nat.le_of_ble_eq_true rfl) dX2_init_9 (fun H locs hP hD hS => ?_)
    have hP : va_P g.1 vwCl ([(a0, .inr (2, [.ref q0, .null])), (q0, .inl (g.2.2.1, 24, .inr (.inl (fun _ => 0))))]) H := hP
    have hD : va_D A ([(a0, .inr (2, [.ref q0, .null])), (q0, .inl (g.2.2.1, 24, .inr (.inl (fun _ => 0))))]) := hD
    refine lv_aload_n hx hb dX2_init_12 rfl (lv_at hl 0 rfl) ?_
    refine lv_bipush (v := (24 : Int32)) hx hb dX2_init_13 (by decide) ?_
    refine k_newJ (N' := 24) hx hb k_1_232 hK hP hD hS hA (by decide) (by decide) (by decide) (Nat.le_of_ble_eq_true rfl) (Nat.le_of_ble_eq_true rfl) dX2_init_15 (fun q1 H hP hD hS => ?_)
    have hP : va_P g.1 vwCl ([(a0, .inr (2, [.ref q0, .null])), (q0, .inl (g.2.2.1, 24, .inr (.inl (fun _ => 0)))), (q1, .inl (g.2.2.1, 24, .inr (.inl (fun _ => 0))))]) H := hP
    have hD : va_D A ([(a0, .inr (2, [.ref q0, .null])), (q0, .inl (g.2.2.1, 24, .inr (.inl (fun _ => 0)))), (q1, .inl (g.2.2.1, 24, .inr (.inl (fun _ => 0))))]) := hD
    refine W.widen (k := 2) (n := 48) (by omega) (by omega) ?_
    refine va_putF (D := g.1) (ci := 2) (fs := [.ref q0, .null]) (v := .ref q1) (ty := .array .long) (C := RX2) (T := TX2) (N := 2) hx hb htu hinX2 tyX2 tyX2_ok nmX2 hown hK hP hD hS 0 rfl rfl 1 (by decide) k_1_225 (fun _ h9 => h9) rfl hin rfl (by decide +kernel) rfl rfl (Nat.le_of_ble_eq_true rfl) dX2_init_17 (fun H locs hP hD hS => ?_)
    have hP : va_P g.1 vwCl ([(a0, .inr (2, [.ref q0, .ref q1])), (q0, .inl (g.2.2.1, 24, .inr (.inl (fun _ => 0)))), (q1, .inl (g.2.2.1, 24, .inr (.inl (fun _ => 0))))]) H := hP
    have hD : va_D A ([(a0, .inr (2, [.ref q0, .ref q1])), (q0, .inl (g.2.2.1, 24, .inr (.inl (fun _ => 0)))), (q1, .inl (g.2.2.1, 24, .inr (.inl (fun _ => 0))))]) := hD
    exact k_nret0 (u := (fun j => ([a0, q0, q1] : List Nat).getD j 0)) (w1 := fun (b : Nat → Nat) => cL g b zV) (pr := fun (b : Nat → Nat) => b 0 = a0) hx hb hr hlocks hK hP hD hS rfl dX2_init_20
  rw [hH, hlo] at hW
  exact hW
abbrev wsX6_init : List Cond := .code yX6_init cX6_init 1 none :: UW
abbrev rmX6_init : Room := { frames := 1, cells := 4, slots := 44, locals := 12 }
set_option maxHeartbeats 4000000 in
set_option maxRecDepth 100000 in
theorem c_X6_init (l : Launch) (g : Gx) (a0 : Nat) : CtN l yX6_init wsX6_init rmX6_init g [.ref a0] [(a0, .inr (6, [.int 0, .null, .null, .null, .null]))] (S := Nat → Nat) (fun (b : Nat → Nat) => cT g b zV) (fun (b : Nat → Nat) => b 0 = a0) 4 44 := by
  unfold CtN
  intro sz
  refine Met.ofW (cc := cX6_init) (maxL := 1) (ret := none) (by decide) rfl ?_
  intro p e s m args below meth c s₁ B hml hv
  obtain ⟨rfl, hsz, hP, hK, hD0, hG⟩ := hv
  have hx := B.exec
  have hb := B.bytes
  have hr := B.returns
  have hts := atoms_spec (ws := wsX6_init) B.pre
  have hown : s.vm.findClass RX6 = some m.cls := findClass_of_methodNamed B.named
  have hlocks := B.notSynchronized
  have hin : meth.name = "<init>" := (name_of_methodNamed B.named B.method).1
  subst hsz
  have hD := hD0.self (sz := s.heap.size)
  generalize hAe : va_A [(a0, .inr (6, [.int 0, .null, .null, .null, .null]))] s.heap.size = A at hD hG ⊢
  have hA : ∀ q : Nat, s.heap.size ≤ q → A q := fun q h => by rw [← hAe]; exact Or.inr h
  clear hAe hD0
  have hS : va_S A s.heap s.heap [] := va_S.rf
  have hl := lv_entry ([.ref a0]) (n := 1) (Nat.le_of_ble_eq_true rfl)
  rw [lg_entry_eq]
  generalize (lg_sl ([.ref a0]) ++ List.replicate (1 - (lg_sl ([.ref a0])).length) Slot.unset).toArray = ls at hl ⊢
  have hl : lv_has ls 1 [(0, .ref a0)] := hl
  have htu : ∀ w ∈ UW, w.before _ s = true := fun w h => hts w (List.mem_cons_of_mem _ h)
  have k_1_125 := htu _ mw_1_125
  have k_1_126 := htu _ mw_1_126
  have k_1_119 := htu _ mw_1_119
  have k_1_129 := htu _ mw_1_129
  have k_1_131 := htu _ mw_1_131
  have k_1_133 := htu _ mw_1_133
  have k_1_134 := htu _ mw_1_134
  obtain ⟨H, hH⟩ : ∃ z, z = s.heap := ⟨_, rfl⟩
  obtain ⟨locs, hlo⟩ : ∃ z : List Loc, z = [] := ⟨_, rfl⟩
  have hS : va_S A s.heap H locs := by rw [hH, hlo]; exact hS
  rw [← hH] at hP
  have hW : W p l e (headSpec wsX6_init rmX6_init).room s m ([.ref a0] : List Value).toArray below meth c H locs 0 0 (MQ below (va_Qv (fun (b : Nat → Nat) => b 0 = a0) (fun (u : Nat → Nat) => wE g A ((fun (b : Nat → Nat) => cT g b zV) u)) A) ([.ref a0] : List Value).toArray s 4 44 A) (F0 m 0 ls []) := by
    refine lv_aload_n hx hb dX6_init_0 rfl (lv_at hl 0 rfl) ?_
    refine W.objInit hx hb hown k_1_125 (htu _ mw_1_35) (htu _ mw_1_36) rfl (by rw [hml]; exact hl.1) rfl dX6_init_1 (Nat.le_of_ble_eq_true rfl) (Nat.le_of_ble_eq_true rfl) ?_
    refine W.eq (g2 := F0 m 4 ls []) rfl ?_
    refine lv_aload_n hx hb dX6_init_4 rfl (lv_at hl 0 rfl) ?_
    refine lv_iconst (v := (0 : Int32)) hx hb dX6_init_5 (by decide) ?_
    refine va_put (D := g.1) (ci := 6) (fs := [.int 0, .null, .null, .null, .null]) (v := .int (0 : Int32)) (ty := .int) (C := RX6) (T := TX6) (N := 5) hx hb htu hinX6 tyX6 tyX6_ok nmX6 hown hK hP hD hS 0 rfl rfl 0 (by decide) k_1_126 (fun _ h9 => h9) rfl (by decide +kernel) rfl rfl (Nat.le_of_ble_eq_true rfl) dX6_init_6 (fun H locs hP hD hS => ?_)
    have hP : va_P g.1 vwCl ([(a0, .inr (6, [.int (0 : Int32), .null, .null, .null, .null]))]) H := hP
    have hD : va_D A ([(a0, .inr (6, [.int (0 : Int32), .null, .null, .null, .null]))]) := hD
    refine lv_aload_n hx hb dX6_init_9 rfl (lv_at hl 0 rfl) ?_
    refine lv_bipush (v := (16 : Int32)) hx hb dX6_init_10 (by decide) ?_
    refine k_newI (N' := 16) hx hb k_1_119 hK hP hD hS hA (by decide) (by decide) (by decide) (Nat.le_of_ble_eq_true rfl) (Nat.le_of_ble_eq_true rfl) dX6_init_12 (fun q0 H hP hD hS => ?_)
    have hP : va_P g.1 vwCl ([(a0, .inr (6, [.int (0 : Int32), .null, .null, .null, .null])), (q0, .inl (g.2.1, 16, .inl (fun _ => 0)))]) H := hP
    have hD : va_D A ([(a0, .inr (6, [.int (0 : Int32), .null, .null, .null, .null])), (q0, .inl (g.2.1, 16, .inl (fun _ => 0)))]) := hD
    refine W.widen (k := 1) (n := 16) (by omega) (by omega) ?_
    refine va_putF (D := g.1) (ci := 6) (fs := [.int (0 : Int32), .null, .null, .null, .null]) (v := .ref q0) (ty := .array .int) (C := RX6) (T := TX6) (N := 5) hx hb htu hinX6 tyX6 tyX6_ok nmX6 hown hK hP hD hS 0 rfl rfl 1 (by decide) k_1_129 (fun _ h9 => h9) rfl hin rfl (by decide +kernel) rfl rfl (Nat.le_of_ble_eq_true rfl) dX6_init_14 (fun H locs hP hD hS => ?_)
    have hP : va_P g.1 vwCl ([(a0, .inr (6, [.int (0 : Int32), .ref q0, .null, .null, .null])), (q0, .inl (g.2.1, 16, .inl (fun _ => 0)))]) H := hP
    have hD : va_D A ([(a0, .inr (6, [.int (0 : Int32), .ref q0, .null, .null, .null])), (q0, .inl (g.2.1, 16, .inl (fun _ => 0)))]) := hD
    refine lv_aload_n hx hb dX6_init_17 rfl (lv_at hl 0 rfl) ?_
    refine lv_bipush (v := (16 : Int32)) hx hb dX6_init_18 (by decide) ?_
    refine k_newI (N' := 16) hx hb k_1_119 hK hP hD hS hA (by decide) (by decide) (by decide) (Nat.le_of_ble_eq_true rfl) (Nat.le_of_ble_eq_true rfl) dX6_init_20 (fun q1 H hP hD hS => ?_)
    have hP : va_P g.1 vwCl ([(a0, .inr (6, [.int (0 : Int32), .ref q0, .null, .null, .null])), (q0, .inl (g.2.1, 16, .inl (fun _ => 0))), (q1, .inl (g.2.1, 16, .inl (fun _ => 0)))]) H := hP
    have hD : va_D A ([(a0, .inr (6, [.int (0 : Int32), .ref q0, .null, .null, .null])), (q0, .inl (g.2.1, 16, .inl (fun _ => 0))), (q1, .inl (g.2.1, 16, .inl (fun _ => 0)))]) := hD
    refine W.widen (k := 2) (n := 32) (by omega) (by omega) ?_
    refine va_putF (D := g.1) (ci := 6) (fs := [.int (0 : Int32), .ref q0, .null, .null, .null]) (v := .ref q1) (ty := .array .int) (C := RX6) (T := TX6) (N := 5) hx hb htu hinX6 tyX6 tyX6_ok nmX6 hown hK hP hD hS 0 rfl rfl 2 (by decide) k_1_131 (fun _ h9 => h9) rfl hin rfl (by decide +kernel) rfl rfl (Nat.le_of_ble_eq_true rfl) dX6_init_22 (fun H locs hP hD hS => ?_)
    have hP : va_P g.1 vwCl ([(a0, .inr (6, [.int (0 : Int32), .ref q0, .ref q1, .null, .null])), (q0, .inl (g.2.1, 16, .inl (fun _ => 0))), (q1, .inl (g.2.1, 16, .inl (fun _ => 0)))]) H := hP
    have hD : va_D A ([(a0, .inr (6, [.int (0 : Int32), .ref q0, .ref q1, .null, .null])), (q0, .inl (g.2.1, 16, .inl (fun _ => 0))), (q1, .inl (g.2.1, 16, .inl (fun _ => 0)))]) := hD
    refine lv_aload_n hx hb dX6_init_25 rfl (lv_at hl 0 rfl) ?_
    refine lv_bipush (v := (6 : Int32)) hx hb dX6_init_26 (by decide) ?_
    refine k_newI (N' := 6) hx hb k_1_119 hK hP hD hS hA (by decide) (by decide) (by decide) (Nat.le_of_ble_eq_true rfl) (Nat.le_of_ble_eq_true rfl) dX6_init_28 (fun q2 H hP hD hS => ?_)
    have hP : va_P g.1 vwCl ([(a0, .inr (6, [.int (0 : Int32), .ref q0, .ref q1, .null, .null])), (q0, .inl (g.2.1, 16, .inl (fun _ => 0))), (q1, .inl (g.2.1, 16, .inl (fun _ => 0))), (q2, .inl (g.2.1, 6, .inl (fun _ => 0)))]) H := hP
    have hD : va_D A ([(a0, .inr (6, [.int (0 : Int32), .ref q0, .ref q1, .null, .null])), (q0, .inl (g.2.1, 16, .inl (fun _ => 0))), (q1, .inl (g.2.1, 16, .inl (fun _ => 0))), (q2, .inl (g.2.1, 6, .inl (fun _ => 0)))]) := hD
    refine W.widen (k := 3) (n := 38) (by omega) (by omega) ?_
    refine va_putF (D := g.1) (ci := 6) (fs := [.int (0 : Int32), .ref q0, .ref q1, .null, .null]) (v := .ref q2) (ty := .array .int) (C := RX6) (T := TX6) (N := 5) hx hb htu hinX6 tyX6 tyX6_ok nmX6 hown hK hP hD hS 0 rfl rfl 3 (by decide) k_1_133 (fun _ h9 => h9) rfl hin rfl (by decide +kernel) rfl rfl (Nat.le_of_ble_eq_true rfl) dX6_init_30 (fun H locs hP hD hS => ?_)
    have hP : va_P g.1 vwCl ([(a0, .inr (6, [.int (0 : Int32), .ref q0, .ref q1, .ref q2, .null])), (q0, .inl (g.2.1, 16, .inl (fun _ => 0))), (q1, .inl (g.2.1, 16, .inl (fun _ => 0))), (q2, .inl (g.2.1, 6, .inl (fun _ => 0)))]) H := hP
    have hD : va_D A ([(a0, .inr (6, [.int (0 : Int32), .ref q0, .ref q1, .ref q2, .null])), (q0, .inl (g.2.1, 16, .inl (fun _ => 0))), (q1, .inl (g.2.1, 16, .inl (fun _ => 0))), (q2, .inl (g.2.1, 6, .inl (fun _ => 0)))]) := hD
    refine lv_aload_n hx hb dX6_init_33 rfl (lv_at hl 0 rfl) ?_
    refine lv_bipush (v := (6 : Int32)) hx hb dX6_init_34 (by decide) ?_
    refine k_newI (N' := 6) hx hb k_1_119 hK hP hD hS hA (by decide) (by decide) (by decide) (Nat.le_of_ble_eq_true rfl) (Nat.le_of_ble_eq_true rfl) dX6_init_36 (fun q3 H hP hD hS => ?_)
    have hP : va_P g.1 vwCl ([(a0, .inr (6, [.int (0 : Int32), .ref q0, .ref q1, .ref q2, .null])), (q0, .inl (g.2.1, 16, .inl (fun _ => 0))), (q1, .inl (g.2.1, 16, .inl (fun _ => 0))), (q2, .inl (g.2.1, 6, .inl (fun _ => 0))), (q3, .inl (g.2.1, 6, .inl (fun _ => 0)))]) H := hP
    have hD : va_D A ([(a0, .inr (6, [.int (0 : Int32), .ref q0, .ref q1, .ref q2, .null])), (q0, .inl (g.2.1, 16, .inl (fun _ => 0))), (q1, .inl (g.2.1, 16, .inl (fun _ => 0))), (q2, .inl (g.2.1, 6, .inl (fun _ => 0))), (q3, .inl (g.2.1, 6, .inl (fun _ => 0)))]) := hD
    refine W.widen (k := 4) (n := 44) (by omega) (by omega) ?_
    refine va_putF (D := g.1) (ci := 6) (fs := [.int (0 : Int32), .ref q0, .ref q1, .ref q2, .null]) (v := .ref q3) (ty := .array .int) (C := RX6) (T := TX6) (N := 5) hx hb htu hinX6 tyX6 tyX6_ok nmX6 hown hK hP hD hS 0 rfl rfl 4 (by decide) k_1_134 (fun _ h9 => h9) rfl hin rfl (by decide +kernel) rfl rfl (Nat.le_of_ble_eq_true rfl) dX6_init_38 (fun H locs hP hD hS => ?_)
    have hP : va_P g.1 vwCl ([(a0, .inr (6, [.int (0 : Int32), .ref q0, .ref q1, .ref q2, .ref q3])), (q0, .inl (g.2.1, 16, .inl (fun _ => 0))), (q1, .inl (g.2.1, 16, .inl (fun _ => 0))), (q2, .inl (g.2.1, 6, .inl (fun _ => 0))), (q3, .inl (g.2.1, 6, .inl (fun _ => 0)))]) H := hP
    have hD : va_D A ([(a0, .inr (6, [.int (0 : Int32), .ref q0, .ref q1, .ref q2, .ref q3])), (q0, .inl (g.2.1, 16, .inl (fun _ => 0))), (q1, .inl (g.2.1, 16, .inl (fun _ => 0))), (q2, .inl (g.2.1, 6, .inl (fun _ => 0))), (q3, .inl (g.2.1, 6, .inl (fun _ => 0)))]) := hD
    exact k_nret0 (u := (fun j => ([a0, 0, q0, q1, q2, q3] : List Nat).getD j 0)) (w1 := fun (b : Nat → Nat) => cT g b zV) (pr := fun (b : Nat → Nat) => b 0 = a0) hx hb hr hlocks hK hP hD hS rfl dX6_init_41
  rw [hH, hlo] at hW
  exact hW
