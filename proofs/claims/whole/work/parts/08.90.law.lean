theorem gU_H {own : String} {idx : Nat} {y : MethodName} {bytes : ByteArray} {maxL : Nat} {ret : Option FieldType} {hh : List (Nat × Nat × Nat × Nat)} (h1 : Cond.methodLink own idx y ∈ UW) (hc : Cond.static y ∈ UW ∧ Cond.initialized y.cls ∈ UW ∧ Cond.codeWith y bytes maxL ret hh ∈ UW) : GoodIn UW (va_wsS own idx y (Cond.codeWith y bytes maxL ret hh :: UW)) := by
  obtain ⟨h2, h3, h5⟩ := hc
  intro w hw
  simp only [va_wsS, List.mem_append, List.mem_cons, List.not_mem_nil, or_false] at hw
  rcases hw with (rfl | rfl | rfl) | rfl | hw
  all_goals exact ⟨by assumption, good_of_word (UW_good (by assumption)).2⟩
theorem hdL_load : yL_load.cls ≠ "java/lang/invoke/MethodHandle" ∧ yL_load.cls ≠ "java/lang/invoke/VarHandle" ∧ (parseMethodDescriptor yL_load.desc).map (fun d => d.parameters.length) = some 3 := by decide +kernel
theorem hcL_load : Cond.static yL_load ∈ UW ∧ Cond.initialized yL_load.cls ∈ UW ∧ (Cond.codeWith yL_load cL_load 4 (some .int) [(0, 9, 12, 13)]) ∈ UW := ⟨mw_3_168, mw_1_0, mw_3_169⟩
theorem hdL_state : yL_state.cls ≠ "java/lang/invoke/MethodHandle" ∧ yL_state.cls ≠ "java/lang/invoke/VarHandle" ∧ (parseMethodDescriptor yL_state.desc).map (fun d => d.parameters.length) = some 3 := by decide +kernel
theorem hcL_state : Cond.static yL_state ∈ UW ∧ Cond.initialized yL_state.cls ∈ UW ∧ (Cond.codeWith yL_state cL_state 4 (some .int) [(0, 9, 12, 13)]) ∈ UW := ⟨mw_4_118, mw_1_0, mw_4_119⟩
theorem hdL_wire : yL_wire.cls ≠ "java/lang/invoke/MethodHandle" ∧ yL_wire.cls ≠ "java/lang/invoke/VarHandle" ∧ (parseMethodDescriptor yL_wire.desc).map (fun d => d.parameters.length) = some 4 := by decide +kernel
theorem hcL_wire : Cond.static yL_wire ∈ UW ∧ Cond.initialized yL_wire.cls ∈ UW ∧ (Cond.codeWith yL_wire cL_wire 5 (some .int) [(0, 10, 13, 22), (0, 10, 17, 13)]) ∈ UW := ⟨mw_4_122, mw_1_0, mw_4_123⟩
theorem hdL_operand : yL_operand.cls ≠ "java/lang/invoke/MethodHandle" ∧ yL_operand.cls ≠ "java/lang/invoke/VarHandle" ∧ (parseMethodDescriptor yL_operand.desc).map (fun d => d.parameters.length) = some 4 := by decide +kernel
theorem hcL_operand : Cond.static yL_operand ∈ UW ∧ Cond.initialized yL_operand.cls ∈ UW ∧ (Cond.codeWith yL_operand cL_operand 5 (some .int) [(0, 10, 13, 22), (0, 10, 17, 27)]) ∈ UW := ⟨mw_4_127, mw_1_0, mw_4_128⟩
theorem hdL_value : yL_value.cls ≠ "java/lang/invoke/MethodHandle" ∧ yL_value.cls ≠ "java/lang/invoke/VarHandle" ∧ (parseMethodDescriptor yL_value.desc).map (fun d => d.parameters.length) = some 4 := by decide +kernel
theorem hcL_value : Cond.static yL_value ∈ UW ∧ Cond.initialized yL_value.cls ∈ UW ∧ (Cond.codeWith yL_value cL_value 5 (some .int) [(0, 10, 13, 22)]) ∈ UW := ⟨mw_4_151, mw_1_0, mw_4_152⟩
theorem hdL_faulty : yL_faulty.cls ≠ "java/lang/invoke/MethodHandle" ∧ yL_faulty.cls ≠ "java/lang/invoke/VarHandle" ∧ (parseMethodDescriptor yL_faulty.desc).map (fun d => d.parameters.length) = some 5 := by decide +kernel
theorem hcL_faulty : Cond.static yL_faulty ∈ UW ∧ Cond.initialized yL_faulty.cls ∈ UW ∧ (Cond.codeWith yL_faulty cL_faulty 6 (some .int) [(0, 12, 15, 22)]) ∈ UW := ⟨mw_4_163, mw_1_0, mw_4_164⟩
theorem hdL_finds : yL_finds.cls ≠ "java/lang/invoke/MethodHandle" ∧ yL_finds.cls ≠ "java/lang/invoke/VarHandle" ∧ (parseMethodDescriptor yL_finds.desc).map (fun d => d.parameters.length) = some 4 := by decide +kernel
theorem hcL_finds : Cond.static yL_finds ∈ UW ∧ Cond.initialized yL_finds.cls ∈ UW ∧ (Cond.codeWith yL_finds cL_finds 5 (some .int) [(0, 10, 13, 22)]) ∈ UW := ⟨mw_4_176, mw_1_0, mw_4_177⟩
theorem hdL_tellsApart : yL_tellsApart.cls ≠ "java/lang/invoke/MethodHandle" ∧ yL_tellsApart.cls ≠ "java/lang/invoke/VarHandle" ∧ (parseMethodDescriptor yL_tellsApart.desc).map (fun d => d.parameters.length) = some 5 := by decide +kernel
theorem hcL_tellsApart : Cond.static yL_tellsApart ∈ UW ∧ Cond.initialized yL_tellsApart.cls ∈ UW ∧ (Cond.codeWith yL_tellsApart cL_tellsApart 6 (some .int) [(0, 19, 22, 22)]) ∈ UW := ⟨mw_4_189, mw_1_0, mw_4_190⟩
theorem hdL_worth : yL_worth.cls ≠ "java/lang/invoke/MethodHandle" ∧ yL_worth.cls ≠ "java/lang/invoke/VarHandle" ∧ (parseMethodDescriptor yL_worth.desc).map (fun d => d.parameters.length) = some 3 := by decide +kernel
theorem hcL_worth : Cond.static yL_worth ∈ UW ∧ Cond.initialized yL_worth.cls ∈ UW ∧ (Cond.codeWith yL_worth cL_worth 4 (some .int) [(0, 9, 12, 22)]) ∈ UW := ⟨mw_4_196, mw_1_0, mw_4_197⟩
theorem hdL_testFor : yL_testFor.cls ≠ "java/lang/invoke/MethodHandle" ∧ yL_testFor.cls ≠ "java/lang/invoke/VarHandle" ∧ (parseMethodDescriptor yL_testFor.desc).map (fun d => d.parameters.length) = some 3 := by decide +kernel
theorem hcL_testFor : Cond.static yL_testFor ∈ UW ∧ Cond.initialized yL_testFor.cls ∈ UW ∧ (Cond.codeWith yL_testFor cL_testFor 4 (some .int) [(0, 9, 12, 22)]) ∈ UW := ⟨mw_4_203, mw_1_0, mw_4_204⟩
theorem hdL_testBetween : yL_testBetween.cls ≠ "java/lang/invoke/MethodHandle" ∧ yL_testBetween.cls ≠ "java/lang/invoke/VarHandle" ∧ (parseMethodDescriptor yL_testBetween.desc).map (fun d => d.parameters.length) = some 4 := by decide +kernel
theorem hcL_testBetween : Cond.static yL_testBetween ∈ UW ∧ Cond.initialized yL_testBetween.cls ∈ UW ∧ (Cond.codeWith yL_testBetween cL_testBetween 5 (some .int) [(0, 10, 13, 22)]) ∈ UW := ⟨mw_4_210, mw_1_0, mw_4_211⟩
theorem hdL_alike : yL_alike.cls ≠ "java/lang/invoke/MethodHandle" ∧ yL_alike.cls ≠ "java/lang/invoke/VarHandle" ∧ (parseMethodDescriptor yL_alike.desc).map (fun d => d.parameters.length) = some 3 := by decide +kernel
theorem hcL_alike : Cond.static yL_alike ∈ UW ∧ Cond.initialized yL_alike.cls ∈ UW ∧ (Cond.codeWith yL_alike cL_alike 4 (some .int) [(0, 9, 12, 22)]) ∈ UW := ⟨mw_4_217, mw_1_0, mw_4_218⟩
theorem hdL_suspect : yL_suspect.cls ≠ "java/lang/invoke/MethodHandle" ∧ yL_suspect.cls ≠ "java/lang/invoke/VarHandle" ∧ (parseMethodDescriptor yL_suspect.desc).map (fun d => d.parameters.length) = some 3 := by decide +kernel
theorem hcL_suspect : Cond.static yL_suspect ∈ UW ∧ Cond.initialized yL_suspect.cls ∈ UW ∧ (Cond.codeWith yL_suspect cL_suspect 4 (some .int) [(0, 9, 12, 27)]) ∈ UW := ⟨mw_4_224, mw_1_0, mw_4_225⟩
theorem hdL_addTest : yL_addTest.cls ≠ "java/lang/invoke/MethodHandle" ∧ yL_addTest.cls ≠ "java/lang/invoke/VarHandle" ∧ (parseMethodDescriptor yL_addTest.desc).map (fun d => d.parameters.length) = some 4 := by decide +kernel
theorem hcL_addTest : Cond.static yL_addTest ∈ UW ∧ Cond.initialized yL_addTest.cls ∈ UW ∧ (Cond.codeWith yL_addTest cL_addTest 5 (some .int) [(0, 10, 13, 13), (0, 10, 17, 61)]) ∈ UW := ⟨mw_4_232, mw_1_0, mw_4_233⟩
theorem hdL_removeTest : yL_removeTest.cls ≠ "java/lang/invoke/MethodHandle" ∧ yL_removeTest.cls ≠ "java/lang/invoke/VarHandle" ∧ (parseMethodDescriptor yL_removeTest.desc).map (fun d => d.parameters.length) = some 3 := by decide +kernel
theorem hcL_removeTest : Cond.static yL_removeTest ∈ UW ∧ Cond.initialized yL_removeTest.cls ∈ UW ∧ (Cond.codeWith yL_removeTest cL_removeTest 4 (some .int) [(0, 9, 12, 22)]) ∈ UW := ⟨mw_5_21, mw_1_0, mw_5_22⟩
theorem hdL_setKind : yL_setKind.cls ≠ "java/lang/invoke/MethodHandle" ∧ yL_setKind.cls ≠ "java/lang/invoke/VarHandle" ∧ (parseMethodDescriptor yL_setKind.desc).map (fun d => d.parameters.length) = some 4 := by decide +kernel
theorem hcL_setKind : Cond.static yL_setKind ∈ UW ∧ Cond.initialized yL_setKind.cls ∈ UW ∧ (Cond.codeWith yL_setKind cL_setKind 5 (some .int) [(0, 10, 13, 22), (0, 10, 17, 13)]) ∈ UW := ⟨mw_5_35, mw_1_0, mw_5_36⟩
theorem hdL_see : yL_see.cls ≠ "java/lang/invoke/MethodHandle" ∧ yL_see.cls ≠ "java/lang/invoke/VarHandle" ∧ (parseMethodDescriptor yL_see.desc).map (fun d => d.parameters.length) = some 5 := by decide +kernel
theorem hcL_see : Cond.static yL_see ∈ UW ∧ Cond.initialized yL_see.cls ∈ UW ∧ (Cond.codeWith yL_see cL_see 6 (some .int) [(0, 12, 15, 22), (0, 12, 19, 13)]) ∈ UW := ⟨mw_5_46, mw_1_0, mw_5_47⟩
section
variable {p : Program} {l : Launch} {e : Env} {R : Room} {s : State} {m : MethodId} {args : Array Value} {below : List Frame} {meth : Method} {c : Code} {H : Heap} {locs : List Loc} {cells slots : Nat} {Q : State → Prop} {g : Gx} {A : Nat → Prop}
theorem k_vdQ {cc : ByteArray} {nL : Nat} {Ts : List Cond} {own : String} (S : CallFix p m c cc nL s args Ts own) {ws wc wr w1 w2 : va_W} (hK : va_K g.1 vwCl (tyL g) s) (hP : va_P g.1 vwCl ws H) (hD : va_D A ws) (hS : va_S A s.heap H locs) (hA : ∀ q, s.heap.size ≤ q → A q) (hG : BG g A s s.heap) {y : MethodName} {wy : List Cond} {rm : Room} {As : List Value} {a : Nat} {r : UInt64} {mc ms : Nat} (hM : CtD l y wy rm g (.ref a :: As) wc w1 r mc ms) {C : String} {index : Nat} {bytes : ByteArray} {maxL : Nat} {ret : Option FieldType} {n : Nat} (cw : CallW R s args own C index y bytes maxL ret wy rm mc ms n) {q0 ci : Nat} {fs : List Value} {q : vw_C} (hc : vwCl[ci]? = some q) (he : ws[q0]? = some (a, .inr (ci, fs))) (hq : q.1 = C) (hp : ws.Perm (wc ++ wr)) (hqp : (w1 ++ wr).Perm w2) {pc : Nat} {ls : Array Slot} {st rest : List Value} (hst : st = As.reverse ++ .ref a :: rest) (hn : As.length = n) (hsz : ls.size = nL) (hW : (rest.map fun v => v.category).sum ≤ 8) (hdg : decode cc pc = .ok (.invokevirtual index, 3)) {k1 n1 : Nat} (hk : cells + mc = k1) (hns : slots + ms = n1) (hf : k1 ≤ R.cells ∧ n1 ≤ R.slots) (kk : ∀ (H1 : Heap) (locs1 : List Loc), va_P g.1 vwCl w2 H1 → va_D A w2 → va_S A s.heap H1 locs1 → W p l e R s m args below meth c H1 locs1 k1 n1 Q (F0 m (pc + 3) ls (.double r :: rest))) : W p l e R s m args below meth c H locs cells slots Q (F0 m pc ls st) := by
  subst hst; subst hk; subst hns
  subst hq
  have hFc : ∀ q, va_A wc H.size q → A q := fun q h => (k_free (hD.perm hp) hS hA) q (h.elim (fun ⟨k, e, h⟩ => Or.inl ⟨k, e, by rw [List.getElem?_append_left (List.getElem?_eq_some_iff.mp h).1]; exact h⟩) Or.inr)
  have hPc : va_P g.1 vwCl wc H := fun k q hk => (hP.perm hp) k q (by rw [List.getElem?_append_left (List.getElem?_eq_some_iff.mp hk).1]; exact hk)
  have hDc : va_D (fun _ => True) wc := by
    obtain ⟨h1, h2⟩ := va_D.iff.mp (hD.perm hp)
    rw [List.map_append] at h1
    exact va_D.iff.mpr ⟨(List.nodup_append.mp h1).1, fun _ _ => trivial⟩
  refine va_calld (va_runV (As := As) (rest := rest) S (hM H.size) cw ⟨k_blind, va_recv hK hP hc he, fun U hU hW => ⟨rfl, by rw [hU], by rw [hU]; exact hPc, va_K.moved hW.alike hK, hDc, by rw [hU]; exact BG.warm hW ((hG.kept hS.2.1).narrow hFc)⟩⟩ rfl hn hsz rfl (lv_room hW) hdg hf) hS (fun q _ h => hFc q h) hFc (fun r1 u t H1 locs1 ht hvm hw hB hz1 hk1 hS1 => ?_)
  obtain ⟨hP1, _, hD1⟩ := hB
  rw [ht] at hP1
  subst hw
  obtain ⟨hP2, hD2⟩ := k_joinQ hP hD hp hqp hk1 hFc hP1 hD1
  exact kk H1 locs1 hP2 hD2 hS1
end

def f_L_body (xs : Nat → Int32) (L : Nat) (nRT nRF : Nat) (self0 : Vs → Vs → Vs → Vs → Vs → Vs → Vs → Vs → Vs → Vs → Vs → Vs → Vs → Vs → Hv → Int32 → Option Unit) (vM : Vs) (vO : Vs) (vF : Vs) (vC : Vs) (vT : Vs) (vRT : Vs) (vG : Vs) (vB : Vs) (vRF : Vs) (vGF : Vs) (vBF : Vs) (vD : Vs) (vE : Vs) (vU : Vs) (vH : Hv) (x4 : Int32) : Option Unit :=
  gd (inb x4 L) (jn (fun (vM_2 : Vs) (vO_3 : Vs) (vF_4 : Vs) (vC_5 : Vs) (vT_6 : Vs) (vRT_7 : Vs) (vG_8 : Vs) (vB_9 : Vs) (vRF_10 : Vs) (vGF_11 : Vs) (vBF_12 : Vs) (vD_13 : Vs) (vE_14 : Vs) (vU_15 : Vs) (vH_16 : Hv) => self0 vM_2 vO_3 vF_4 vC_5 vT_6 vRT_7 vG_8 vB_9 vRF_10 vGF_11 vBF_12 vD_13 vE_14 vU_15 vH_16 (x4 + (6 : Int32))) (fun k17 => if ((xs (x4).toNatClampNeg) &&& (31 : Int32)) = (0 : Int32) then gd (inb (x4 + (1 : Int32)) L) (gd (inb (x4 + (2 : Int32)) L) (gd (inb (x4 + (3 : Int32)) L) (gd (inb (x4 + (4 : Int32)) L) (gd (inb (x4 + (5 : Int32)) L) (o2 (f_X7_append vF vD (xs ((x4 + (1 : Int32))).toNatClampNeg) (xs ((x4 + (2 : Int32))).toNatClampNeg) (xs ((x4 + (3 : Int32))).toNatClampNeg) (xs ((x4 + (4 : Int32))).toNatClampNeg) (xs ((x4 + (5 : Int32))).toNatClampNeg)) (fun (r26 : Int32) (vD_27 : Vs) => gd (inb (x4 + (1 : Int32)) L) (gd (inb (x4 + (2 : Int32)) L) (gd (inb (x4 + (3 : Int32)) L) (gd (inb (x4 + (4 : Int32)) L) (gd (inb (x4 + (5 : Int32)) L) (o2 (f_X8_append vM (xs ((x4 + (1 : Int32))).toNatClampNeg) (xs ((x4 + (2 : Int32))).toNatClampNeg) (xs ((x4 + (3 : Int32))).toNatClampNeg) (xs ((x4 + (4 : Int32))).toNatClampNeg) (xs ((x4 + (5 : Int32))).toNatClampNeg)) (fun (r34 : Int32) (vM_35 : Vs) => if r26 = r34 then k17 vM_35 vO vF vC vT vRT vG vB vRF vGF vBF vD_27 vE vU vH else none)))))))))))) else if ((xs (x4).toNatClampNeg) &&& (31 : Int32)) = (1 : Int32) then gd (inb (x4 + (1 : Int32)) L) (o9 (f_L_load vO vF vC vT vD vE vU vH (xs ((x4 + (1 : Int32))).toNatClampNeg)) (fun (r40 : Int32) (vO_41 : Vs) (vF_42 : Vs) (vC_43 : Vs) (vT_44 : Vs) (vD_45 : Vs) (vE_46 : Vs) (vU_47 : Vs) (vH_48 : Hv) => gd (inb (x4 + (1 : Int32)) L) (o2 (f_X8_load vM (xs ((x4 + (1 : Int32))).toNatClampNeg)) (fun (r51 : Int32) (vM_52 : Vs) => o1 (f_X8_thrown vM_52) (fun (r54 : Int32) => if r54 = r40 then jn (k17 vM_52 vO_41 vF_42 vC_43 vT_44 vRT vG vB vRF vGF vBF vD_45 vE_46 vU_47 vH_48) (fun k57 => if r40 = 0 then gd (inb (0 : Int32) 1) (if (lg_cmp (vO_41.2.2 0 ((0 : Int32)).toNatClampNeg) ((r51).toInt64)) = 0 then k57 else none) else k57) else none))))) else if ((xs (x4).toNatClampNeg) &&& (31 : Int32)) = (2 : Int32) then o1 (f_X7_errorOffset vF vD) (fun (r64 : Int32) => o2 (f_X8_errorOffset vM) (fun (r66 : Int32) (vM_67 : Vs) => if r64 = r66 then k17 vM_67 vO vF vC vT vRT vG vB vRF vGF vBF vD vE vU vH else none)) else if ((xs (x4).toNatClampNeg) &&& (31 : Int32)) = (3 : Int32) then gd (inb (x4 + (1 : Int32)) L) (o6 (f_L_state vO vF vC vT nRT vRT vG vB (xs ((x4 + (1 : Int32))).toNatClampNeg)) (fun (r72 : Int32) (vO_73 : Vs) (vF_74 : Vs) (vRT_75 : Vs) (vG_76 : Vs) (vB_77 : Vs) => gd (inb (x4 + (1 : Int32)) L) (o2 (f_X8_state vM (xs ((x4 + (1 : Int32))).toNatClampNeg)) (fun (r80 : Int32) (vM_81 : Vs) => o1 (f_X8_thrown vM_81) (fun (r83 : Int32) => if r83 = r72 then jn (k17 vM_81 vO_73 vF_74 vC vT vRT_75 vG_76 vB_77 vRF vGF vBF vD vE vU vH) (fun k86 => if r72 = 0 then gd (inb (0 : Int32) 1) (if (lg_cmp (vO_73.2.2 0 ((0 : Int32)).toNatClampNeg) ((r80).toInt64)) = 0 then k86 else none) else k86) else none))))) else if ((xs (x4).toNatClampNeg) &&& (31 : Int32)) = (4 : Int32) then gd (inb (x4 + (1 : Int32)) L) (gd (inb (x4 + (2 : Int32)) L) (o2 (f_L_wire vO vF vC (xs ((x4 + (1 : Int32))).toNatClampNeg) (xs ((x4 + (2 : Int32))).toNatClampNeg)) (fun (r95 : Int32) (vO_96 : Vs) => gd (inb (x4 + (1 : Int32)) L) (gd (inb (x4 + (2 : Int32)) L) (o2 (f_X8_wire vM (xs ((x4 + (1 : Int32))).toNatClampNeg) (xs ((x4 + (2 : Int32))).toNatClampNeg)) (fun (r100 : Int32) (vM_101 : Vs) => o1 (f_X8_thrown vM_101) (fun (r103 : Int32) => if r103 = r95 then jn (k17 vM_101 vO_96 vF vC vT vRT vG vB vRF vGF vBF vD vE vU vH) (fun k106 => if r95 = 0 then gd (inb (0 : Int32) 1) (if (lg_cmp (vO_96.2.2 0 ((0 : Int32)).toNatClampNeg) ((r100).toInt64)) = 0 then k106 else none) else k106) else none))))))) else if ((xs (x4).toNatClampNeg) &&& (31 : Int32)) = (5 : Int32) then gd (inb (x4 + (1 : Int32)) L) (gd (inb (x4 + (2 : Int32)) L) (o2 (f_L_operand vO vF vC (xs ((x4 + (1 : Int32))).toNatClampNeg) (xs ((x4 + (2 : Int32))).toNatClampNeg)) (fun (r115 : Int32) (vO_116 : Vs) => gd (inb (x4 + (1 : Int32)) L) (gd (inb (x4 + (2 : Int32)) L) (o2 (f_X8_operand vM (xs ((x4 + (1 : Int32))).toNatClampNeg) (xs ((x4 + (2 : Int32))).toNatClampNeg)) (fun (r120 : Int32) (vM_121 : Vs) => o1 (f_X8_thrown vM_121) (fun (r123 : Int32) => if r123 = r115 then jn (k17 vM_121 vO_116 vF vC vT vRT vG vB vRF vGF vBF vD vE vU vH) (fun k126 => if r115 = 0 then gd (inb (0 : Int32) 1) (if (lg_cmp (vO_116.2.2 0 ((0 : Int32)).toNatClampNeg) ((r120).toInt64)) = 0 then k126 else none) else k126) else none))))))) else if ((xs (x4).toNatClampNeg) &&& (31 : Int32)) = (6 : Int32) then gd (inb (x4 + (1 : Int32)) L) (gd (inb (x4 + (2 : Int32)) L) (o6 (f_L_value vO vF vC vT nRT vRT vG vB (xs ((x4 + (1 : Int32))).toNatClampNeg) (xs ((x4 + (2 : Int32))).toNatClampNeg)) (fun (r135 : Int32) (vO_136 : Vs) (vF_137 : Vs) (vRT_138 : Vs) (vG_139 : Vs) (vB_140 : Vs) => gd (inb (x4 + (1 : Int32)) L) (gd (inb (x4 + (2 : Int32)) L) (o2 (f_X8_value vM (xs ((x4 + (1 : Int32))).toNatClampNeg) (xs ((x4 + (2 : Int32))).toNatClampNeg)) (fun (r144 : Int32) (vM_145 : Vs) => o1 (f_X8_thrown vM_145) (fun (r147 : Int32) => if r147 = r135 then jn (k17 vM_145 vO_136 vF_137 vC vT vRT_138 vG_139 vB_140 vRF vGF vBF vD vE vU vH) (fun k150 => if r135 = 0 then gd (inb (0 : Int32) 1) (if (lg_cmp (vO_136.2.2 0 ((0 : Int32)).toNatClampNeg) ((r144).toInt64)) = 0 then k150 else none) else k150) else none))))))) else if ((xs (x4).toNatClampNeg) &&& (31 : Int32)) = (7 : Int32) then gd (inb (x4 + (1 : Int32)) L) (gd (inb (x4 + (2 : Int32)) L) (gd (inb (x4 + (3 : Int32)) L) (o6 (f_L_faulty vO vF vC vT nRT vRT vG vB (xs ((x4 + (1 : Int32))).toNatClampNeg) (xs ((x4 + (2 : Int32))).toNatClampNeg) (xs ((x4 + (3 : Int32))).toNatClampNeg)) (fun (r160 : Int32) (vO_161 : Vs) (vF_162 : Vs) (vRT_163 : Vs) (vG_164 : Vs) (vB_165 : Vs) => gd (inb (x4 + (1 : Int32)) L) (gd (inb (x4 + (2 : Int32)) L) (gd (inb (x4 + (3 : Int32)) L) (o2 (f_X8_faulty vM (xs ((x4 + (1 : Int32))).toNatClampNeg) (xs ((x4 + (2 : Int32))).toNatClampNeg) (xs ((x4 + (3 : Int32))).toNatClampNeg)) (fun (r170 : Int32) (vM_171 : Vs) => o1 (f_X8_thrown vM_171) (fun (r173 : Int32) => if r173 = r160 then jn (k17 vM_171 vO_161 vF_162 vC vT vRT_163 vG_164 vB_165 vRF vGF vBF vD vE vU vH) (fun k176 => if r160 = 0 then gd (inb (0 : Int32) 1) (if (lg_cmp (vO_161.2.2 0 ((0 : Int32)).toNatClampNeg) ((r170).toInt64)) = 0 then k176 else none) else k176) else none))))))))) else if ((xs (x4).toNatClampNeg) &&& (31 : Int32)) = (8 : Int32) then gd (inb (x4 + (1 : Int32)) L) (gd (inb (x4 + (2 : Int32)) L) (o6 (f_L_finds vO vF vC vT nRT vRT vG vB (xs ((x4 + (1 : Int32))).toNatClampNeg) (xs ((x4 + (2 : Int32))).toNatClampNeg)) (fun (r185 : Int32) (vO_186 : Vs) (vF_187 : Vs) (vRT_188 : Vs) (vG_189 : Vs) (vB_190 : Vs) => gd (inb (x4 + (1 : Int32)) L) (gd (inb (x4 + (2 : Int32)) L) (o2 (f_X8_finds vM (xs ((x4 + (1 : Int32))).toNatClampNeg) (xs ((x4 + (2 : Int32))).toNatClampNeg)) (fun (r194 : Int32) (vM_195 : Vs) => o1 (f_X8_thrown vM_195) (fun (r197 : Int32) => if r197 = r185 then jn (k17 vM_195 vO_186 vF_187 vC vT vRT_188 vG_189 vB_190 vRF vGF vBF vD vE vU vH) (fun k200 => if r185 = 0 then gd (inb (0 : Int32) 1) (if (lg_cmp (vO_186.2.2 0 ((0 : Int32)).toNatClampNeg) ((r194).toInt64)) = 0 then k200 else none) else k200) else none))))))) else if ((xs (x4).toNatClampNeg) &&& (31 : Int32)) = (9 : Int32) then gd (inb (x4 + (1 : Int32)) L) (gd (inb (x4 + (2 : Int32)) L) (gd (inb (x4 + (3 : Int32)) L) (o6 (f_L_tellsApart vO vF vC vT nRT vRT vG vB (xs ((x4 + (1 : Int32))).toNatClampNeg) (xs ((x4 + (2 : Int32))).toNatClampNeg) (xs ((x4 + (3 : Int32))).toNatClampNeg)) (fun (r210 : Int32) (vO_211 : Vs) (vF_212 : Vs) (vRT_213 : Vs) (vG_214 : Vs) (vB_215 : Vs) => gd (inb (x4 + (1 : Int32)) L) (gd (inb (x4 + (2 : Int32)) L) (gd (inb (x4 + (3 : Int32)) L) (o2 (f_X8_tellsApart vM (xs ((x4 + (1 : Int32))).toNatClampNeg) (xs ((x4 + (2 : Int32))).toNatClampNeg) (xs ((x4 + (3 : Int32))).toNatClampNeg)) (fun (r220 : Int32) (vM_221 : Vs) => o1 (f_X8_thrown vM_221) (fun (r223 : Int32) => if r223 = r210 then jn (k17 vM_221 vO_211 vF_212 vC vT vRT_213 vG_214 vB_215 vRF vGF vBF vD vE vU vH) (fun k226 => if r210 = 0 then gd (inb (0 : Int32) 1) (jn (fun (t231 : Int64) => if (lg_cmp (vO_211.2.2 0 ((0 : Int32)).toNatClampNeg) t231) = 0 then k226 else none) (fun k232 => if r220 = 0 then k232 (0 : Int64) else k232 (1 : Int64))) else k226) else none))))))))) else if ((xs (x4).toNatClampNeg) &&& (31 : Int32)) = (10 : Int32) then gd (inb (x4 + (1 : Int32)) L) (o6 (f_L_worth vO vF vC vT nRT vRT vG vB (xs ((x4 + (1 : Int32))).toNatClampNeg)) (fun (r239 : Int32) (vO_240 : Vs) (vF_241 : Vs) (vRT_242 : Vs) (vG_243 : Vs) (vB_244 : Vs) => gd (inb (x4 + (1 : Int32)) L) (o2 (f_X8_worth vM (xs ((x4 + (1 : Int32))).toNatClampNeg)) (fun (r247 : Int32) (vM_248 : Vs) => o1 (f_X8_thrown vM_248) (fun (r250 : Int32) => if r250 = r239 then jn (k17 vM_248 vO_240 vF_241 vC vT vRT_242 vG_243 vB_244 vRF vGF vBF vD vE vU vH) (fun k253 => if r239 = 0 then gd (inb (0 : Int32) 1) (if (lg_cmp (vO_240.2.2 0 ((0 : Int32)).toNatClampNeg) ((r247).toInt64)) = 0 then k253 else none) else k253) else none))))) else if ((xs (x4).toNatClampNeg) &&& (31 : Int32)) = (11 : Int32) then gd (inb (x4 + (1 : Int32)) L) (o6 (f_L_testFor vO vF vC nRF vRF vGF vBF (xs ((x4 + (1 : Int32))).toNatClampNeg)) (fun (r261 : Int32) (vO_262 : Vs) (vF_263 : Vs) (vRF_264 : Vs) (vGF_265 : Vs) (vBF_266 : Vs) => gd (inb (x4 + (1 : Int32)) L) (o2 (f_X8_testFor vM (xs ((x4 + (1 : Int32))).toNatClampNeg)) (fun (r269 : Int32) (vM_270 : Vs) => o1 (f_X8_thrown vM_270) (fun (r272 : Int32) => if r272 = r261 then jn (k17 vM_270 vO_262 vF_263 vC vT vRT vG vB vRF_264 vGF_265 vBF_266 vD vE vU vH) (fun k275 => if r261 = 0 then gd (inb (0 : Int32) 1) (if (lg_cmp (vO_262.2.2 0 ((0 : Int32)).toNatClampNeg) ((r269).toInt64)) = 0 then k275 else none) else k275) else none))))) else if ((xs (x4).toNatClampNeg) &&& (31 : Int32)) = (12 : Int32) then gd (inb (x4 + (1 : Int32)) L) (gd (inb (x4 + (2 : Int32)) L) (o6 (f_L_testBetween vO vF vC nRF vRF vGF vBF (xs ((x4 + (1 : Int32))).toNatClampNeg) (xs ((x4 + (2 : Int32))).toNatClampNeg)) (fun (r284 : Int32) (vO_285 : Vs) (vF_286 : Vs) (vRF_287 : Vs) (vGF_288 : Vs) (vBF_289 : Vs) => gd (inb (x4 + (1 : Int32)) L) (gd (inb (x4 + (2 : Int32)) L) (o2 (f_X8_testBetween vM (xs ((x4 + (1 : Int32))).toNatClampNeg) (xs ((x4 + (2 : Int32))).toNatClampNeg)) (fun (r293 : Int32) (vM_294 : Vs) => o1 (f_X8_thrown vM_294) (fun (r296 : Int32) => if r296 = r284 then jn (k17 vM_294 vO_285 vF_286 vC vT vRT vG vB vRF_287 vGF_288 vBF_289 vD vE vU vH) (fun k299 => if r284 = 0 then gd (inb (0 : Int32) 1) (if (lg_cmp (vO_285.2.2 0 ((0 : Int32)).toNatClampNeg) ((r293).toInt64)) = 0 then k299 else none) else k299) else none))))))) else if ((xs (x4).toNatClampNeg) &&& (31 : Int32)) = (13 : Int32) then o5 (f_X7_hidden vF vC nRF vRF vGF vBF) (fun (r306 : Int32) (vF_307 : Vs) (vRF_308 : Vs) (vGF_309 : Vs) (vBF_310 : Vs) => o2 (f_X8_hidden vM) (fun (r312 : Int32) (vM_313 : Vs) => if r306 = r312 then k17 vM_313 vO vF_307 vC vT vRT vG vB vRF_308 vGF_309 vBF_310 vD vE vU vH else none)) else if ((xs (x4).toNatClampNeg) &&& (31 : Int32)) = (14 : Int32) then gd (inb (x4 + (1 : Int32)) L) (o6 (f_L_alike vO vF vC nRF vRF vGF vBF (xs ((x4 + (1 : Int32))).toNatClampNeg)) (fun (r318 : Int32) (vO_319 : Vs) (vF_320 : Vs) (vRF_321 : Vs) (vGF_322 : Vs) (vBF_323 : Vs) => gd (inb (x4 + (1 : Int32)) L) (o2 (f_X8_alike vM (xs ((x4 + (1 : Int32))).toNatClampNeg)) (fun (r326 : Int32) (vM_327 : Vs) => o1 (f_X8_thrown vM_327) (fun (r329 : Int32) => if r329 = r318 then jn (k17 vM_327 vO_319 vF_320 vC vT vRT vG vB vRF_321 vGF_322 vBF_323 vD vE vU vH) (fun k332 => if r318 = 0 then gd (inb (0 : Int32) 1) (if (lg_cmp (vO_319.2.2 0 ((0 : Int32)).toNatClampNeg) ((r326).toInt64)) = 0 then k332 else none) else k332) else none))))) else if ((xs (x4).toNatClampNeg) &&& (31 : Int32)) = (15 : Int32) then o5 (f_X7_classes vF vC nRF vRF vGF vBF) (fun (r339 : Int32) (vF_340 : Vs) (vRF_341 : Vs) (vGF_342 : Vs) (vBF_343 : Vs) => o2 (f_X8_classes vM) (fun (r345 : Int32) (vM_346 : Vs) => if r339 = r345 then k17 vM_346 vO vF_340 vC vT vRT vG vB vRF_341 vGF_342 vBF_343 vD vE vU vH else none)) else if ((xs (x4).toNatClampNeg) &&& (31 : Int32)) = (16 : Int32) then o8 (f_X7_coverage vF vC vT nRT vRT vG vB nRF vRF vGF vBF) (fun (r350 : UInt64) (vF_351 : Vs) (vRT_352 : Vs) (vG_353 : Vs) (vB_354 : Vs) (vRF_355 : Vs) (vGF_356 : Vs) (vBF_357 : Vs) => o2 (f_X8_coverage vM) (fun (r359 : UInt64) (vM_360 : Vs) => jn (k17 vM_360 vO vF_351 vC vT vRT_352 vG_353 vB_354 vRF_355 vGF_356 vBF_357 vD vE vU vH) (fun k362 => if (Op.cmpValue (FP.dcmp r350 r359) .l) = 0 then k362 else jn (none) (fun k366 => if (Op.cmpValue (FP.dcmp r350 r350) .l) = 0 then k366 else if (Op.cmpValue (FP.dcmp r359 r359) .l) = 0 then k366 else k362)))) else if ((xs (x4).toNatClampNeg) &&& (31 : Int32)) = (17 : Int32) then o5 (f_X7_leastSet vF vC vT nRT vRT vG vB) (fun (r372 : Int32) (vF_373 : Vs) (vRT_374 : Vs) (vG_375 : Vs) (vB_376 : Vs) => o2 (f_X8_leastSet vM) (fun (r378 : Int32) (vM_379 : Vs) => if r372 = r378 then k17 vM_379 vO vF_373 vC vT vRT_374 vG_375 vB_376 vRF vGF vBF vD vE vU vH else none)) else if ((xs (x4).toNatClampNeg) &&& (31 : Int32)) = (18 : Int32) then o5 (f_X7_suspects vF vC vT nRT vRT vG vB) (fun (r383 : Int32) (vF_384 : Vs) (vRT_385 : Vs) (vG_386 : Vs) (vB_387 : Vs) => o2 (f_X8_suspects vM) (fun (r389 : Int32) (vM_390 : Vs) => if r383 = r389 then k17 vM_390 vO vF_384 vC vT vRT_385 vG_386 vB_387 vRF vGF vBF vD vE vU vH else none)) else if ((xs (x4).toNatClampNeg) &&& (31 : Int32)) = (19 : Int32) then gd (inb (x4 + (1 : Int32)) L) (o6 (f_L_suspect vO vF vC vT nRT vRT vG vB (xs ((x4 + (1 : Int32))).toNatClampNeg)) (fun (r395 : Int32) (vO_396 : Vs) (vF_397 : Vs) (vRT_398 : Vs) (vG_399 : Vs) (vB_400 : Vs) => gd (inb (x4 + (1 : Int32)) L) (o2 (f_X8_suspect vM (xs ((x4 + (1 : Int32))).toNatClampNeg)) (fun (r403 : Int32) (vM_404 : Vs) => o1 (f_X8_thrown vM_404) (fun (r406 : Int32) => if r406 = r395 then jn (k17 vM_404 vO_396 vF_397 vC vT vRT_398 vG_399 vB_400 vRF vGF vBF vD vE vU vH) (fun k409 => if r395 = 0 then gd (inb (0 : Int32) 1) (if (lg_cmp (vO_396.2.2 0 ((0 : Int32)).toNatClampNeg) ((r403).toInt64)) = 0 then k409 else none) else k409) else none))))) else if ((xs (x4).toNatClampNeg) &&& (31 : Int32)) = (20 : Int32) then o5 (f_X7_nextTest vF vC vT nRT vRT vG vB) (fun (r416 : Int32) (vF_417 : Vs) (vRT_418 : Vs) (vG_419 : Vs) (vB_420 : Vs) => o2 (f_X8_nextTest vM) (fun (r422 : Int32) (vM_423 : Vs) => if r416 = r422 then k17 vM_423 vO vF_417 vC vT vRT_418 vG_419 vB_420 vRF vGF vBF vD vE vU vH else none)) else if ((xs (x4).toNatClampNeg) &&& (31 : Int32)) = (21 : Int32) then gd (inb (x4 + (1 : Int32)) L) (gd (inb (x4 + (2 : Int32)) L) (o5 (f_L_addTest vO vF vC vT vH (xs ((x4 + (1 : Int32))).toNatClampNeg) (xs ((x4 + (2 : Int32))).toNatClampNeg)) (fun (r429 : Int32) (vO_430 : Vs) (vF_431 : Vs) (vT_432 : Vs) (vH_433 : Hv) => gd (inb (x4 + (1 : Int32)) L) (gd (inb (x4 + (2 : Int32)) L) (o2 (f_X8_addTest vM (xs ((x4 + (1 : Int32))).toNatClampNeg) (xs ((x4 + (2 : Int32))).toNatClampNeg)) (fun (r437 : Int32) (vM_438 : Vs) => o1 (f_X8_thrown vM_438) (fun (r440 : Int32) => if r440 = r429 then jn (k17 vM_438 vO_430 vF_431 vC vT_432 vRT vG vB vRF vGF vBF vD vE vU vH_433) (fun k443 => if r429 = 0 then gd (inb (0 : Int32) 1) (if (lg_cmp (vO_430.2.2 0 ((0 : Int32)).toNatClampNeg) ((r437).toInt64)) = 0 then k443 else none) else k443) else none))))))) else if ((xs (x4).toNatClampNeg) &&& (31 : Int32)) = (22 : Int32) then gd (inb (x4 + (1 : Int32)) L) (o5 (f_L_removeTest vO vF vC vT vH (xs ((x4 + (1 : Int32))).toNatClampNeg)) (fun (r451 : Int32) (vO_452 : Vs) (vF_453 : Vs) (vT_454 : Vs) (vH_455 : Hv) => gd (inb (x4 + (1 : Int32)) L) (o2 (f_X8_removeTest vM (xs ((x4 + (1 : Int32))).toNatClampNeg)) (fun (r458 : Int32) (vM_459 : Vs) => o1 (f_X8_thrown vM_459) (fun (r461 : Int32) => if r461 = r451 then jn (k17 vM_459 vO_452 vF_453 vC vT_454 vRT vG vB vRF vGF vBF vD vE vU vH_455) (fun k464 => if r451 = 0 then gd (inb (0 : Int32) 1) (if (lg_cmp (vO_452.2.2 0 ((0 : Int32)).toNatClampNeg) ((r458).toInt64)) = 0 then k464 else none) else k464) else none))))) else if ((xs (x4).toNatClampNeg) &&& (31 : Int32)) = (23 : Int32) then gd (inb (x4 + (1 : Int32)) L) (gd (inb (x4 + (2 : Int32)) L) (o5 (f_L_setKind vO vF vC vT vH (xs ((x4 + (1 : Int32))).toNatClampNeg) (xs ((x4 + (2 : Int32))).toNatClampNeg)) (fun (r473 : Int32) (vO_474 : Vs) (vF_475 : Vs) (vC_476 : Vs) (vH_477 : Hv) => gd (inb (x4 + (1 : Int32)) L) (gd (inb (x4 + (2 : Int32)) L) (o2 (f_X8_setKind vM (xs ((x4 + (1 : Int32))).toNatClampNeg) (xs ((x4 + (2 : Int32))).toNatClampNeg)) (fun (r481 : Int32) (vM_482 : Vs) => o1 (f_X8_thrown vM_482) (fun (r484 : Int32) => if r484 = r473 then jn (k17 vM_482 vO_474 vF_475 vC_476 vT vRT vG vB vRF vGF vBF vD vE vU vH_477) (fun k487 => if r473 = 0 then gd (inb (0 : Int32) 1) (if (lg_cmp (vO_474.2.2 0 ((0 : Int32)).toNatClampNeg) ((r481).toInt64)) = 0 then k487 else none) else k487) else none))))))) else if ((xs (x4).toNatClampNeg) &&& (31 : Int32)) = (24 : Int32) then gd (inb (x4 + (1 : Int32)) L) (gd (inb (x4 + (2 : Int32)) L) (gd (inb (x4 + (3 : Int32)) L) (o8 (f_L_see vO vF vC vT nRT vRT vG vB vH (xs ((x4 + (1 : Int32))).toNatClampNeg) (xs ((x4 + (2 : Int32))).toNatClampNeg) (xs ((x4 + (3 : Int32))).toNatClampNeg)) (fun (r497 : Int32) (vO_498 : Vs) (vF_499 : Vs) (vT_500 : Vs) (vRT_501 : Vs) (vG_502 : Vs) (vB_503 : Vs) (vH_504 : Hv) => gd (inb (x4 + (1 : Int32)) L) (gd (inb (x4 + (2 : Int32)) L) (gd (inb (x4 + (3 : Int32)) L) (o2 (f_X8_see vM (xs ((x4 + (1 : Int32))).toNatClampNeg) (xs ((x4 + (2 : Int32))).toNatClampNeg) (xs ((x4 + (3 : Int32))).toNatClampNeg)) (fun (r509 : Int32) (vM_510 : Vs) => o1 (f_X8_thrown vM_510) (fun (r512 : Int32) => if r512 = r497 then jn (k17 vM_510 vO_498 vF_499 vC vT_500 vRT_501 vG_502 vB_503 vRF vGF vBF vD vE vU vH_504) (fun k515 => if r497 = 0 then gd (inb (0 : Int32) 1) (if (lg_cmp (vO_498.2.2 0 ((0 : Int32)).toNatClampNeg) ((r509).toInt64)) = 0 then k515 else none) else k515) else none))))))))) else if ((xs (x4).toNatClampNeg) &&& (31 : Int32)) = (25 : Int32) then o3 (f_X7_forget vF vC vT vH) (fun (r522 : Int32) (vT_523 : Vs) (vH_524 : Hv) => o2 (f_X8_forget vM) (fun (r526 : Int32) (vM_527 : Vs) => if r522 = r526 then k17 vM_527 vO vF vC vT_523 vRT vG vB vRF vGF vBF vD vE vU vH_524 else none)) else if ((xs (x4).toNatClampNeg) &&& (31 : Int32)) = (26 : Int32) then o10 (f_X7_complete vF vC vT nRT vRT vG vB nRF vRF vGF vBF vH) (fun (r531 : Int32) (vF_532 : Vs) (vT_533 : Vs) (vRT_534 : Vs) (vG_535 : Vs) (vB_536 : Vs) (vRF_537 : Vs) (vGF_538 : Vs) (vBF_539 : Vs) (vH_540 : Hv) => o2 (f_X8_complete vM) (fun (r542 : Int32) (vM_543 : Vs) => if r531 = r542 then k17 vM_543 vO vF_532 vC vT_533 vRT_534 vG_535 vB_536 vRF_537 vGF_538 vBF_539 vD vE vU vH_540 else none)) else if ((xs (x4).toNatClampNeg) &&& (31 : Int32)) = (27 : Int32) then o5 (f_X7_undo vF vC vT vH) (fun (r547 : Int32) (vF_548 : Vs) (vC_549 : Vs) (vT_550 : Vs) (vH_551 : Hv) => o2 (f_X8_undo vM) (fun (r553 : Int32) (vM_554 : Vs) => if r547 = r553 then k17 vM_554 vO vF_548 vC_549 vT_550 vRT vG vB vRF vGF vBF vD vE vU vH_551 else none)) else if ((xs (x4).toNatClampNeg) &&& (31 : Int32)) = (28 : Int32) then o6 (f_X7_checksum vF vC vT nRT vRT vG vB) (fun (c558 : Nat) (r559 : Int64) (vF_560 : Vs) (vRT_561 : Vs) (vG_562 : Vs) (vB_563 : Vs) => if c558 = 0 then (o2 (f_X8_checksum vM) (fun (r565 : Int64) (vM_566 : Vs) => if (lg_cmp r559 r565) = 0 then k17 vM_566 vO vF_560 vC vT vRT_561 vG_562 vB_563 vRF vGF vBF vD vE vU vH else none)) else none) else k17 vM vO vF vC vT vRT vG vB vRF vGF vBF vD vE vU vH))
set_option maxHeartbeats 8000000 in
set_option maxRecDepth 100000 in
theorem law_body {p : Program} {e : Env} {s : State} {m : MethodId} {args : Array Value} {below : List Frame} {meth : Method} {c : Code} {Q : State → Prop} (l : Launch) (hst : l.stackTraces = false) (g : Gx) {A : Nat → Prop} {b L : Nat} {xs : Nat → Int32} (hx : p.tables.exec = Jvm.exec) (hb : c.code = cL_law) (hml : c.maxLocals = 9) (hown : s.vm.findClass RL = some m.cls) (htu : ∀ w ∈ UW, w.before args s = true) (hK : va_K g.1 vwCl (tyL g) s) (hG : BG g A s s.heap) (hA : ∀ q, s.heap.size ≤ q → A q) (hX : va_X b L xs s s.heap) (hbl : b < s.heap.size) (hbA : ¬ A b) (bM : Nat → Nat) (bO : Nat → Nat) (bF : Nat → Nat) (bS : Nat → Nat) (bC : Nat → Nat) (bT : Nat → Nat) (bRT : Nat → Nat) (bG : Nat → Nat) (bB : Nat → Nat) (bRF : Nat → Nat) (bGF : Nat → Nat) (bBF : Nat → Nat) (bD : Nat → Nat) (bS2 : Nat → Nat) (bE : Nat → Nat) (bU : Nat → Nat) (bH : Nat → Nat → Nat) (nRT nRF : Nat) (cells slots : Nat) (hcr : cells + 1 ≤ room_1.cells ∧ slots + 6 ≤ room_1.slots) (self0 : Vs → Vs → Vs → Vs → Vs → Vs → Vs → Vs → Vs → Vs → Vs → Vs → Vs → Vs → Hv → Int32 → Option Unit) (ih : ∀ (vM : Vs) (vO : Vs) (vF : Vs) (vC : Vs) (vT : Vs) (vRT : Vs) (vG : Vs) (vB : Vs) (vRF : Vs) (vGF : Vs) (vBF : Vs) (vD : Vs) (vE : Vs) (vU : Vs) (vH : Hv) (x4 : Int32), self0 vM vO vF vC vT vRT vG vB vRF vGF vBF vD vE vU vH x4 = some () → ∀ (H : Heap) (locs : List Loc), va_P g.1 vwCl (cM g bM vM ++ (cO g bO vO ++ (cF g bF (bD 0) (bS 0) (bH 0 0) (bRF 0) (bRT 0) vF ++ (cS g bS (bC 0) (bT 0) ++ (cC g bC vC ++ (cT g bT vT ++ (cR g bRT nRT (bG 0) (bB 0) vRT ++ (cL g bG vG ++ (cL g bB vB ++ (cR g bRF nRF (bGF 0) (bBF 0) vRF ++ (cL g bGF vGF ++ (cL g bBF vBF ++ (cD g bD (bS2 0) vD ++ (cS g bS2 (bE 0) (bU 0) ++ (cC g bE vE ++ (cT g bU vU ++ (cH g bH vH))))))))))))))))) H → va_D A (cM g bM vM ++ (cO g bO vO ++ (cF g bF (bD 0) (bS 0) (bH 0 0) (bRF 0) (bRT 0) vF ++ (cS g bS (bC 0) (bT 0) ++ (cC g bC vC ++ (cT g bT vT ++ (cR g bRT nRT (bG 0) (bB 0) vRT ++ (cL g bG vG ++ (cL g bB vB ++ (cR g bRF nRF (bGF 0) (bBF 0) vRF ++ (cL g bGF vGF ++ (cL g bBF vBF ++ (cD g bD (bS2 0) vD ++ (cS g bS2 (bE 0) (bU 0) ++ (cC g bE vE ++ (cT g bU vU ++ (cH g bH vH))))))))))))))))) → va_S A s.heap H locs → ∀ ls : Array Slot, lv_has ls 9 [(0, .ref b), (1, .ref (bF 0)), (2, .ref (bM 0)), (3, .ref (bO 1)), (4, .int x4)] → W p l e room_1 s m args below meth c H locs (cells + 1) (slots + 6) Q (F0 m 23 ls [])) (vM : Vs) (vO : Vs) (vF : Vs) (vC : Vs) (vT : Vs) (vRT : Vs) (vG : Vs) (vB : Vs) (vRF : Vs) (vGF : Vs) (vBF : Vs) (vD : Vs) (vE : Vs) (vU : Vs) (vH : Hv) (x4 : Int32) (hf : f_L_body xs L nRT nRF self0 vM vO vF vC vT vRT vG vB vRF vGF vBF vD vE vU vH x4 = some ()) (H : Heap) (locs : List Loc) (hP : va_P g.1 vwCl (cM g bM vM ++ (cO g bO vO ++ (cF g bF (bD 0) (bS 0) (bH 0 0) (bRF 0) (bRT 0) vF ++ (cS g bS (bC 0) (bT 0) ++ (cC g bC vC ++ (cT g bT vT ++ (cR g bRT nRT (bG 0) (bB 0) vRT ++ (cL g bG vG ++ (cL g bB vB ++ (cR g bRF nRF (bGF 0) (bBF 0) vRF ++ (cL g bGF vGF ++ (cL g bBF vBF ++ (cD g bD (bS2 0) vD ++ (cS g bS2 (bE 0) (bU 0) ++ (cC g bE vE ++ (cT g bU vU ++ (cH g bH vH))))))))))))))))) H) (hD : va_D A (cM g bM vM ++ (cO g bO vO ++ (cF g bF (bD 0) (bS 0) (bH 0 0) (bRF 0) (bRT 0) vF ++ (cS g bS (bC 0) (bT 0) ++ (cC g bC vC ++ (cT g bT vT ++ (cR g bRT nRT (bG 0) (bB 0) vRT ++ (cL g bG vG ++ (cL g bB vB ++ (cR g bRF nRF (bGF 0) (bBF 0) vRF ++ (cL g bGF vGF ++ (cL g bBF vBF ++ (cD g bD (bS2 0) vD ++ (cS g bS2 (bE 0) (bU 0) ++ (cC g bE vE ++ (cT g bU vU ++ (cH g bH vH)))))))))))))))))) (hS : va_S A s.heap H locs) (ls : Array Slot) (hl : lv_has ls 9 [(0, .ref b), (1, .ref (bF 0)), (2, .ref (bM 0)), (3, .ref (bO 1)), (4, .int x4)]) : W p l e room_1 s m args below meth c H locs cells slots Q (F0 m 33 ls []) := by
  have hc0 : cells ≤ room_1.cells ∧ slots ≤ room_1.slots := ⟨by omega, by omega⟩
  unfold f_L_body at hf
  refine lv_aload_n hx hb dL_law_33 rfl (lv_at hl 0 rfl) ?_
  refine lv_iload hx hb dL_law_34 (lv_at hl 4 rfl) ?_
  obtain ⟨h1, hf⟩ := gd_in hf
  refine va_sld hx hb hX hbl hbA hS h1 dL_law_36 ?_
  refine lv_bipush (v := (31 : Int32)) hx hb dL_law_37 (by decide) ?_
  refine lv_iand hx hb dL_law_39 ?_
  obtain ⟨k17, hk19, hf⟩ := jn_at hf
  have hJ18 : ∀ (vM_2 : Vs) (vO_3 : Vs) (vF_4 : Vs) (vC_5 : Vs) (vT_6 : Vs) (vRT_7 : Vs) (vG_8 : Vs) (vB_9 : Vs) (vRF_10 : Vs) (vGF_11 : Vs) (vBF_12 : Vs) (vD_13 : Vs) (vE_14 : Vs) (vU_15 : Vs) (vH_16 : Hv), k17 vM_2 vO_3 vF_4 vC_5 vT_6 vRT_7 vG_8 vB_9 vRF_10 vGF_11 vBF_12 vD_13 vE_14 vU_15 vH_16 = some () → ∀ (H : Heap) (locs : List Loc), va_P g.1 vwCl (cM g bM vM_2 ++ (cO g bO vO_3 ++ (cF g bF (bD 0) (bS 0) (bH 0 0) (bRF 0) (bRT 0) vF_4 ++ (cS g bS (bC 0) (bT 0) ++ (cC g bC vC_5 ++ (cT g bT vT_6 ++ (cR g bRT nRT (bG 0) (bB 0) vRT_7 ++ (cL g bG vG_8 ++ (cL g bB vB_9 ++ (cR g bRF nRF (bGF 0) (bBF 0) vRF_10 ++ (cL g bGF vGF_11 ++ (cL g bBF vBF_12 ++ (cD g bD (bS2 0) vD_13 ++ (cS g bS2 (bE 0) (bU 0) ++ (cC g bE vE_14 ++ (cT g bU vU_15 ++ (cH g bH vH_16))))))))))))))))) H → va_D A (cM g bM vM_2 ++ (cO g bO vO_3 ++ (cF g bF (bD 0) (bS 0) (bH 0 0) (bRF 0) (bRT 0) vF_4 ++ (cS g bS (bC 0) (bT 0) ++ (cC g bC vC_5 ++ (cT g bT vT_6 ++ (cR g bRT nRT (bG 0) (bB 0) vRT_7 ++ (cL g bG vG_8 ++ (cL g bB vB_9 ++ (cR g bRF nRF (bGF 0) (bBF 0) vRF_10 ++ (cL g bGF vGF_11 ++ (cL g bBF vBF_12 ++ (cD g bD (bS2 0) vD_13 ++ (cS g bS2 (bE 0) (bU 0) ++ (cC g bE vE_14 ++ (cT g bU vU_15 ++ (cH g bH vH_16))))))))))))))))) → va_S A s.heap H locs → ∀ ls : Array Slot, lv_has ls 9 [(0, .ref b), (1, .ref (bF 0)), (2, .ref (bM 0)), (3, .ref (bO 1)), (4, .int x4)] → W p l e room_1 s m args below meth c H locs (cells + 1) (slots + 6) Q (F0 m 1532 ls []) := by
    intro vM_2 vO_3 vF_4 vC_5 vT_6 vRT_7 vG_8 vB_9 vRF_10 vGF_11 vBF_12 vD_13 vE_14 vU_15 vH_16 hf H locs hP hD hS ls hl
    rw [hk19] at hf
    dsimp only at hf
    clear hk19
    refine lv_iinc (v := (x4 + (6 : Int32))) (lv' := [(4, .int (x4 + (6 : Int32))), (0, .ref b), (1, .ref (bF 0)), (2, .ref (bM 0)), (3, .ref (bO 1))]) hx hb dL_law_1532 hl (k := 4) rfl rfl (by decide) rfl (fun ls hl => ?_)
    refine lv_goto (tgt := 23) hx hb dL_law_1535 (by decide) ?_
    refine W.widen (k := cells + 1) (n := slots + 6) (by omega) (by omega) ?_
    exact ih vM_2 vO_3 vF_4 vC_5 vT_6 vRT_7 vG_8 vB_9 vRF_10 vGF_11 vBF_12 vD_13 vE_14 vU_15 vH_16 (x4 + (6 : Int32)) hf H locs hP hD hS _ (lv_sub hl [1, 2, 3, 4, 0] rfl)
  by_cases c20 : ((xs (x4).toNatClampNeg) &&& (31 : Int32)) = (0 : Int32)
  · have hf := it_t hf c20
    refine lv_tableIn (off := 132) (tgt := 172) hx hb dL_law_40 (by rw [c20]; decide) (by rw [c20]; decide) (by rw [c20]; rfl) (by decide) ?_
    refine lv_aload_n hx hb dL_law_172 rfl (lv_at hl 1 rfl) ?_
    refine lv_aload_n hx hb dL_law_173 rfl (lv_at hl 0 rfl) ?_
    refine lv_iload hx hb dL_law_174 (lv_at hl 4 rfl) ?_
    refine lv_iconst (v := (1 : Int32)) hx hb dL_law_176 (by decide) ?_
    refine lv_iadd hx hb dL_law_177 ?_
    obtain ⟨h21, hf⟩ := gd_in hf
    refine va_sld hx hb hX hbl hbA hS h21 dL_law_178 ?_
    refine lv_aload_n hx hb dL_law_179 rfl (lv_at hl 0 rfl) ?_
    refine lv_iload hx hb dL_law_180 (lv_at hl 4 rfl) ?_
    refine lv_iconst (v := (2 : Int32)) hx hb dL_law_182 (by decide) ?_
    refine lv_iadd hx hb dL_law_183 ?_
    obtain ⟨h22, hf⟩ := gd_in hf
    refine va_sld hx hb hX hbl hbA hS h22 dL_law_184 ?_
    refine lv_aload_n hx hb dL_law_185 rfl (lv_at hl 0 rfl) ?_
    refine lv_iload hx hb dL_law_186 (lv_at hl 4 rfl) ?_
    refine lv_iconst (v := (3 : Int32)) hx hb dL_law_188 (by decide) ?_
    refine lv_iadd hx hb dL_law_189 ?_
    obtain ⟨h23, hf⟩ := gd_in hf
    refine va_sld hx hb hX hbl hbA hS h23 dL_law_190 ?_
    refine lv_aload_n hx hb dL_law_191 rfl (lv_at hl 0 rfl) ?_
    refine lv_iload hx hb dL_law_192 (lv_at hl 4 rfl) ?_
    refine lv_iconst (v := (4 : Int32)) hx hb dL_law_194 (by decide) ?_
    refine lv_iadd hx hb dL_law_195 ?_
    obtain ⟨h24, hf⟩ := gd_in hf
    refine va_sld hx hb hX hbl hbA hS h24 dL_law_196 ?_
    refine lv_aload_n hx hb dL_law_197 rfl (lv_at hl 0 rfl) ?_
    refine lv_iload hx hb dL_law_198 (lv_at hl 4 rfl) ?_
    refine lv_iconst (v := (5 : Int32)) hx hb dL_law_200 (by decide) ?_
    refine lv_iadd hx hb dL_law_201 ?_
    obtain ⟨h25, hf⟩ := gd_in hf
    refine va_sld hx hb hX hbl hbA hS h25 dL_law_202 ?_
    obtain ⟨r26, vD_27, hg28, hf⟩ := o2_at hf
    refine k_viQ ⟨hx, hb, hml, hown, htu⟩ hK hP hD hS hA hG (c_X7_append l g bF (bS 0) (bH 0 0) (bRF 0) (bRT 0) vF bD (bS2 0) vD (xs ((x4 + (1 : Int32))).toNatClampNeg) (xs ((x4 + (2 : Int32))).toNatClampNeg) (xs ((x4 + (3 : Int32))).toNatClampNeg) (xs ((x4 + (4 : Int32))).toNatClampNeg) (xs ((x4 + (5 : Int32))).toNatClampNeg) r26 vD_27 hg28) (cwV 5 htu (gU_V mw_2_55 hcX7_append) rfl rfl rfl hdX7_append ⟨Nat.le_of_ble_eq_true rfl, Nat.le_of_ble_eq_true rfl⟩) (q0 := 15) (ci := 7) (fs := fcF bF (bD 0) (bS 0) (bH 0 0) (bRF 0) (bRT 0) vF) (q := (RX7, TX7, 12)) rfl rfl rfl (wr := (cM g bM vM ++ (cO g bO vO ++ (cS g bS (bC 0) (bT 0) ++ (cC g bC vC ++ (cT g bT vT ++ (cR g bRT nRT (bG 0) (bB 0) vRT ++ (cL g bG vG ++ (cL g bB vB ++ (cR g bRF nRF (bGF 0) (bBF 0) vRF ++ (cL g bGF vGF ++ (cL g bBF vBF ++ (cS g bS2 (bE 0) (bU 0) ++ (cC g bE vE ++ (cT g bU vU ++ (cH g bH vH)))))))))))))))) (w2 := cM g bM vM ++ (cO g bO vO ++ (cF g bF (bD 0) (bS 0) (bH 0 0) (bRF 0) (bRT 0) vF ++ (cS g bS (bC 0) (bT 0) ++ (cC g bC vC ++ (cT g bT vT ++ (cR g bRT nRT (bG 0) (bB 0) vRT ++ (cL g bG vG ++ (cL g bB vB ++ (cR g bRF nRF (bGF 0) (bBF 0) vRF ++ (cL g bGF vGF ++ (cL g bBF vBF ++ (cD g bD (bS2 0) vD_27 ++ (cS g bS2 (bE 0) (bU 0) ++ (cC g bE vE ++ (cT g bU vU ++ (cH g bH vH))))))))))))))))) (kpc (fun P => by simp only [List.countP_append] <;> omega)) (kpc (fun P => by simp only [List.countP_append] <;> omega)) (As := [.int (xs ((x4 + (1 : Int32))).toNatClampNeg), .int (xs ((x4 + (2 : Int32))).toNatClampNeg), .int (xs ((x4 + (3 : Int32))).toNatClampNeg), .int (xs ((x4 + (4 : Int32))).toNatClampNeg), .int (xs ((x4 + (5 : Int32))).toNatClampNeg)]) (rest := []) rfl rfl hl.1 (Nat.le_of_ble_eq_true rfl) dL_law_203 (k1 := cells) (n1 := slots) rfl rfl hc0 (fun H locs hP hD hS => ?_)
    refine lv_aload_n hx hb dL_law_206 rfl (lv_at hl 2 rfl) ?_
    refine lv_aload_n hx hb dL_law_207 rfl (lv_at hl 0 rfl) ?_
    refine lv_iload hx hb dL_law_208 (lv_at hl 4 rfl) ?_
    refine lv_iconst (v := (1 : Int32)) hx hb dL_law_210 (by decide) ?_
    refine lv_iadd hx hb dL_law_211 ?_
    obtain ⟨h29, hf⟩ := gd_in hf
    refine va_sld hx hb hX hbl hbA hS h29 dL_law_212 ?_
    refine lv_aload_n hx hb dL_law_213 rfl (lv_at hl 0 rfl) ?_
    refine lv_iload hx hb dL_law_214 (lv_at hl 4 rfl) ?_
    refine lv_iconst (v := (2 : Int32)) hx hb dL_law_216 (by decide) ?_
    refine lv_iadd hx hb dL_law_217 ?_
    obtain ⟨h30, hf⟩ := gd_in hf
    refine va_sld hx hb hX hbl hbA hS h30 dL_law_218 ?_
    refine lv_aload_n hx hb dL_law_219 rfl (lv_at hl 0 rfl) ?_
    refine lv_iload hx hb dL_law_220 (lv_at hl 4 rfl) ?_
    refine lv_iconst (v := (3 : Int32)) hx hb dL_law_222 (by decide) ?_
    refine lv_iadd hx hb dL_law_223 ?_
    obtain ⟨h31, hf⟩ := gd_in hf
    refine va_sld hx hb hX hbl hbA hS h31 dL_law_224 ?_
    refine lv_aload_n hx hb dL_law_225 rfl (lv_at hl 0 rfl) ?_
    refine lv_iload hx hb dL_law_226 (lv_at hl 4 rfl) ?_
    refine lv_iconst (v := (4 : Int32)) hx hb dL_law_228 (by decide) ?_
    refine lv_iadd hx hb dL_law_229 ?_
    obtain ⟨h32, hf⟩ := gd_in hf
    refine va_sld hx hb hX hbl hbA hS h32 dL_law_230 ?_
    refine lv_aload_n hx hb dL_law_231 rfl (lv_at hl 0 rfl) ?_
    refine lv_iload hx hb dL_law_232 (lv_at hl 4 rfl) ?_
    refine lv_iconst (v := (5 : Int32)) hx hb dL_law_234 (by decide) ?_
    refine lv_iadd hx hb dL_law_235 ?_
    obtain ⟨h33, hf⟩ := gd_in hf
    refine va_sld hx hb hX hbl hbA hS h33 dL_law_236 ?_
    obtain ⟨r34, vM_35, hg36, hf⟩ := o2_at hf
    refine k_viQ ⟨hx, hb, hml, hown, htu⟩ hK hP hD hS hA hG (c_X8_append l g bM vM (xs ((x4 + (1 : Int32))).toNatClampNeg) (xs ((x4 + (2 : Int32))).toNatClampNeg) (xs ((x4 + (3 : Int32))).toNatClampNeg) (xs ((x4 + (4 : Int32))).toNatClampNeg) (xs ((x4 + (5 : Int32))).toNatClampNeg) r34 vM_35 hg36) (cwV 5 htu (gU_V mw_5_147 hcX8_append) rfl rfl rfl hdX8_append ⟨Nat.le_of_ble_eq_true rfl, Nat.le_of_ble_eq_true rfl⟩) (q0 := 0) (ci := 8) (fs := fcM bM vM) (q := (RX8, TX8, 23)) rfl rfl rfl (wr := (cO g bO vO ++ (cF g bF (bD 0) (bS 0) (bH 0 0) (bRF 0) (bRT 0) vF ++ (cS g bS (bC 0) (bT 0) ++ (cC g bC vC ++ (cT g bT vT ++ (cR g bRT nRT (bG 0) (bB 0) vRT ++ (cL g bG vG ++ (cL g bB vB ++ (cR g bRF nRF (bGF 0) (bBF 0) vRF ++ (cL g bGF vGF ++ (cL g bBF vBF ++ (cD g bD (bS2 0) vD_27 ++ (cS g bS2 (bE 0) (bU 0) ++ (cC g bE vE ++ (cT g bU vU ++ (cH g bH vH))))))))))))))))) (w2 := cM g bM vM_35 ++ (cO g bO vO ++ (cF g bF (bD 0) (bS 0) (bH 0 0) (bRF 0) (bRT 0) vF ++ (cS g bS (bC 0) (bT 0) ++ (cC g bC vC ++ (cT g bT vT ++ (cR g bRT nRT (bG 0) (bB 0) vRT ++ (cL g bG vG ++ (cL g bB vB ++ (cR g bRF nRF (bGF 0) (bBF 0) vRF ++ (cL g bGF vGF ++ (cL g bBF vBF ++ (cD g bD (bS2 0) vD_27 ++ (cS g bS2 (bE 0) (bU 0) ++ (cC g bE vE ++ (cT g bU vU ++ (cH g bH vH))))))))))))))))) (kpc (fun P => by simp only [List.countP_append] <;> omega)) (kpc (fun P => by simp only [List.countP_append] <;> omega)) (As := [.int (xs ((x4 + (1 : Int32))).toNatClampNeg), .int (xs ((x4 + (2 : Int32))).toNatClampNeg), .int (xs ((x4 + (3 : Int32))).toNatClampNeg), .int (xs ((x4 + (4 : Int32))).toNatClampNeg), .int (xs ((x4 + (5 : Int32))).toNatClampNeg)]) (rest := [.int r26]) rfl rfl hl.1 (Nat.le_of_ble_eq_true rfl) dL_law_237 (k1 := cells) (n1 := slots) rfl rfl hc0 (fun H locs hP hD hS => ?_)
    refine lv_icmp_eq (tgt := 1532) hx hb dL_law_240 (by decide) (fun c37 => ?_) (fun c37 => ?_)
    · have hf := it_t hf c37
      refine W.widen (k := cells + 1) (n := slots + 6) (by omega) (by omega) ?_
      exact hJ18 vM_35 vO vF vC vT vRT vG vB vRF vGF vBF vD_27 vE vU vH hf H locs hP hD hS _ (lv_sub hl [0, 1, 2, 3, 4] rfl)
    · have hf := it_f hf c37
      refine lv_iconst (v := (0 : Int32)) hx hb dL_law_243 (by decide) ?_
      cases hf
  · have hf := it_f hf c20
    by_cases c38 : ((xs (x4).toNatClampNeg) &&& (31 : Int32)) = (1 : Int32)
    · have hf := it_t hf c38
      refine lv_tableIn (off := 205) (tgt := 245) hx hb dL_law_40 (by rw [c38]; decide) (by rw [c38]; decide) (by rw [c38]; rfl) (by decide) ?_
      refine lv_aload_n hx hb dL_law_245 rfl (lv_at hl 1 rfl) ?_
      refine lv_aload_n hx hb dL_law_246 rfl (lv_at hl 0 rfl) ?_
      refine lv_iload hx hb dL_law_247 (lv_at hl 4 rfl) ?_
      refine lv_iconst (v := (1 : Int32)) hx hb dL_law_249 (by decide) ?_
      refine lv_iadd hx hb dL_law_250 ?_
      obtain ⟨h39, hf⟩ := gd_in hf
      refine va_sld hx hb hX hbl hbA hS h39 dL_law_251 ?_
      refine lv_aload_n hx hb dL_law_252 rfl (lv_at hl 3 rfl) ?_
      obtain ⟨r40, vO_41, vF_42, vC_43, vT_44, vD_45, vE_46, vU_47, vH_48, hg49, hf⟩ := o9_at hf
      refine k_siHQ ⟨hx, hb, hml, hown, htu⟩ hK hP hD hS hA hG (h_L_load l hst g bO vO bF (bRF 0) (bRT 0) vF bS bC vC bT vT bD vD bS2 bE vE bU vU bH vH (xs ((x4 + (1 : Int32))).toNatClampNeg) r40 vO_41 vF_42 vC_43 vT_44 vD_45 vE_46 vU_47 vH_48 hg49) (vx_cwSW 3 htu (gU_H mw_3_167 hcL_load) rfl rfl rfl hdL_load ⟨Nat.le_of_ble_eq_true rfl, Nat.le_of_ble_eq_true rfl⟩) (wr := (cM g bM vM ++ (cR g bRT nRT (bG 0) (bB 0) vRT ++ (cL g bG vG ++ (cL g bB vB ++ (cR g bRF nRF (bGF 0) (bBF 0) vRF ++ (cL g bGF vGF ++ (cL g bBF vBF)))))))) (w2 := cM g bM vM ++ (cO g bO vO_41 ++ (cF g bF (bD 0) (bS 0) (bH 0 0) (bRF 0) (bRT 0) vF_42 ++ (cS g bS (bC 0) (bT 0) ++ (cC g bC vC_43 ++ (cT g bT vT_44 ++ (cR g bRT nRT (bG 0) (bB 0) vRT ++ (cL g bG vG ++ (cL g bB vB ++ (cR g bRF nRF (bGF 0) (bBF 0) vRF ++ (cL g bGF vGF ++ (cL g bBF vBF ++ (cD g bD (bS2 0) vD_45 ++ (cS g bS2 (bE 0) (bU 0) ++ (cC g bE vE_46 ++ (cT g bU vU_47 ++ (cH g bH vH_48))))))))))))))))) (kpc (fun P => by simp only [List.countP_append] <;> omega)) (kpc (fun P => by simp only [List.countP_append] <;> omega)) (As := [.ref (bF 0), .int (xs ((x4 + (1 : Int32))).toNatClampNeg), .ref (bO 1)]) (rest := []) rfl rfl hl.1 (Nat.le_of_ble_eq_true rfl) dL_law_253 (k1 := cells + 1) (n1 := slots + 6) rfl rfl hcr (fun H locs hP hD hS => ?_)
      refine lv_istore (lv' := [(5, .int r40), (0, .ref b), (1, .ref (bF 0)), (2, .ref (bM 0)), (3, .ref (bO 1)), (4, .int x4)]) hx hb dL_law_256 hl (by decide) rfl (fun ls hl => ?_)
      refine lv_aload_n hx hb dL_law_258 rfl (lv_at hl 3 rfl) ?_
      refine lv_aload_n hx hb dL_law_259 rfl (lv_at hl 1 rfl) ?_
      refine lv_iload hx hb dL_law_260 (lv_at hl 5 rfl) ?_
      refine lv_iconst (v := (1 : Int32)) hx hb dL_law_262 (by decide) ?_
      refine lv_iadd hx hb dL_law_263 ?_
      obtain ⟨h50, hf⟩ := gd_in hf
      refine va_sld hx hb hX hbl hbA hS h50 dL_law_264 ?_
      obtain ⟨r51, vM_52, hg53, hf⟩ := o2_at hf
      refine k_viQ ⟨hx, hb, hml, hown, htu⟩ hK hP hD hS hA hG (c_X8_load l g bM vM (xs ((x4 + (1 : Int32))).toNatClampNeg) r51 vM_52 hg53) (cwV 1 htu (gU_V mw_5_159 hcX8_load) rfl rfl rfl hdX8_load ⟨Nat.le_of_ble_eq_true rfl, Nat.le_of_ble_eq_true rfl⟩) (q0 := 0) (ci := 8) (fs := fcM bM vM) (q := (RX8, TX8, 23)) rfl rfl rfl (wr := (cO g bO vO_41 ++ (cF g bF (bD 0) (bS 0) (bH 0 0) (bRF 0) (bRT 0) vF_42 ++ (cS g bS (bC 0) (bT 0) ++ (cC g bC vC_43 ++ (cT g bT vT_44 ++ (cR g bRT nRT (bG 0) (bB 0) vRT ++ (cL g bG vG ++ (cL g bB vB ++ (cR g bRF nRF (bGF 0) (bBF 0) vRF ++ (cL g bGF vGF ++ (cL g bBF vBF ++ (cD g bD (bS2 0) vD_45 ++ (cS g bS2 (bE 0) (bU 0) ++ (cC g bE vE_46 ++ (cT g bU vU_47 ++ (cH g bH vH_48))))))))))))))))) (w2 := cM g bM vM_52 ++ (cO g bO vO_41 ++ (cF g bF (bD 0) (bS 0) (bH 0 0) (bRF 0) (bRT 0) vF_42 ++ (cS g bS (bC 0) (bT 0) ++ (cC g bC vC_43 ++ (cT g bT vT_44 ++ (cR g bRT nRT (bG 0) (bB 0) vRT ++ (cL g bG vG ++ (cL g bB vB ++ (cR g bRF nRF (bGF 0) (bBF 0) vRF ++ (cL g bGF vGF ++ (cL g bBF vBF ++ (cD g bD (bS2 0) vD_45 ++ (cS g bS2 (bE 0) (bU 0) ++ (cC g bE vE_46 ++ (cT g bU vU_47 ++ (cH g bH vH_48))))))))))))))))) (kpc (fun P => by simp only [List.countP_append] <;> omega)) (kpc (fun P => by simp only [List.countP_append] <;> omega)) (As := [.int (xs ((x4 + (1 : Int32))).toNatClampNeg)]) (rest := []) rfl rfl hl.1 (Nat.le_of_ble_eq_true rfl) dL_law_265 (k1 := cells + 1) (n1 := slots + 6) rfl rfl hcr (fun H locs hP hD hS => ?_)
      refine lv_istore (lv' := [(6, .int r51), (5, .int r40), (0, .ref b), (1, .ref (bF 0)), (2, .ref (bM 0)), (3, .ref (bO 1)), (4, .int x4)]) hx hb dL_law_268 hl (by decide) rfl (fun ls hl => ?_)
      refine lv_aload_n hx hb dL_law_270 rfl (lv_at hl 4 rfl) ?_
      obtain ⟨r54, hg55, hf⟩ := o1_at hf
      refine k_viQ ⟨hx, hb, hml, hown, htu⟩ hK hP hD hS hA hG (c_X8_thrown l g bM vM_52 r54 hg55) (cwV 0 htu (gU_V mw_5_143 hcX8_thrown) rfl rfl rfl hdX8_thrown ⟨Nat.le_of_ble_eq_true rfl, Nat.le_of_ble_eq_true rfl⟩) (q0 := 0) (ci := 8) (fs := fcM bM vM_52) (q := (RX8, TX8, 23)) rfl rfl rfl (wr := (cO g bO vO_41 ++ (cF g bF (bD 0) (bS 0) (bH 0 0) (bRF 0) (bRT 0) vF_42 ++ (cS g bS (bC 0) (bT 0) ++ (cC g bC vC_43 ++ (cT g bT vT_44 ++ (cR g bRT nRT (bG 0) (bB 0) vRT ++ (cL g bG vG ++ (cL g bB vB ++ (cR g bRF nRF (bGF 0) (bBF 0) vRF ++ (cL g bGF vGF ++ (cL g bBF vBF ++ (cD g bD (bS2 0) vD_45 ++ (cS g bS2 (bE 0) (bU 0) ++ (cC g bE vE_46 ++ (cT g bU vU_47 ++ (cH g bH vH_48))))))))))))))))) (w2 := cM g bM vM_52 ++ (cO g bO vO_41 ++ (cF g bF (bD 0) (bS 0) (bH 0 0) (bRF 0) (bRT 0) vF_42 ++ (cS g bS (bC 0) (bT 0) ++ (cC g bC vC_43 ++ (cT g bT vT_44 ++ (cR g bRT nRT (bG 0) (bB 0) vRT ++ (cL g bG vG ++ (cL g bB vB ++ (cR g bRF nRF (bGF 0) (bBF 0) vRF ++ (cL g bGF vGF ++ (cL g bBF vBF ++ (cD g bD (bS2 0) vD_45 ++ (cS g bS2 (bE 0) (bU 0) ++ (cC g bE vE_46 ++ (cT g bU vU_47 ++ (cH g bH vH_48))))))))))))))))) (kpc (fun P => by simp only [List.countP_append] <;> omega)) (kpc (fun P => by simp only [List.countP_append] <;> omega)) (As := []) (rest := []) rfl rfl hl.1 (Nat.le_of_ble_eq_true rfl) dL_law_271 (k1 := cells + 1) (n1 := slots + 6) rfl rfl hcr (fun H locs hP hD hS => ?_)
      refine lv_iload hx hb dL_law_274 (lv_at hl 1 rfl) ?_
      refine lv_icmp_eq (tgt := 281) hx hb dL_law_276 (by decide) (fun c56 => ?_) (fun c56 => ?_)
      · have hf := it_t hf c56
        refine lv_iload hx hb dL_law_281 (lv_at hl 1 rfl) ?_
        obtain ⟨k57, hk59, hf⟩ := jn_at hf
        have hJ58 : k57 = some () → ∀ (H : Heap) (locs : List Loc), va_P g.1 vwCl (cM g bM vM_52 ++ (cO g bO vO_41 ++ (cF g bF (bD 0) (bS 0) (bH 0 0) (bRF 0) (bRT 0) vF_42 ++ (cS g bS (bC 0) (bT 0) ++ (cC g bC vC_43 ++ (cT g bT vT_44 ++ (cR g bRT nRT (bG 0) (bB 0) vRT ++ (cL g bG vG ++ (cL g bB vB ++ (cR g bRF nRF (bGF 0) (bBF 0) vRF ++ (cL g bGF vGF ++ (cL g bBF vBF ++ (cD g bD (bS2 0) vD_45 ++ (cS g bS2 (bE 0) (bU 0) ++ (cC g bE vE_46 ++ (cT g bU vU_47 ++ (cH g bH vH_48))))))))))))))))) H → va_D A (cM g bM vM_52 ++ (cO g bO vO_41 ++ (cF g bF (bD 0) (bS 0) (bH 0 0) (bRF 0) (bRT 0) vF_42 ++ (cS g bS (bC 0) (bT 0) ++ (cC g bC vC_43 ++ (cT g bT vT_44 ++ (cR g bRT nRT (bG 0) (bB 0) vRT ++ (cL g bG vG ++ (cL g bB vB ++ (cR g bRF nRF (bGF 0) (bBF 0) vRF ++ (cL g bGF vGF ++ (cL g bBF vBF ++ (cD g bD (bS2 0) vD_45 ++ (cS g bS2 (bE 0) (bU 0) ++ (cC g bE vE_46 ++ (cT g bU vU_47 ++ (cH g bH vH_48))))))))))))))))) → va_S A s.heap H locs → ∀ ls : Array Slot, lv_has ls 9 [(0, .ref b), (1, .ref (bF 0)), (2, .ref (bM 0)), (3, .ref (bO 1)), (4, .int x4)] → W p l e room_1 s m args below meth c H locs (cells + 1) (slots + 6) Q (F0 m 298 ls []) := by
          intro hf H locs hP hD hS ls hl
          rw [hk59] at hf
          clear hk59
          refine lv_goto (tgt := 1532) hx hb dL_law_298 (by decide) ?_
          refine W.widen (k := cells + 1) (n := slots + 6) (by omega) (by omega) ?_
          exact hJ18 vM_52 vO_41 vF_42 vC_43 vT_44 vRT vG vB vRF vGF vBF vD_45 vE_46 vU_47 vH_48 hf H locs hP hD hS _ (lv_sub hl [0, 1, 2, 3, 4] rfl)
        refine lv_if_ne (tgt := 298) hx hb dL_law_283 (by decide) (fun c60 => ?_) (fun c60 => ?_)
        · have hf := it_f hf c60
          refine W.widen (k := cells + 1) (n := slots + 6) (by omega) (by omega) ?_
          exact hJ58 hf H locs hP hD hS _ (lv_sub hl [2, 3, 4, 5, 6] rfl)
        · have hf := it_t hf c60
          refine lv_aload_n hx hb dL_law_286 rfl (lv_at hl 5 rfl) ?_
          refine lv_iconst (v := (0 : Int32)) hx hb dL_law_287 (by decide) ?_
          obtain ⟨h61, hf⟩ := gd_in hf
          refine va_lald (D := g.1) (f := (vO_41.2.2 0)) hx hb hK hP 14 1 rfl rfl h61 dL_law_288 ?_
          refine lv_iload hx hb dL_law_289 (lv_at hl 0 rfl) ?_
          refine lv_i2l (v := (r51).toInt64) hx hb dL_law_291 rfl ?_
          refine W.lcmp hx hb dL_law_292 ?_
          refine lv_if_eq (tgt := 298) hx hb dL_law_293 (by decide) (fun c62 => ?_) (fun c62 => ?_)
          · have hf := it_t hf c62
            refine W.widen (k := cells + 1) (n := slots + 6) (by omega) (by omega) ?_
            exact hJ58 hf H locs hP hD hS _ (lv_sub hl [2, 3, 4, 5, 6] rfl)
          · have hf := it_f hf c62
            refine lv_iconst (v := (0 : Int32)) hx hb dL_law_296 (by decide) ?_
            cases hf
      · have hf := it_f hf c56
        refine lv_iconst (v := (0 : Int32)) hx hb dL_law_279 (by decide) ?_
        cases hf
    · have hf := it_f hf c38
      by_cases c63 : ((xs (x4).toNatClampNeg) &&& (31 : Int32)) = (2 : Int32)
      · have hf := it_t hf c63
        refine lv_tableIn (off := 261) (tgt := 301) hx hb dL_law_40 (by rw [c63]; decide) (by rw [c63]; decide) (by rw [c63]; rfl) (by decide) ?_
        refine lv_aload_n hx hb dL_law_301 rfl (lv_at hl 1 rfl) ?_
        obtain ⟨r64, hg65, hf⟩ := o1_at hf
        refine k_viQ ⟨hx, hb, hml, hown, htu⟩ hK hP hD hS hA hG (c_X7_errorOffset l g bF (bS 0) (bH 0 0) (bRF 0) (bRT 0) vF bD (bS2 0) vD r64 hg65) (cwV 0 htu (gU_V mw_2_63 hcX7_errorOffset) rfl rfl rfl hdX7_errorOffset ⟨Nat.le_of_ble_eq_true rfl, Nat.le_of_ble_eq_true rfl⟩) (q0 := 15) (ci := 7) (fs := fcF bF (bD 0) (bS 0) (bH 0 0) (bRF 0) (bRT 0) vF) (q := (RX7, TX7, 12)) rfl rfl rfl (wr := (cM g bM vM ++ (cO g bO vO ++ (cS g bS (bC 0) (bT 0) ++ (cC g bC vC ++ (cT g bT vT ++ (cR g bRT nRT (bG 0) (bB 0) vRT ++ (cL g bG vG ++ (cL g bB vB ++ (cR g bRF nRF (bGF 0) (bBF 0) vRF ++ (cL g bGF vGF ++ (cL g bBF vBF ++ (cS g bS2 (bE 0) (bU 0) ++ (cC g bE vE ++ (cT g bU vU ++ (cH g bH vH)))))))))))))))) (w2 := cM g bM vM ++ (cO g bO vO ++ (cF g bF (bD 0) (bS 0) (bH 0 0) (bRF 0) (bRT 0) vF ++ (cS g bS (bC 0) (bT 0) ++ (cC g bC vC ++ (cT g bT vT ++ (cR g bRT nRT (bG 0) (bB 0) vRT ++ (cL g bG vG ++ (cL g bB vB ++ (cR g bRF nRF (bGF 0) (bBF 0) vRF ++ (cL g bGF vGF ++ (cL g bBF vBF ++ (cD g bD (bS2 0) vD ++ (cS g bS2 (bE 0) (bU 0) ++ (cC g bE vE ++ (cT g bU vU ++ (cH g bH vH))))))))))))))))) (kpc (fun P => by simp only [List.countP_append] <;> omega)) (kpc (fun P => by simp only [List.countP_append] <;> omega)) (As := []) (rest := []) rfl rfl hl.1 (Nat.le_of_ble_eq_true rfl) dL_law_302 (k1 := cells) (n1 := slots) rfl rfl hc0 (fun H locs hP hD hS => ?_)
        refine lv_aload_n hx hb dL_law_305 rfl (lv_at hl 2 rfl) ?_
        obtain ⟨r66, vM_67, hg68, hf⟩ := o2_at hf
        refine k_viQ ⟨hx, hb, hml, hown, htu⟩ hK hP hD hS hA hG (c_X8_errorOffset l g bM vM r66 vM_67 hg68) (cwV 0 htu (gU_V mw_5_155 hcX8_errorOffset) rfl rfl rfl hdX8_errorOffset ⟨Nat.le_of_ble_eq_true rfl, Nat.le_of_ble_eq_true rfl⟩) (q0 := 0) (ci := 8) (fs := fcM bM vM) (q := (RX8, TX8, 23)) rfl rfl rfl (wr := (cO g bO vO ++ (cF g bF (bD 0) (bS 0) (bH 0 0) (bRF 0) (bRT 0) vF ++ (cS g bS (bC 0) (bT 0) ++ (cC g bC vC ++ (cT g bT vT ++ (cR g bRT nRT (bG 0) (bB 0) vRT ++ (cL g bG vG ++ (cL g bB vB ++ (cR g bRF nRF (bGF 0) (bBF 0) vRF ++ (cL g bGF vGF ++ (cL g bBF vBF ++ (cD g bD (bS2 0) vD ++ (cS g bS2 (bE 0) (bU 0) ++ (cC g bE vE ++ (cT g bU vU ++ (cH g bH vH))))))))))))))))) (w2 := cM g bM vM_67 ++ (cO g bO vO ++ (cF g bF (bD 0) (bS 0) (bH 0 0) (bRF 0) (bRT 0) vF ++ (cS g bS (bC 0) (bT 0) ++ (cC g bC vC ++ (cT g bT vT ++ (cR g bRT nRT (bG 0) (bB 0) vRT ++ (cL g bG vG ++ (cL g bB vB ++ (cR g bRF nRF (bGF 0) (bBF 0) vRF ++ (cL g bGF vGF ++ (cL g bBF vBF ++ (cD g bD (bS2 0) vD ++ (cS g bS2 (bE 0) (bU 0) ++ (cC g bE vE ++ (cT g bU vU ++ (cH g bH vH))))))))))))))))) (kpc (fun P => by simp only [List.countP_append] <;> omega)) (kpc (fun P => by simp only [List.countP_append] <;> omega)) (As := []) (rest := [.int r64]) rfl rfl hl.1 (Nat.le_of_ble_eq_true rfl) dL_law_306 (k1 := cells) (n1 := slots) rfl rfl hc0 (fun H locs hP hD hS => ?_)
        refine lv_icmp_eq (tgt := 1532) hx hb dL_law_309 (by decide) (fun c69 => ?_) (fun c69 => ?_)
        · have hf := it_t hf c69
          refine W.widen (k := cells + 1) (n := slots + 6) (by omega) (by omega) ?_
          exact hJ18 vM_67 vO vF vC vT vRT vG vB vRF vGF vBF vD vE vU vH hf H locs hP hD hS _ (lv_sub hl [0, 1, 2, 3, 4] rfl)
        · have hf := it_f hf c69
          refine lv_iconst (v := (0 : Int32)) hx hb dL_law_312 (by decide) ?_
          cases hf
      · have hf := it_f hf c63
        by_cases c70 : ((xs (x4).toNatClampNeg) &&& (31 : Int32)) = (3 : Int32)
        · have hf := it_t hf c70
          refine lv_tableIn (off := 274) (tgt := 314) hx hb dL_law_40 (by rw [c70]; decide) (by rw [c70]; decide) (by rw [c70]; rfl) (by decide) ?_
          refine lv_aload_n hx hb dL_law_314 rfl (lv_at hl 1 rfl) ?_
          refine lv_aload_n hx hb dL_law_315 rfl (lv_at hl 0 rfl) ?_
          refine lv_iload hx hb dL_law_316 (lv_at hl 4 rfl) ?_
          refine lv_iconst (v := (1 : Int32)) hx hb dL_law_318 (by decide) ?_
          refine lv_iadd hx hb dL_law_319 ?_
          obtain ⟨h71, hf⟩ := gd_in hf
          refine va_sld hx hb hX hbl hbA hS h71 dL_law_320 ?_
          refine lv_aload_n hx hb dL_law_321 rfl (lv_at hl 3 rfl) ?_
          obtain ⟨r72, vO_73, vF_74, vRT_75, vG_76, vB_77, hg78, hf⟩ := o6_at hf
          refine k_siHQ ⟨hx, hb, hml, hown, htu⟩ hK hP hD hS hA hG (h_L_state l hst g bO vO bF (bD 0) (bH 0 0) (bRF 0) vF bS bC vC bT vT bRT nRT vRT bG vG bB vB (xs ((x4 + (1 : Int32))).toNatClampNeg) r72 vO_73 vF_74 vRT_75 vG_76 vB_77 hg78) (vx_cwSW 3 htu (gU_H mw_4_117 hcL_state) rfl rfl rfl hdL_state ⟨Nat.le_of_ble_eq_true rfl, Nat.le_of_ble_eq_true rfl⟩) (wr := (cM g bM vM ++ (cR g bRF nRF (bGF 0) (bBF 0) vRF ++ (cL g bGF vGF ++ (cL g bBF vBF ++ (cD g bD (bS2 0) vD ++ (cS g bS2 (bE 0) (bU 0) ++ (cC g bE vE ++ (cT g bU vU ++ (cH g bH vH)))))))))) (w2 := cM g bM vM ++ (cO g bO vO_73 ++ (cF g bF (bD 0) (bS 0) (bH 0 0) (bRF 0) (bRT 0) vF_74 ++ (cS g bS (bC 0) (bT 0) ++ (cC g bC vC ++ (cT g bT vT ++ (cR g bRT nRT (bG 0) (bB 0) vRT_75 ++ (cL g bG vG_76 ++ (cL g bB vB_77 ++ (cR g bRF nRF (bGF 0) (bBF 0) vRF ++ (cL g bGF vGF ++ (cL g bBF vBF ++ (cD g bD (bS2 0) vD ++ (cS g bS2 (bE 0) (bU 0) ++ (cC g bE vE ++ (cT g bU vU ++ (cH g bH vH))))))))))))))))) (kpc (fun P => by simp only [List.countP_append] <;> omega)) (kpc (fun P => by simp only [List.countP_append] <;> omega)) (As := [.ref (bF 0), .int (xs ((x4 + (1 : Int32))).toNatClampNeg), .ref (bO 1)]) (rest := []) rfl rfl hl.1 (Nat.le_of_ble_eq_true rfl) dL_law_322 (k1 := cells + 1) (n1 := slots + 6) rfl rfl hcr (fun H locs hP hD hS => ?_)
          refine lv_istore (lv' := [(5, .int r72), (0, .ref b), (1, .ref (bF 0)), (2, .ref (bM 0)), (3, .ref (bO 1)), (4, .int x4)]) hx hb dL_law_325 hl (by decide) rfl (fun ls hl => ?_)
          refine lv_aload_n hx hb dL_law_327 rfl (lv_at hl 3 rfl) ?_
          refine lv_aload_n hx hb dL_law_328 rfl (lv_at hl 1 rfl) ?_
          refine lv_iload hx hb dL_law_329 (lv_at hl 5 rfl) ?_
          refine lv_iconst (v := (1 : Int32)) hx hb dL_law_331 (by decide) ?_
          refine lv_iadd hx hb dL_law_332 ?_
          obtain ⟨h79, hf⟩ := gd_in hf
          refine va_sld hx hb hX hbl hbA hS h79 dL_law_333 ?_
          obtain ⟨r80, vM_81, hg82, hf⟩ := o2_at hf
          refine k_viQ ⟨hx, hb, hml, hown, htu⟩ hK hP hD hS hA hG (c_X8_state l g bM vM (xs ((x4 + (1 : Int32))).toNatClampNeg) r80 vM_81 hg82) (cwV 1 htu (gU_V mw_6_28 hcX8_state) rfl rfl rfl hdX8_state ⟨Nat.le_of_ble_eq_true rfl, Nat.le_of_ble_eq_true rfl⟩) (q0 := 0) (ci := 8) (fs := fcM bM vM) (q := (RX8, TX8, 23)) rfl rfl rfl (wr := (cO g bO vO_73 ++ (cF g bF (bD 0) (bS 0) (bH 0 0) (bRF 0) (bRT 0) vF_74 ++ (cS g bS (bC 0) (bT 0) ++ (cC g bC vC ++ (cT g bT vT ++ (cR g bRT nRT (bG 0) (bB 0) vRT_75 ++ (cL g bG vG_76 ++ (cL g bB vB_77 ++ (cR g bRF nRF (bGF 0) (bBF 0) vRF ++ (cL g bGF vGF ++ (cL g bBF vBF ++ (cD g bD (bS2 0) vD ++ (cS g bS2 (bE 0) (bU 0) ++ (cC g bE vE ++ (cT g bU vU ++ (cH g bH vH))))))))))))))))) (w2 := cM g bM vM_81 ++ (cO g bO vO_73 ++ (cF g bF (bD 0) (bS 0) (bH 0 0) (bRF 0) (bRT 0) vF_74 ++ (cS g bS (bC 0) (bT 0) ++ (cC g bC vC ++ (cT g bT vT ++ (cR g bRT nRT (bG 0) (bB 0) vRT_75 ++ (cL g bG vG_76 ++ (cL g bB vB_77 ++ (cR g bRF nRF (bGF 0) (bBF 0) vRF ++ (cL g bGF vGF ++ (cL g bBF vBF ++ (cD g bD (bS2 0) vD ++ (cS g bS2 (bE 0) (bU 0) ++ (cC g bE vE ++ (cT g bU vU ++ (cH g bH vH))))))))))))))))) (kpc (fun P => by simp only [List.countP_append] <;> omega)) (kpc (fun P => by simp only [List.countP_append] <;> omega)) (As := [.int (xs ((x4 + (1 : Int32))).toNatClampNeg)]) (rest := []) rfl rfl hl.1 (Nat.le_of_ble_eq_true rfl) dL_law_334 (k1 := cells + 1) (n1 := slots + 6) rfl rfl hcr (fun H locs hP hD hS => ?_)
          refine lv_istore (lv' := [(6, .int r80), (5, .int r72), (0, .ref b), (1, .ref (bF 0)), (2, .ref (bM 0)), (3, .ref (bO 1)), (4, .int x4)]) hx hb dL_law_337 hl (by decide) rfl (fun ls hl => ?_)
          refine lv_aload_n hx hb dL_law_339 rfl (lv_at hl 4 rfl) ?_
          obtain ⟨r83, hg84, hf⟩ := o1_at hf
          refine k_viQ ⟨hx, hb, hml, hown, htu⟩ hK hP hD hS hA hG (c_X8_thrown l g bM vM_81 r83 hg84) (cwV 0 htu (gU_V mw_5_143 hcX8_thrown) rfl rfl rfl hdX8_thrown ⟨Nat.le_of_ble_eq_true rfl, Nat.le_of_ble_eq_true rfl⟩) (q0 := 0) (ci := 8) (fs := fcM bM vM_81) (q := (RX8, TX8, 23)) rfl rfl rfl (wr := (cO g bO vO_73 ++ (cF g bF (bD 0) (bS 0) (bH 0 0) (bRF 0) (bRT 0) vF_74 ++ (cS g bS (bC 0) (bT 0) ++ (cC g bC vC ++ (cT g bT vT ++ (cR g bRT nRT (bG 0) (bB 0) vRT_75 ++ (cL g bG vG_76 ++ (cL g bB vB_77 ++ (cR g bRF nRF (bGF 0) (bBF 0) vRF ++ (cL g bGF vGF ++ (cL g bBF vBF ++ (cD g bD (bS2 0) vD ++ (cS g bS2 (bE 0) (bU 0) ++ (cC g bE vE ++ (cT g bU vU ++ (cH g bH vH))))))))))))))))) (w2 := cM g bM vM_81 ++ (cO g bO vO_73 ++ (cF g bF (bD 0) (bS 0) (bH 0 0) (bRF 0) (bRT 0) vF_74 ++ (cS g bS (bC 0) (bT 0) ++ (cC g bC vC ++ (cT g bT vT ++ (cR g bRT nRT (bG 0) (bB 0) vRT_75 ++ (cL g bG vG_76 ++ (cL g bB vB_77 ++ (cR g bRF nRF (bGF 0) (bBF 0) vRF ++ (cL g bGF vGF ++ (cL g bBF vBF ++ (cD g bD (bS2 0) vD ++ (cS g bS2 (bE 0) (bU 0) ++ (cC g bE vE ++ (cT g bU vU ++ (cH g bH vH))))))))))))))))) (kpc (fun P => by simp only [List.countP_append] <;> omega)) (kpc (fun P => by simp only [List.countP_append] <;> omega)) (As := []) (rest := []) rfl rfl hl.1 (Nat.le_of_ble_eq_true rfl) dL_law_340 (k1 := cells + 1) (n1 := slots + 6) rfl rfl hcr (fun H locs hP hD hS => ?_)
          refine lv_iload hx hb dL_law_343 (lv_at hl 1 rfl) ?_
          refine lv_icmp_eq (tgt := 350) hx hb dL_law_345 (by decide) (fun c85 => ?_) (fun c85 => ?_)
          · have hf := it_t hf c85
            refine lv_iload hx hb dL_law_350 (lv_at hl 1 rfl) ?_
            obtain ⟨k86, hk88, hf⟩ := jn_at hf
            have hJ87 : k86 = some () → ∀ (H : Heap) (locs : List Loc), va_P g.1 vwCl (cM g bM vM_81 ++ (cO g bO vO_73 ++ (cF g bF (bD 0) (bS 0) (bH 0 0) (bRF 0) (bRT 0) vF_74 ++ (cS g bS (bC 0) (bT 0) ++ (cC g bC vC ++ (cT g bT vT ++ (cR g bRT nRT (bG 0) (bB 0) vRT_75 ++ (cL g bG vG_76 ++ (cL g bB vB_77 ++ (cR g bRF nRF (bGF 0) (bBF 0) vRF ++ (cL g bGF vGF ++ (cL g bBF vBF ++ (cD g bD (bS2 0) vD ++ (cS g bS2 (bE 0) (bU 0) ++ (cC g bE vE ++ (cT g bU vU ++ (cH g bH vH))))))))))))))))) H → va_D A (cM g bM vM_81 ++ (cO g bO vO_73 ++ (cF g bF (bD 0) (bS 0) (bH 0 0) (bRF 0) (bRT 0) vF_74 ++ (cS g bS (bC 0) (bT 0) ++ (cC g bC vC ++ (cT g bT vT ++ (cR g bRT nRT (bG 0) (bB 0) vRT_75 ++ (cL g bG vG_76 ++ (cL g bB vB_77 ++ (cR g bRF nRF (bGF 0) (bBF 0) vRF ++ (cL g bGF vGF ++ (cL g bBF vBF ++ (cD g bD (bS2 0) vD ++ (cS g bS2 (bE 0) (bU 0) ++ (cC g bE vE ++ (cT g bU vU ++ (cH g bH vH))))))))))))))))) → va_S A s.heap H locs → ∀ ls : Array Slot, lv_has ls 9 [(0, .ref b), (1, .ref (bF 0)), (2, .ref (bM 0)), (3, .ref (bO 1)), (4, .int x4)] → W p l e room_1 s m args below meth c H locs (cells + 1) (slots + 6) Q (F0 m 367 ls []) := by
              intro hf H locs hP hD hS ls hl
              rw [hk88] at hf
              clear hk88
              refine lv_goto (tgt := 1532) hx hb dL_law_367 (by decide) ?_
              refine W.widen (k := cells + 1) (n := slots + 6) (by omega) (by omega) ?_
              exact hJ18 vM_81 vO_73 vF_74 vC vT vRT_75 vG_76 vB_77 vRF vGF vBF vD vE vU vH hf H locs hP hD hS _ (lv_sub hl [0, 1, 2, 3, 4] rfl)
            refine lv_if_ne (tgt := 367) hx hb dL_law_352 (by decide) (fun c89 => ?_) (fun c89 => ?_)
            · have hf := it_f hf c89
              refine W.widen (k := cells + 1) (n := slots + 6) (by omega) (by omega) ?_
              exact hJ87 hf H locs hP hD hS _ (lv_sub hl [2, 3, 4, 5, 6] rfl)
            · have hf := it_t hf c89
              refine lv_aload_n hx hb dL_law_355 rfl (lv_at hl 5 rfl) ?_
              refine lv_iconst (v := (0 : Int32)) hx hb dL_law_356 (by decide) ?_
              obtain ⟨h90, hf⟩ := gd_in hf
              refine va_lald (D := g.1) (f := (vO_73.2.2 0)) hx hb hK hP 14 1 rfl rfl h90 dL_law_357 ?_
              refine lv_iload hx hb dL_law_358 (lv_at hl 0 rfl) ?_
              refine lv_i2l (v := (r80).toInt64) hx hb dL_law_360 rfl ?_
              refine W.lcmp hx hb dL_law_361 ?_
              refine lv_if_eq (tgt := 367) hx hb dL_law_362 (by decide) (fun c91 => ?_) (fun c91 => ?_)
              · have hf := it_t hf c91
                refine W.widen (k := cells + 1) (n := slots + 6) (by omega) (by omega) ?_
                exact hJ87 hf H locs hP hD hS _ (lv_sub hl [2, 3, 4, 5, 6] rfl)
              · have hf := it_f hf c91
                refine lv_iconst (v := (0 : Int32)) hx hb dL_law_365 (by decide) ?_
                cases hf
          · have hf := it_f hf c85
            refine lv_iconst (v := (0 : Int32)) hx hb dL_law_348 (by decide) ?_
            cases hf
        · have hf := it_f hf c70
          by_cases c92 : ((xs (x4).toNatClampNeg) &&& (31 : Int32)) = (4 : Int32)
          · have hf := it_t hf c92
            refine lv_tableIn (off := 330) (tgt := 370) hx hb dL_law_40 (by rw [c92]; decide) (by rw [c92]; decide) (by rw [c92]; rfl) (by decide) ?_
            refine lv_aload_n hx hb dL_law_370 rfl (lv_at hl 1 rfl) ?_
            refine lv_aload_n hx hb dL_law_371 rfl (lv_at hl 0 rfl) ?_
            refine lv_iload hx hb dL_law_372 (lv_at hl 4 rfl) ?_
            refine lv_iconst (v := (1 : Int32)) hx hb dL_law_374 (by decide) ?_
            refine lv_iadd hx hb dL_law_375 ?_
            obtain ⟨h93, hf⟩ := gd_in hf
            refine va_sld hx hb hX hbl hbA hS h93 dL_law_376 ?_
            refine lv_aload_n hx hb dL_law_377 rfl (lv_at hl 0 rfl) ?_
            refine lv_iload hx hb dL_law_378 (lv_at hl 4 rfl) ?_
            refine lv_iconst (v := (2 : Int32)) hx hb dL_law_380 (by decide) ?_
            refine lv_iadd hx hb dL_law_381 ?_
            obtain ⟨h94, hf⟩ := gd_in hf
            refine va_sld hx hb hX hbl hbA hS h94 dL_law_382 ?_
            refine lv_aload_n hx hb dL_law_383 rfl (lv_at hl 3 rfl) ?_
            obtain ⟨r95, vO_96, hg97, hf⟩ := o2_at hf
            refine k_siHQ ⟨hx, hb, hml, hown, htu⟩ hK hP hD hS hA hG (h_L_wire l hst g bO vO bF (bD 0) (bH 0 0) (bRF 0) (bRT 0) vF bS (bT 0) bC vC (xs ((x4 + (1 : Int32))).toNatClampNeg) (xs ((x4 + (2 : Int32))).toNatClampNeg) r95 vO_96 hg97) (vx_cwSW 4 htu (gU_H mw_4_121 hcL_wire) rfl rfl rfl hdL_wire ⟨Nat.le_of_ble_eq_true rfl, Nat.le_of_ble_eq_true rfl⟩) (wr := (cM g bM vM ++ (cT g bT vT ++ (cR g bRT nRT (bG 0) (bB 0) vRT ++ (cL g bG vG ++ (cL g bB vB ++ (cR g bRF nRF (bGF 0) (bBF 0) vRF ++ (cL g bGF vGF ++ (cL g bBF vBF ++ (cD g bD (bS2 0) vD ++ (cS g bS2 (bE 0) (bU 0) ++ (cC g bE vE ++ (cT g bU vU ++ (cH g bH vH)))))))))))))) (w2 := cM g bM vM ++ (cO g bO vO_96 ++ (cF g bF (bD 0) (bS 0) (bH 0 0) (bRF 0) (bRT 0) vF ++ (cS g bS (bC 0) (bT 0) ++ (cC g bC vC ++ (cT g bT vT ++ (cR g bRT nRT (bG 0) (bB 0) vRT ++ (cL g bG vG ++ (cL g bB vB ++ (cR g bRF nRF (bGF 0) (bBF 0) vRF ++ (cL g bGF vGF ++ (cL g bBF vBF ++ (cD g bD (bS2 0) vD ++ (cS g bS2 (bE 0) (bU 0) ++ (cC g bE vE ++ (cT g bU vU ++ (cH g bH vH))))))))))))))))) (kpc (fun P => by simp only [List.countP_append] <;> omega)) (kpc (fun P => by simp only [List.countP_append] <;> omega)) (As := [.ref (bF 0), .int (xs ((x4 + (1 : Int32))).toNatClampNeg), .int (xs ((x4 + (2 : Int32))).toNatClampNeg), .ref (bO 1)]) (rest := []) rfl rfl hl.1 (Nat.le_of_ble_eq_true rfl) dL_law_384 (k1 := cells + 1) (n1 := slots + 6) rfl rfl hcr (fun H locs hP hD hS => ?_)
            refine lv_istore (lv' := [(5, .int r95), (0, .ref b), (1, .ref (bF 0)), (2, .ref (bM 0)), (3, .ref (bO 1)), (4, .int x4)]) hx hb dL_law_387 hl (by decide) rfl (fun ls hl => ?_)
            refine lv_aload_n hx hb dL_law_389 rfl (lv_at hl 3 rfl) ?_
            refine lv_aload_n hx hb dL_law_390 rfl (lv_at hl 1 rfl) ?_
            refine lv_iload hx hb dL_law_391 (lv_at hl 5 rfl) ?_
            refine lv_iconst (v := (1 : Int32)) hx hb dL_law_393 (by decide) ?_
            refine lv_iadd hx hb dL_law_394 ?_
            obtain ⟨h98, hf⟩ := gd_in hf
            refine va_sld hx hb hX hbl hbA hS h98 dL_law_395 ?_
            refine lv_aload_n hx hb dL_law_396 rfl (lv_at hl 1 rfl) ?_
            refine lv_iload hx hb dL_law_397 (lv_at hl 5 rfl) ?_
            refine lv_iconst (v := (2 : Int32)) hx hb dL_law_399 (by decide) ?_
            refine lv_iadd hx hb dL_law_400 ?_
            obtain ⟨h99, hf⟩ := gd_in hf
            refine va_sld hx hb hX hbl hbA hS h99 dL_law_401 ?_
            obtain ⟨r100, vM_101, hg102, hf⟩ := o2_at hf
            refine k_viQ ⟨hx, hb, hml, hown, htu⟩ hK hP hD hS hA hG (c_X8_wire l g bM vM (xs ((x4 + (1 : Int32))).toNatClampNeg) (xs ((x4 + (2 : Int32))).toNatClampNeg) r100 vM_101 hg102) (cwV 2 htu (gU_V mw_6_114 hcX8_wire) rfl rfl rfl hdX8_wire ⟨Nat.le_of_ble_eq_true rfl, Nat.le_of_ble_eq_true rfl⟩) (q0 := 0) (ci := 8) (fs := fcM bM vM) (q := (RX8, TX8, 23)) rfl rfl rfl (wr := (cO g bO vO_96 ++ (cF g bF (bD 0) (bS 0) (bH 0 0) (bRF 0) (bRT 0) vF ++ (cS g bS (bC 0) (bT 0) ++ (cC g bC vC ++ (cT g bT vT ++ (cR g bRT nRT (bG 0) (bB 0) vRT ++ (cL g bG vG ++ (cL g bB vB ++ (cR g bRF nRF (bGF 0) (bBF 0) vRF ++ (cL g bGF vGF ++ (cL g bBF vBF ++ (cD g bD (bS2 0) vD ++ (cS g bS2 (bE 0) (bU 0) ++ (cC g bE vE ++ (cT g bU vU ++ (cH g bH vH))))))))))))))))) (w2 := cM g bM vM_101 ++ (cO g bO vO_96 ++ (cF g bF (bD 0) (bS 0) (bH 0 0) (bRF 0) (bRT 0) vF ++ (cS g bS (bC 0) (bT 0) ++ (cC g bC vC ++ (cT g bT vT ++ (cR g bRT nRT (bG 0) (bB 0) vRT ++ (cL g bG vG ++ (cL g bB vB ++ (cR g bRF nRF (bGF 0) (bBF 0) vRF ++ (cL g bGF vGF ++ (cL g bBF vBF ++ (cD g bD (bS2 0) vD ++ (cS g bS2 (bE 0) (bU 0) ++ (cC g bE vE ++ (cT g bU vU ++ (cH g bH vH))))))))))))))))) (kpc (fun P => by simp only [List.countP_append] <;> omega)) (kpc (fun P => by simp only [List.countP_append] <;> omega)) (As := [.int (xs ((x4 + (1 : Int32))).toNatClampNeg), .int (xs ((x4 + (2 : Int32))).toNatClampNeg)]) (rest := []) rfl rfl hl.1 (Nat.le_of_ble_eq_true rfl) dL_law_402 (k1 := cells + 1) (n1 := slots + 6) rfl rfl hcr (fun H locs hP hD hS => ?_)
            refine lv_istore (lv' := [(6, .int r100), (5, .int r95), (0, .ref b), (1, .ref (bF 0)), (2, .ref (bM 0)), (3, .ref (bO 1)), (4, .int x4)]) hx hb dL_law_405 hl (by decide) rfl (fun ls hl => ?_)
            refine lv_aload_n hx hb dL_law_407 rfl (lv_at hl 4 rfl) ?_
            obtain ⟨r103, hg104, hf⟩ := o1_at hf
            refine k_viQ ⟨hx, hb, hml, hown, htu⟩ hK hP hD hS hA hG (c_X8_thrown l g bM vM_101 r103 hg104) (cwV 0 htu (gU_V mw_5_143 hcX8_thrown) rfl rfl rfl hdX8_thrown ⟨Nat.le_of_ble_eq_true rfl, Nat.le_of_ble_eq_true rfl⟩) (q0 := 0) (ci := 8) (fs := fcM bM vM_101) (q := (RX8, TX8, 23)) rfl rfl rfl (wr := (cO g bO vO_96 ++ (cF g bF (bD 0) (bS 0) (bH 0 0) (bRF 0) (bRT 0) vF ++ (cS g bS (bC 0) (bT 0) ++ (cC g bC vC ++ (cT g bT vT ++ (cR g bRT nRT (bG 0) (bB 0) vRT ++ (cL g bG vG ++ (cL g bB vB ++ (cR g bRF nRF (bGF 0) (bBF 0) vRF ++ (cL g bGF vGF ++ (cL g bBF vBF ++ (cD g bD (bS2 0) vD ++ (cS g bS2 (bE 0) (bU 0) ++ (cC g bE vE ++ (cT g bU vU ++ (cH g bH vH))))))))))))))))) (w2 := cM g bM vM_101 ++ (cO g bO vO_96 ++ (cF g bF (bD 0) (bS 0) (bH 0 0) (bRF 0) (bRT 0) vF ++ (cS g bS (bC 0) (bT 0) ++ (cC g bC vC ++ (cT g bT vT ++ (cR g bRT nRT (bG 0) (bB 0) vRT ++ (cL g bG vG ++ (cL g bB vB ++ (cR g bRF nRF (bGF 0) (bBF 0) vRF ++ (cL g bGF vGF ++ (cL g bBF vBF ++ (cD g bD (bS2 0) vD ++ (cS g bS2 (bE 0) (bU 0) ++ (cC g bE vE ++ (cT g bU vU ++ (cH g bH vH))))))))))))))))) (kpc (fun P => by simp only [List.countP_append] <;> omega)) (kpc (fun P => by simp only [List.countP_append] <;> omega)) (As := []) (rest := []) rfl rfl hl.1 (Nat.le_of_ble_eq_true rfl) dL_law_408 (k1 := cells + 1) (n1 := slots + 6) rfl rfl hcr (fun H locs hP hD hS => ?_)
            refine lv_iload hx hb dL_law_411 (lv_at hl 1 rfl) ?_
            refine lv_icmp_eq (tgt := 418) hx hb dL_law_413 (by decide) (fun c105 => ?_) (fun c105 => ?_)
            · have hf := it_t hf c105
              refine lv_iload hx hb dL_law_418 (lv_at hl 1 rfl) ?_
              obtain ⟨k106, hk108, hf⟩ := jn_at hf
              have hJ107 : k106 = some () → ∀ (H : Heap) (locs : List Loc), va_P g.1 vwCl (cM g bM vM_101 ++ (cO g bO vO_96 ++ (cF g bF (bD 0) (bS 0) (bH 0 0) (bRF 0) (bRT 0) vF ++ (cS g bS (bC 0) (bT 0) ++ (cC g bC vC ++ (cT g bT vT ++ (cR g bRT nRT (bG 0) (bB 0) vRT ++ (cL g bG vG ++ (cL g bB vB ++ (cR g bRF nRF (bGF 0) (bBF 0) vRF ++ (cL g bGF vGF ++ (cL g bBF vBF ++ (cD g bD (bS2 0) vD ++ (cS g bS2 (bE 0) (bU 0) ++ (cC g bE vE ++ (cT g bU vU ++ (cH g bH vH))))))))))))))))) H → va_D A (cM g bM vM_101 ++ (cO g bO vO_96 ++ (cF g bF (bD 0) (bS 0) (bH 0 0) (bRF 0) (bRT 0) vF ++ (cS g bS (bC 0) (bT 0) ++ (cC g bC vC ++ (cT g bT vT ++ (cR g bRT nRT (bG 0) (bB 0) vRT ++ (cL g bG vG ++ (cL g bB vB ++ (cR g bRF nRF (bGF 0) (bBF 0) vRF ++ (cL g bGF vGF ++ (cL g bBF vBF ++ (cD g bD (bS2 0) vD ++ (cS g bS2 (bE 0) (bU 0) ++ (cC g bE vE ++ (cT g bU vU ++ (cH g bH vH))))))))))))))))) → va_S A s.heap H locs → ∀ ls : Array Slot, lv_has ls 9 [(0, .ref b), (1, .ref (bF 0)), (2, .ref (bM 0)), (3, .ref (bO 1)), (4, .int x4)] → W p l e room_1 s m args below meth c H locs (cells + 1) (slots + 6) Q (F0 m 435 ls []) := by
                intro hf H locs hP hD hS ls hl
                rw [hk108] at hf
                clear hk108
                refine lv_goto (tgt := 1532) hx hb dL_law_435 (by decide) ?_
                refine W.widen (k := cells + 1) (n := slots + 6) (by omega) (by omega) ?_
                exact hJ18 vM_101 vO_96 vF vC vT vRT vG vB vRF vGF vBF vD vE vU vH hf H locs hP hD hS _ (lv_sub hl [0, 1, 2, 3, 4] rfl)
              refine lv_if_ne (tgt := 435) hx hb dL_law_420 (by decide) (fun c109 => ?_) (fun c109 => ?_)
              · have hf := it_f hf c109
                refine W.widen (k := cells + 1) (n := slots + 6) (by omega) (by omega) ?_
                exact hJ107 hf H locs hP hD hS _ (lv_sub hl [2, 3, 4, 5, 6] rfl)
              · have hf := it_t hf c109
                refine lv_aload_n hx hb dL_law_423 rfl (lv_at hl 5 rfl) ?_
                refine lv_iconst (v := (0 : Int32)) hx hb dL_law_424 (by decide) ?_
                obtain ⟨h110, hf⟩ := gd_in hf
                refine va_lald (D := g.1) (f := (vO_96.2.2 0)) hx hb hK hP 14 1 rfl rfl h110 dL_law_425 ?_
                refine lv_iload hx hb dL_law_426 (lv_at hl 0 rfl) ?_
                refine lv_i2l (v := (r100).toInt64) hx hb dL_law_428 rfl ?_
                refine W.lcmp hx hb dL_law_429 ?_
                refine lv_if_eq (tgt := 435) hx hb dL_law_430 (by decide) (fun c111 => ?_) (fun c111 => ?_)
                · have hf := it_t hf c111
                  refine W.widen (k := cells + 1) (n := slots + 6) (by omega) (by omega) ?_
                  exact hJ107 hf H locs hP hD hS _ (lv_sub hl [2, 3, 4, 5, 6] rfl)
                · have hf := it_f hf c111
                  refine lv_iconst (v := (0 : Int32)) hx hb dL_law_433 (by decide) ?_
                  cases hf
            · have hf := it_f hf c105
              refine lv_iconst (v := (0 : Int32)) hx hb dL_law_416 (by decide) ?_
              cases hf
          · have hf := it_f hf c92
            by_cases c112 : ((xs (x4).toNatClampNeg) &&& (31 : Int32)) = (5 : Int32)
            · have hf := it_t hf c112
              refine lv_tableIn (off := 398) (tgt := 438) hx hb dL_law_40 (by rw [c112]; decide) (by rw [c112]; decide) (by rw [c112]; rfl) (by decide) ?_
              refine lv_aload_n hx hb dL_law_438 rfl (lv_at hl 1 rfl) ?_
              refine lv_aload_n hx hb dL_law_439 rfl (lv_at hl 0 rfl) ?_
              refine lv_iload hx hb dL_law_440 (lv_at hl 4 rfl) ?_
              refine lv_iconst (v := (1 : Int32)) hx hb dL_law_442 (by decide) ?_
              refine lv_iadd hx hb dL_law_443 ?_
              obtain ⟨h113, hf⟩ := gd_in hf
              refine va_sld hx hb hX hbl hbA hS h113 dL_law_444 ?_
              refine lv_aload_n hx hb dL_law_445 rfl (lv_at hl 0 rfl) ?_
              refine lv_iload hx hb dL_law_446 (lv_at hl 4 rfl) ?_
              refine lv_iconst (v := (2 : Int32)) hx hb dL_law_448 (by decide) ?_
              refine lv_iadd hx hb dL_law_449 ?_
              obtain ⟨h114, hf⟩ := gd_in hf
              refine va_sld hx hb hX hbl hbA hS h114 dL_law_450 ?_
              refine lv_aload_n hx hb dL_law_451 rfl (lv_at hl 3 rfl) ?_
              obtain ⟨r115, vO_116, hg117, hf⟩ := o2_at hf
              refine k_siHQ ⟨hx, hb, hml, hown, htu⟩ hK hP hD hS hA hG (h_L_operand l hst g bO vO bF (bD 0) (bH 0 0) (bRF 0) (bRT 0) vF bS (bT 0) bC vC (xs ((x4 + (1 : Int32))).toNatClampNeg) (xs ((x4 + (2 : Int32))).toNatClampNeg) r115 vO_116 hg117) (vx_cwSW 4 htu (gU_H mw_4_126 hcL_operand) rfl rfl rfl hdL_operand ⟨Nat.le_of_ble_eq_true rfl, Nat.le_of_ble_eq_true rfl⟩) (wr := (cM g bM vM ++ (cT g bT vT ++ (cR g bRT nRT (bG 0) (bB 0) vRT ++ (cL g bG vG ++ (cL g bB vB ++ (cR g bRF nRF (bGF 0) (bBF 0) vRF ++ (cL g bGF vGF ++ (cL g bBF vBF ++ (cD g bD (bS2 0) vD ++ (cS g bS2 (bE 0) (bU 0) ++ (cC g bE vE ++ (cT g bU vU ++ (cH g bH vH)))))))))))))) (w2 := cM g bM vM ++ (cO g bO vO_116 ++ (cF g bF (bD 0) (bS 0) (bH 0 0) (bRF 0) (bRT 0) vF ++ (cS g bS (bC 0) (bT 0) ++ (cC g bC vC ++ (cT g bT vT ++ (cR g bRT nRT (bG 0) (bB 0) vRT ++ (cL g bG vG ++ (cL g bB vB ++ (cR g bRF nRF (bGF 0) (bBF 0) vRF ++ (cL g bGF vGF ++ (cL g bBF vBF ++ (cD g bD (bS2 0) vD ++ (cS g bS2 (bE 0) (bU 0) ++ (cC g bE vE ++ (cT g bU vU ++ (cH g bH vH))))))))))))))))) (kpc (fun P => by simp only [List.countP_append] <;> omega)) (kpc (fun P => by simp only [List.countP_append] <;> omega)) (As := [.ref (bF 0), .int (xs ((x4 + (1 : Int32))).toNatClampNeg), .int (xs ((x4 + (2 : Int32))).toNatClampNeg), .ref (bO 1)]) (rest := []) rfl rfl hl.1 (Nat.le_of_ble_eq_true rfl) dL_law_452 (k1 := cells + 1) (n1 := slots + 6) rfl rfl hcr (fun H locs hP hD hS => ?_)
              refine lv_istore (lv' := [(5, .int r115), (0, .ref b), (1, .ref (bF 0)), (2, .ref (bM 0)), (3, .ref (bO 1)), (4, .int x4)]) hx hb dL_law_455 hl (by decide) rfl (fun ls hl => ?_)
              refine lv_aload_n hx hb dL_law_457 rfl (lv_at hl 3 rfl) ?_
              refine lv_aload_n hx hb dL_law_458 rfl (lv_at hl 1 rfl) ?_
              refine lv_iload hx hb dL_law_459 (lv_at hl 5 rfl) ?_
              refine lv_iconst (v := (1 : Int32)) hx hb dL_law_461 (by decide) ?_
              refine lv_iadd hx hb dL_law_462 ?_
              obtain ⟨h118, hf⟩ := gd_in hf
              refine va_sld hx hb hX hbl hbA hS h118 dL_law_463 ?_
              refine lv_aload_n hx hb dL_law_464 rfl (lv_at hl 1 rfl) ?_
              refine lv_iload hx hb dL_law_465 (lv_at hl 5 rfl) ?_
              refine lv_iconst (v := (2 : Int32)) hx hb dL_law_467 (by decide) ?_
              refine lv_iadd hx hb dL_law_468 ?_
              obtain ⟨h119, hf⟩ := gd_in hf
              refine va_sld hx hb hX hbl hbA hS h119 dL_law_469 ?_
              obtain ⟨r120, vM_121, hg122, hf⟩ := o2_at hf
              refine k_viQ ⟨hx, hb, hml, hown, htu⟩ hK hP hD hS hA hG (c_X8_operand l g bM vM (xs ((x4 + (1 : Int32))).toNatClampNeg) (xs ((x4 + (2 : Int32))).toNatClampNeg) r120 vM_121 hg122) (cwV 2 htu (gU_V mw_6_134 hcX8_operand) rfl rfl rfl hdX8_operand ⟨Nat.le_of_ble_eq_true rfl, Nat.le_of_ble_eq_true rfl⟩) (q0 := 0) (ci := 8) (fs := fcM bM vM) (q := (RX8, TX8, 23)) rfl rfl rfl (wr := (cO g bO vO_116 ++ (cF g bF (bD 0) (bS 0) (bH 0 0) (bRF 0) (bRT 0) vF ++ (cS g bS (bC 0) (bT 0) ++ (cC g bC vC ++ (cT g bT vT ++ (cR g bRT nRT (bG 0) (bB 0) vRT ++ (cL g bG vG ++ (cL g bB vB ++ (cR g bRF nRF (bGF 0) (bBF 0) vRF ++ (cL g bGF vGF ++ (cL g bBF vBF ++ (cD g bD (bS2 0) vD ++ (cS g bS2 (bE 0) (bU 0) ++ (cC g bE vE ++ (cT g bU vU ++ (cH g bH vH))))))))))))))))) (w2 := cM g bM vM_121 ++ (cO g bO vO_116 ++ (cF g bF (bD 0) (bS 0) (bH 0 0) (bRF 0) (bRT 0) vF ++ (cS g bS (bC 0) (bT 0) ++ (cC g bC vC ++ (cT g bT vT ++ (cR g bRT nRT (bG 0) (bB 0) vRT ++ (cL g bG vG ++ (cL g bB vB ++ (cR g bRF nRF (bGF 0) (bBF 0) vRF ++ (cL g bGF vGF ++ (cL g bBF vBF ++ (cD g bD (bS2 0) vD ++ (cS g bS2 (bE 0) (bU 0) ++ (cC g bE vE ++ (cT g bU vU ++ (cH g bH vH))))))))))))))))) (kpc (fun P => by simp only [List.countP_append] <;> omega)) (kpc (fun P => by simp only [List.countP_append] <;> omega)) (As := [.int (xs ((x4 + (1 : Int32))).toNatClampNeg), .int (xs ((x4 + (2 : Int32))).toNatClampNeg)]) (rest := []) rfl rfl hl.1 (Nat.le_of_ble_eq_true rfl) dL_law_470 (k1 := cells + 1) (n1 := slots + 6) rfl rfl hcr (fun H locs hP hD hS => ?_)
              refine lv_istore (lv' := [(6, .int r120), (5, .int r115), (0, .ref b), (1, .ref (bF 0)), (2, .ref (bM 0)), (3, .ref (bO 1)), (4, .int x4)]) hx hb dL_law_473 hl (by decide) rfl (fun ls hl => ?_)
              refine lv_aload_n hx hb dL_law_475 rfl (lv_at hl 4 rfl) ?_
              obtain ⟨r123, hg124, hf⟩ := o1_at hf
              refine k_viQ ⟨hx, hb, hml, hown, htu⟩ hK hP hD hS hA hG (c_X8_thrown l g bM vM_121 r123 hg124) (cwV 0 htu (gU_V mw_5_143 hcX8_thrown) rfl rfl rfl hdX8_thrown ⟨Nat.le_of_ble_eq_true rfl, Nat.le_of_ble_eq_true rfl⟩) (q0 := 0) (ci := 8) (fs := fcM bM vM_121) (q := (RX8, TX8, 23)) rfl rfl rfl (wr := (cO g bO vO_116 ++ (cF g bF (bD 0) (bS 0) (bH 0 0) (bRF 0) (bRT 0) vF ++ (cS g bS (bC 0) (bT 0) ++ (cC g bC vC ++ (cT g bT vT ++ (cR g bRT nRT (bG 0) (bB 0) vRT ++ (cL g bG vG ++ (cL g bB vB ++ (cR g bRF nRF (bGF 0) (bBF 0) vRF ++ (cL g bGF vGF ++ (cL g bBF vBF ++ (cD g bD (bS2 0) vD ++ (cS g bS2 (bE 0) (bU 0) ++ (cC g bE vE ++ (cT g bU vU ++ (cH g bH vH))))))))))))))))) (w2 := cM g bM vM_121 ++ (cO g bO vO_116 ++ (cF g bF (bD 0) (bS 0) (bH 0 0) (bRF 0) (bRT 0) vF ++ (cS g bS (bC 0) (bT 0) ++ (cC g bC vC ++ (cT g bT vT ++ (cR g bRT nRT (bG 0) (bB 0) vRT ++ (cL g bG vG ++ (cL g bB vB ++ (cR g bRF nRF (bGF 0) (bBF 0) vRF ++ (cL g bGF vGF ++ (cL g bBF vBF ++ (cD g bD (bS2 0) vD ++ (cS g bS2 (bE 0) (bU 0) ++ (cC g bE vE ++ (cT g bU vU ++ (cH g bH vH))))))))))))))))) (kpc (fun P => by simp only [List.countP_append] <;> omega)) (kpc (fun P => by simp only [List.countP_append] <;> omega)) (As := []) (rest := []) rfl rfl hl.1 (Nat.le_of_ble_eq_true rfl) dL_law_476 (k1 := cells + 1) (n1 := slots + 6) rfl rfl hcr (fun H locs hP hD hS => ?_)
              refine lv_iload hx hb dL_law_479 (lv_at hl 1 rfl) ?_
              refine lv_icmp_eq (tgt := 486) hx hb dL_law_481 (by decide) (fun c125 => ?_) (fun c125 => ?_)
              · have hf := it_t hf c125
                refine lv_iload hx hb dL_law_486 (lv_at hl 1 rfl) ?_
                obtain ⟨k126, hk128, hf⟩ := jn_at hf
                have hJ127 : k126 = some () → ∀ (H : Heap) (locs : List Loc), va_P g.1 vwCl (cM g bM vM_121 ++ (cO g bO vO_116 ++ (cF g bF (bD 0) (bS 0) (bH 0 0) (bRF 0) (bRT 0) vF ++ (cS g bS (bC 0) (bT 0) ++ (cC g bC vC ++ (cT g bT vT ++ (cR g bRT nRT (bG 0) (bB 0) vRT ++ (cL g bG vG ++ (cL g bB vB ++ (cR g bRF nRF (bGF 0) (bBF 0) vRF ++ (cL g bGF vGF ++ (cL g bBF vBF ++ (cD g bD (bS2 0) vD ++ (cS g bS2 (bE 0) (bU 0) ++ (cC g bE vE ++ (cT g bU vU ++ (cH g bH vH))))))))))))))))) H → va_D A (cM g bM vM_121 ++ (cO g bO vO_116 ++ (cF g bF (bD 0) (bS 0) (bH 0 0) (bRF 0) (bRT 0) vF ++ (cS g bS (bC 0) (bT 0) ++ (cC g bC vC ++ (cT g bT vT ++ (cR g bRT nRT (bG 0) (bB 0) vRT ++ (cL g bG vG ++ (cL g bB vB ++ (cR g bRF nRF (bGF 0) (bBF 0) vRF ++ (cL g bGF vGF ++ (cL g bBF vBF ++ (cD g bD (bS2 0) vD ++ (cS g bS2 (bE 0) (bU 0) ++ (cC g bE vE ++ (cT g bU vU ++ (cH g bH vH))))))))))))))))) → va_S A s.heap H locs → ∀ ls : Array Slot, lv_has ls 9 [(0, .ref b), (1, .ref (bF 0)), (2, .ref (bM 0)), (3, .ref (bO 1)), (4, .int x4)] → W p l e room_1 s m args below meth c H locs (cells + 1) (slots + 6) Q (F0 m 503 ls []) := by
                  intro hf H locs hP hD hS ls hl
                  rw [hk128] at hf
                  clear hk128
                  refine lv_goto (tgt := 1532) hx hb dL_law_503 (by decide) ?_
                  refine W.widen (k := cells + 1) (n := slots + 6) (by omega) (by omega) ?_
                  exact hJ18 vM_121 vO_116 vF vC vT vRT vG vB vRF vGF vBF vD vE vU vH hf H locs hP hD hS _ (lv_sub hl [0, 1, 2, 3, 4] rfl)
                refine lv_if_ne (tgt := 503) hx hb dL_law_488 (by decide) (fun c129 => ?_) (fun c129 => ?_)
                · have hf := it_f hf c129
                  refine W.widen (k := cells + 1) (n := slots + 6) (by omega) (by omega) ?_
                  exact hJ127 hf H locs hP hD hS _ (lv_sub hl [2, 3, 4, 5, 6] rfl)
                · have hf := it_t hf c129
                  refine lv_aload_n hx hb dL_law_491 rfl (lv_at hl 5 rfl) ?_
                  refine lv_iconst (v := (0 : Int32)) hx hb dL_law_492 (by decide) ?_
                  obtain ⟨h130, hf⟩ := gd_in hf
                  refine va_lald (D := g.1) (f := (vO_116.2.2 0)) hx hb hK hP 14 1 rfl rfl h130 dL_law_493 ?_
                  refine lv_iload hx hb dL_law_494 (lv_at hl 0 rfl) ?_
                  refine lv_i2l (v := (r120).toInt64) hx hb dL_law_496 rfl ?_
                  refine W.lcmp hx hb dL_law_497 ?_
                  refine lv_if_eq (tgt := 503) hx hb dL_law_498 (by decide) (fun c131 => ?_) (fun c131 => ?_)
                  · have hf := it_t hf c131
                    refine W.widen (k := cells + 1) (n := slots + 6) (by omega) (by omega) ?_
                    exact hJ127 hf H locs hP hD hS _ (lv_sub hl [2, 3, 4, 5, 6] rfl)
                  · have hf := it_f hf c131
                    refine lv_iconst (v := (0 : Int32)) hx hb dL_law_501 (by decide) ?_
                    cases hf
              · have hf := it_f hf c125
                refine lv_iconst (v := (0 : Int32)) hx hb dL_law_484 (by decide) ?_
                cases hf
            · have hf := it_f hf c112
              by_cases c132 : ((xs (x4).toNatClampNeg) &&& (31 : Int32)) = (6 : Int32)
              · have hf := it_t hf c132
                refine lv_tableIn (off := 466) (tgt := 506) hx hb dL_law_40 (by rw [c132]; decide) (by rw [c132]; decide) (by rw [c132]; rfl) (by decide) ?_
                refine lv_aload_n hx hb dL_law_506 rfl (lv_at hl 1 rfl) ?_
                refine lv_aload_n hx hb dL_law_507 rfl (lv_at hl 0 rfl) ?_
                refine lv_iload hx hb dL_law_508 (lv_at hl 4 rfl) ?_
                refine lv_iconst (v := (1 : Int32)) hx hb dL_law_510 (by decide) ?_
                refine lv_iadd hx hb dL_law_511 ?_
                obtain ⟨h133, hf⟩ := gd_in hf
                refine va_sld hx hb hX hbl hbA hS h133 dL_law_512 ?_
                refine lv_aload_n hx hb dL_law_513 rfl (lv_at hl 0 rfl) ?_
                refine lv_iload hx hb dL_law_514 (lv_at hl 4 rfl) ?_
                refine lv_iconst (v := (2 : Int32)) hx hb dL_law_516 (by decide) ?_
                refine lv_iadd hx hb dL_law_517 ?_
                obtain ⟨h134, hf⟩ := gd_in hf
                refine va_sld hx hb hX hbl hbA hS h134 dL_law_518 ?_
                refine lv_aload_n hx hb dL_law_519 rfl (lv_at hl 3 rfl) ?_
                obtain ⟨r135, vO_136, vF_137, vRT_138, vG_139, vB_140, hg141, hf⟩ := o6_at hf
                refine k_siHQ ⟨hx, hb, hml, hown, htu⟩ hK hP hD hS hA hG (h_L_value l hst g bO vO bF (bD 0) (bH 0 0) (bRF 0) vF bS bC vC bT vT bRT nRT vRT bG vG bB vB (xs ((x4 + (1 : Int32))).toNatClampNeg) (xs ((x4 + (2 : Int32))).toNatClampNeg) r135 vO_136 vF_137 vRT_138 vG_139 vB_140 hg141) (vx_cwSW 4 htu (gU_H mw_4_150 hcL_value) rfl rfl rfl hdL_value ⟨Nat.le_of_ble_eq_true rfl, Nat.le_of_ble_eq_true rfl⟩) (wr := (cM g bM vM ++ (cR g bRF nRF (bGF 0) (bBF 0) vRF ++ (cL g bGF vGF ++ (cL g bBF vBF ++ (cD g bD (bS2 0) vD ++ (cS g bS2 (bE 0) (bU 0) ++ (cC g bE vE ++ (cT g bU vU ++ (cH g bH vH)))))))))) (w2 := cM g bM vM ++ (cO g bO vO_136 ++ (cF g bF (bD 0) (bS 0) (bH 0 0) (bRF 0) (bRT 0) vF_137 ++ (cS g bS (bC 0) (bT 0) ++ (cC g bC vC ++ (cT g bT vT ++ (cR g bRT nRT (bG 0) (bB 0) vRT_138 ++ (cL g bG vG_139 ++ (cL g bB vB_140 ++ (cR g bRF nRF (bGF 0) (bBF 0) vRF ++ (cL g bGF vGF ++ (cL g bBF vBF ++ (cD g bD (bS2 0) vD ++ (cS g bS2 (bE 0) (bU 0) ++ (cC g bE vE ++ (cT g bU vU ++ (cH g bH vH))))))))))))))))) (kpc (fun P => by simp only [List.countP_append] <;> omega)) (kpc (fun P => by simp only [List.countP_append] <;> omega)) (As := [.ref (bF 0), .int (xs ((x4 + (1 : Int32))).toNatClampNeg), .int (xs ((x4 + (2 : Int32))).toNatClampNeg), .ref (bO 1)]) (rest := []) rfl rfl hl.1 (Nat.le_of_ble_eq_true rfl) dL_law_520 (k1 := cells + 1) (n1 := slots + 6) rfl rfl hcr (fun H locs hP hD hS => ?_)
                refine lv_istore (lv' := [(5, .int r135), (0, .ref b), (1, .ref (bF 0)), (2, .ref (bM 0)), (3, .ref (bO 1)), (4, .int x4)]) hx hb dL_law_523 hl (by decide) rfl (fun ls hl => ?_)
                refine lv_aload_n hx hb dL_law_525 rfl (lv_at hl 3 rfl) ?_
                refine lv_aload_n hx hb dL_law_526 rfl (lv_at hl 1 rfl) ?_
                refine lv_iload hx hb dL_law_527 (lv_at hl 5 rfl) ?_
                refine lv_iconst (v := (1 : Int32)) hx hb dL_law_529 (by decide) ?_
                refine lv_iadd hx hb dL_law_530 ?_
                obtain ⟨h142, hf⟩ := gd_in hf
                refine va_sld hx hb hX hbl hbA hS h142 dL_law_531 ?_
                refine lv_aload_n hx hb dL_law_532 rfl (lv_at hl 1 rfl) ?_
                refine lv_iload hx hb dL_law_533 (lv_at hl 5 rfl) ?_
                refine lv_iconst (v := (2 : Int32)) hx hb dL_law_535 (by decide) ?_
                refine lv_iadd hx hb dL_law_536 ?_
                obtain ⟨h143, hf⟩ := gd_in hf
                refine va_sld hx hb hX hbl hbA hS h143 dL_law_537 ?_
                obtain ⟨r144, vM_145, hg146, hf⟩ := o2_at hf
                refine k_viQ ⟨hx, hb, hml, hown, htu⟩ hK hP hD hS hA hG (c_X8_value l g bM vM (xs ((x4 + (1 : Int32))).toNatClampNeg) (xs ((x4 + (2 : Int32))).toNatClampNeg) r144 vM_145 hg146) (cwV 2 htu (gU_V mw_6_138 hcX8_value) rfl rfl rfl hdX8_value ⟨Nat.le_of_ble_eq_true rfl, Nat.le_of_ble_eq_true rfl⟩) (q0 := 0) (ci := 8) (fs := fcM bM vM) (q := (RX8, TX8, 23)) rfl rfl rfl (wr := (cO g bO vO_136 ++ (cF g bF (bD 0) (bS 0) (bH 0 0) (bRF 0) (bRT 0) vF_137 ++ (cS g bS (bC 0) (bT 0) ++ (cC g bC vC ++ (cT g bT vT ++ (cR g bRT nRT (bG 0) (bB 0) vRT_138 ++ (cL g bG vG_139 ++ (cL g bB vB_140 ++ (cR g bRF nRF (bGF 0) (bBF 0) vRF ++ (cL g bGF vGF ++ (cL g bBF vBF ++ (cD g bD (bS2 0) vD ++ (cS g bS2 (bE 0) (bU 0) ++ (cC g bE vE ++ (cT g bU vU ++ (cH g bH vH))))))))))))))))) (w2 := cM g bM vM_145 ++ (cO g bO vO_136 ++ (cF g bF (bD 0) (bS 0) (bH 0 0) (bRF 0) (bRT 0) vF_137 ++ (cS g bS (bC 0) (bT 0) ++ (cC g bC vC ++ (cT g bT vT ++ (cR g bRT nRT (bG 0) (bB 0) vRT_138 ++ (cL g bG vG_139 ++ (cL g bB vB_140 ++ (cR g bRF nRF (bGF 0) (bBF 0) vRF ++ (cL g bGF vGF ++ (cL g bBF vBF ++ (cD g bD (bS2 0) vD ++ (cS g bS2 (bE 0) (bU 0) ++ (cC g bE vE ++ (cT g bU vU ++ (cH g bH vH))))))))))))))))) (kpc (fun P => by simp only [List.countP_append] <;> omega)) (kpc (fun P => by simp only [List.countP_append] <;> omega)) (As := [.int (xs ((x4 + (1 : Int32))).toNatClampNeg), .int (xs ((x4 + (2 : Int32))).toNatClampNeg)]) (rest := []) rfl rfl hl.1 (Nat.le_of_ble_eq_true rfl) dL_law_538 (k1 := cells + 1) (n1 := slots + 6) rfl rfl hcr (fun H locs hP hD hS => ?_)
                refine lv_istore (lv' := [(6, .int r144), (5, .int r135), (0, .ref b), (1, .ref (bF 0)), (2, .ref (bM 0)), (3, .ref (bO 1)), (4, .int x4)]) hx hb dL_law_541 hl (by decide) rfl (fun ls hl => ?_)
                refine lv_aload_n hx hb dL_law_543 rfl (lv_at hl 4 rfl) ?_
                obtain ⟨r147, hg148, hf⟩ := o1_at hf
                refine k_viQ ⟨hx, hb, hml, hown, htu⟩ hK hP hD hS hA hG (c_X8_thrown l g bM vM_145 r147 hg148) (cwV 0 htu (gU_V mw_5_143 hcX8_thrown) rfl rfl rfl hdX8_thrown ⟨Nat.le_of_ble_eq_true rfl, Nat.le_of_ble_eq_true rfl⟩) (q0 := 0) (ci := 8) (fs := fcM bM vM_145) (q := (RX8, TX8, 23)) rfl rfl rfl (wr := (cO g bO vO_136 ++ (cF g bF (bD 0) (bS 0) (bH 0 0) (bRF 0) (bRT 0) vF_137 ++ (cS g bS (bC 0) (bT 0) ++ (cC g bC vC ++ (cT g bT vT ++ (cR g bRT nRT (bG 0) (bB 0) vRT_138 ++ (cL g bG vG_139 ++ (cL g bB vB_140 ++ (cR g bRF nRF (bGF 0) (bBF 0) vRF ++ (cL g bGF vGF ++ (cL g bBF vBF ++ (cD g bD (bS2 0) vD ++ (cS g bS2 (bE 0) (bU 0) ++ (cC g bE vE ++ (cT g bU vU ++ (cH g bH vH))))))))))))))))) (w2 := cM g bM vM_145 ++ (cO g bO vO_136 ++ (cF g bF (bD 0) (bS 0) (bH 0 0) (bRF 0) (bRT 0) vF_137 ++ (cS g bS (bC 0) (bT 0) ++ (cC g bC vC ++ (cT g bT vT ++ (cR g bRT nRT (bG 0) (bB 0) vRT_138 ++ (cL g bG vG_139 ++ (cL g bB vB_140 ++ (cR g bRF nRF (bGF 0) (bBF 0) vRF ++ (cL g bGF vGF ++ (cL g bBF vBF ++ (cD g bD (bS2 0) vD ++ (cS g bS2 (bE 0) (bU 0) ++ (cC g bE vE ++ (cT g bU vU ++ (cH g bH vH))))))))))))))))) (kpc (fun P => by simp only [List.countP_append] <;> omega)) (kpc (fun P => by simp only [List.countP_append] <;> omega)) (As := []) (rest := []) rfl rfl hl.1 (Nat.le_of_ble_eq_true rfl) dL_law_544 (k1 := cells + 1) (n1 := slots + 6) rfl rfl hcr (fun H locs hP hD hS => ?_)
                refine lv_iload hx hb dL_law_547 (lv_at hl 1 rfl) ?_
                refine lv_icmp_eq (tgt := 554) hx hb dL_law_549 (by decide) (fun c149 => ?_) (fun c149 => ?_)
                · have hf := it_t hf c149
                  refine lv_iload hx hb dL_law_554 (lv_at hl 1 rfl) ?_
                  obtain ⟨k150, hk152, hf⟩ := jn_at hf
                  have hJ151 : k150 = some () → ∀ (H : Heap) (locs : List Loc), va_P g.1 vwCl (cM g bM vM_145 ++ (cO g bO vO_136 ++ (cF g bF (bD 0) (bS 0) (bH 0 0) (bRF 0) (bRT 0) vF_137 ++ (cS g bS (bC 0) (bT 0) ++ (cC g bC vC ++ (cT g bT vT ++ (cR g bRT nRT (bG 0) (bB 0) vRT_138 ++ (cL g bG vG_139 ++ (cL g bB vB_140 ++ (cR g bRF nRF (bGF 0) (bBF 0) vRF ++ (cL g bGF vGF ++ (cL g bBF vBF ++ (cD g bD (bS2 0) vD ++ (cS g bS2 (bE 0) (bU 0) ++ (cC g bE vE ++ (cT g bU vU ++ (cH g bH vH))))))))))))))))) H → va_D A (cM g bM vM_145 ++ (cO g bO vO_136 ++ (cF g bF (bD 0) (bS 0) (bH 0 0) (bRF 0) (bRT 0) vF_137 ++ (cS g bS (bC 0) (bT 0) ++ (cC g bC vC ++ (cT g bT vT ++ (cR g bRT nRT (bG 0) (bB 0) vRT_138 ++ (cL g bG vG_139 ++ (cL g bB vB_140 ++ (cR g bRF nRF (bGF 0) (bBF 0) vRF ++ (cL g bGF vGF ++ (cL g bBF vBF ++ (cD g bD (bS2 0) vD ++ (cS g bS2 (bE 0) (bU 0) ++ (cC g bE vE ++ (cT g bU vU ++ (cH g bH vH))))))))))))))))) → va_S A s.heap H locs → ∀ ls : Array Slot, lv_has ls 9 [(0, .ref b), (1, .ref (bF 0)), (2, .ref (bM 0)), (3, .ref (bO 1)), (4, .int x4)] → W p l e room_1 s m args below meth c H locs (cells + 1) (slots + 6) Q (F0 m 571 ls []) := by
                    intro hf H locs hP hD hS ls hl
                    rw [hk152] at hf
                    clear hk152
                    refine lv_goto (tgt := 1532) hx hb dL_law_571 (by decide) ?_
                    refine W.widen (k := cells + 1) (n := slots + 6) (by omega) (by omega) ?_
                    exact hJ18 vM_145 vO_136 vF_137 vC vT vRT_138 vG_139 vB_140 vRF vGF vBF vD vE vU vH hf H locs hP hD hS _ (lv_sub hl [0, 1, 2, 3, 4] rfl)
                  refine lv_if_ne (tgt := 571) hx hb dL_law_556 (by decide) (fun c153 => ?_) (fun c153 => ?_)
                  · have hf := it_f hf c153
                    refine W.widen (k := cells + 1) (n := slots + 6) (by omega) (by omega) ?_
                    exact hJ151 hf H locs hP hD hS _ (lv_sub hl [2, 3, 4, 5, 6] rfl)
                  · have hf := it_t hf c153
                    refine lv_aload_n hx hb dL_law_559 rfl (lv_at hl 5 rfl) ?_
                    refine lv_iconst (v := (0 : Int32)) hx hb dL_law_560 (by decide) ?_
                    obtain ⟨h154, hf⟩ := gd_in hf
                    refine va_lald (D := g.1) (f := (vO_136.2.2 0)) hx hb hK hP 14 1 rfl rfl h154 dL_law_561 ?_
                    refine lv_iload hx hb dL_law_562 (lv_at hl 0 rfl) ?_
                    refine lv_i2l (v := (r144).toInt64) hx hb dL_law_564 rfl ?_
                    refine W.lcmp hx hb dL_law_565 ?_
                    refine lv_if_eq (tgt := 571) hx hb dL_law_566 (by decide) (fun c155 => ?_) (fun c155 => ?_)
                    · have hf := it_t hf c155
                      refine W.widen (k := cells + 1) (n := slots + 6) (by omega) (by omega) ?_
                      exact hJ151 hf H locs hP hD hS _ (lv_sub hl [2, 3, 4, 5, 6] rfl)
                    · have hf := it_f hf c155
                      refine lv_iconst (v := (0 : Int32)) hx hb dL_law_569 (by decide) ?_
                      cases hf
                · have hf := it_f hf c149
                  refine lv_iconst (v := (0 : Int32)) hx hb dL_law_552 (by decide) ?_
                  cases hf
              · have hf := it_f hf c132
                by_cases c156 : ((xs (x4).toNatClampNeg) &&& (31 : Int32)) = (7 : Int32)
                · have hf := it_t hf c156
                  refine lv_tableIn (off := 534) (tgt := 574) hx hb dL_law_40 (by rw [c156]; decide) (by rw [c156]; decide) (by rw [c156]; rfl) (by decide) ?_
                  refine lv_aload_n hx hb dL_law_574 rfl (lv_at hl 1 rfl) ?_
                  refine lv_aload_n hx hb dL_law_575 rfl (lv_at hl 0 rfl) ?_
                  refine lv_iload hx hb dL_law_576 (lv_at hl 4 rfl) ?_
                  refine lv_iconst (v := (1 : Int32)) hx hb dL_law_578 (by decide) ?_
                  refine lv_iadd hx hb dL_law_579 ?_
                  obtain ⟨h157, hf⟩ := gd_in hf
                  refine va_sld hx hb hX hbl hbA hS h157 dL_law_580 ?_
                  refine lv_aload_n hx hb dL_law_581 rfl (lv_at hl 0 rfl) ?_
                  refine lv_iload hx hb dL_law_582 (lv_at hl 4 rfl) ?_
                  refine lv_iconst (v := (2 : Int32)) hx hb dL_law_584 (by decide) ?_
                  refine lv_iadd hx hb dL_law_585 ?_
                  obtain ⟨h158, hf⟩ := gd_in hf
                  refine va_sld hx hb hX hbl hbA hS h158 dL_law_586 ?_
                  refine lv_aload_n hx hb dL_law_587 rfl (lv_at hl 0 rfl) ?_
                  refine lv_iload hx hb dL_law_588 (lv_at hl 4 rfl) ?_
                  refine lv_iconst (v := (3 : Int32)) hx hb dL_law_590 (by decide) ?_
                  refine lv_iadd hx hb dL_law_591 ?_
                  obtain ⟨h159, hf⟩ := gd_in hf
                  refine va_sld hx hb hX hbl hbA hS h159 dL_law_592 ?_
                  refine lv_aload_n hx hb dL_law_593 rfl (lv_at hl 3 rfl) ?_
                  obtain ⟨r160, vO_161, vF_162, vRT_163, vG_164, vB_165, hg166, hf⟩ := o6_at hf
                  refine k_siHQ ⟨hx, hb, hml, hown, htu⟩ hK hP hD hS hA hG (h_L_faulty l hst g bO vO bF (bD 0) (bH 0 0) (bRF 0) vF bS bC vC bT vT bRT nRT vRT bG vG bB vB (xs ((x4 + (1 : Int32))).toNatClampNeg) (xs ((x4 + (2 : Int32))).toNatClampNeg) (xs ((x4 + (3 : Int32))).toNatClampNeg) r160 vO_161 vF_162 vRT_163 vG_164 vB_165 hg166) (vx_cwSW 5 htu (gU_H mw_4_162 hcL_faulty) rfl rfl rfl hdL_faulty ⟨Nat.le_of_ble_eq_true rfl, Nat.le_of_ble_eq_true rfl⟩) (wr := (cM g bM vM ++ (cR g bRF nRF (bGF 0) (bBF 0) vRF ++ (cL g bGF vGF ++ (cL g bBF vBF ++ (cD g bD (bS2 0) vD ++ (cS g bS2 (bE 0) (bU 0) ++ (cC g bE vE ++ (cT g bU vU ++ (cH g bH vH)))))))))) (w2 := cM g bM vM ++ (cO g bO vO_161 ++ (cF g bF (bD 0) (bS 0) (bH 0 0) (bRF 0) (bRT 0) vF_162 ++ (cS g bS (bC 0) (bT 0) ++ (cC g bC vC ++ (cT g bT vT ++ (cR g bRT nRT (bG 0) (bB 0) vRT_163 ++ (cL g bG vG_164 ++ (cL g bB vB_165 ++ (cR g bRF nRF (bGF 0) (bBF 0) vRF ++ (cL g bGF vGF ++ (cL g bBF vBF ++ (cD g bD (bS2 0) vD ++ (cS g bS2 (bE 0) (bU 0) ++ (cC g bE vE ++ (cT g bU vU ++ (cH g bH vH))))))))))))))))) (kpc (fun P => by simp only [List.countP_append] <;> omega)) (kpc (fun P => by simp only [List.countP_append] <;> omega)) (As := [.ref (bF 0), .int (xs ((x4 + (1 : Int32))).toNatClampNeg), .int (xs ((x4 + (2 : Int32))).toNatClampNeg), .int (xs ((x4 + (3 : Int32))).toNatClampNeg), .ref (bO 1)]) (rest := []) rfl rfl hl.1 (Nat.le_of_ble_eq_true rfl) dL_law_594 (k1 := cells + 1) (n1 := slots + 6) rfl rfl hcr (fun H locs hP hD hS => ?_)
                  refine lv_istore (lv' := [(5, .int r160), (0, .ref b), (1, .ref (bF 0)), (2, .ref (bM 0)), (3, .ref (bO 1)), (4, .int x4)]) hx hb dL_law_597 hl (by decide) rfl (fun ls hl => ?_)
                  refine lv_aload_n hx hb dL_law_599 rfl (lv_at hl 3 rfl) ?_
                  refine lv_aload_n hx hb dL_law_600 rfl (lv_at hl 1 rfl) ?_
                  refine lv_iload hx hb dL_law_601 (lv_at hl 5 rfl) ?_
                  refine lv_iconst (v := (1 : Int32)) hx hb dL_law_603 (by decide) ?_
                  refine lv_iadd hx hb dL_law_604 ?_
                  obtain ⟨h167, hf⟩ := gd_in hf
                  refine va_sld hx hb hX hbl hbA hS h167 dL_law_605 ?_
                  refine lv_aload_n hx hb dL_law_606 rfl (lv_at hl 1 rfl) ?_
                  refine lv_iload hx hb dL_law_607 (lv_at hl 5 rfl) ?_
                  refine lv_iconst (v := (2 : Int32)) hx hb dL_law_609 (by decide) ?_
                  refine lv_iadd hx hb dL_law_610 ?_
                  obtain ⟨h168, hf⟩ := gd_in hf
                  refine va_sld hx hb hX hbl hbA hS h168 dL_law_611 ?_
                  refine lv_aload_n hx hb dL_law_612 rfl (lv_at hl 1 rfl) ?_
                  refine lv_iload hx hb dL_law_613 (lv_at hl 5 rfl) ?_
                  refine lv_iconst (v := (3 : Int32)) hx hb dL_law_615 (by decide) ?_
                  refine lv_iadd hx hb dL_law_616 ?_
                  obtain ⟨h169, hf⟩ := gd_in hf
                  refine va_sld hx hb hX hbl hbA hS h169 dL_law_617 ?_
                  obtain ⟨r170, vM_171, hg172, hf⟩ := o2_at hf
                  refine k_viQ ⟨hx, hb, hml, hown, htu⟩ hK hP hD hS hA hG (c_X8_faulty l g bM vM (xs ((x4 + (1 : Int32))).toNatClampNeg) (xs ((x4 + (2 : Int32))).toNatClampNeg) (xs ((x4 + (3 : Int32))).toNatClampNeg) r170 vM_171 hg172) (cwV 3 htu (gU_V mw_6_146 hcX8_faulty) rfl rfl rfl hdX8_faulty ⟨Nat.le_of_ble_eq_true rfl, Nat.le_of_ble_eq_true rfl⟩) (q0 := 0) (ci := 8) (fs := fcM bM vM) (q := (RX8, TX8, 23)) rfl rfl rfl (wr := (cO g bO vO_161 ++ (cF g bF (bD 0) (bS 0) (bH 0 0) (bRF 0) (bRT 0) vF_162 ++ (cS g bS (bC 0) (bT 0) ++ (cC g bC vC ++ (cT g bT vT ++ (cR g bRT nRT (bG 0) (bB 0) vRT_163 ++ (cL g bG vG_164 ++ (cL g bB vB_165 ++ (cR g bRF nRF (bGF 0) (bBF 0) vRF ++ (cL g bGF vGF ++ (cL g bBF vBF ++ (cD g bD (bS2 0) vD ++ (cS g bS2 (bE 0) (bU 0) ++ (cC g bE vE ++ (cT g bU vU ++ (cH g bH vH))))))))))))))))) (w2 := cM g bM vM_171 ++ (cO g bO vO_161 ++ (cF g bF (bD 0) (bS 0) (bH 0 0) (bRF 0) (bRT 0) vF_162 ++ (cS g bS (bC 0) (bT 0) ++ (cC g bC vC ++ (cT g bT vT ++ (cR g bRT nRT (bG 0) (bB 0) vRT_163 ++ (cL g bG vG_164 ++ (cL g bB vB_165 ++ (cR g bRF nRF (bGF 0) (bBF 0) vRF ++ (cL g bGF vGF ++ (cL g bBF vBF ++ (cD g bD (bS2 0) vD ++ (cS g bS2 (bE 0) (bU 0) ++ (cC g bE vE ++ (cT g bU vU ++ (cH g bH vH))))))))))))))))) (kpc (fun P => by simp only [List.countP_append] <;> omega)) (kpc (fun P => by simp only [List.countP_append] <;> omega)) (As := [.int (xs ((x4 + (1 : Int32))).toNatClampNeg), .int (xs ((x4 + (2 : Int32))).toNatClampNeg), .int (xs ((x4 + (3 : Int32))).toNatClampNeg)]) (rest := []) rfl rfl hl.1 (Nat.le_of_ble_eq_true rfl) dL_law_618 (k1 := cells + 1) (n1 := slots + 6) rfl rfl hcr (fun H locs hP hD hS => ?_)
                  refine lv_istore (lv' := [(6, .int r170), (5, .int r160), (0, .ref b), (1, .ref (bF 0)), (2, .ref (bM 0)), (3, .ref (bO 1)), (4, .int x4)]) hx hb dL_law_621 hl (by decide) rfl (fun ls hl => ?_)
                  refine lv_aload_n hx hb dL_law_623 rfl (lv_at hl 4 rfl) ?_
                  obtain ⟨r173, hg174, hf⟩ := o1_at hf
                  refine k_viQ ⟨hx, hb, hml, hown, htu⟩ hK hP hD hS hA hG (c_X8_thrown l g bM vM_171 r173 hg174) (cwV 0 htu (gU_V mw_5_143 hcX8_thrown) rfl rfl rfl hdX8_thrown ⟨Nat.le_of_ble_eq_true rfl, Nat.le_of_ble_eq_true rfl⟩) (q0 := 0) (ci := 8) (fs := fcM bM vM_171) (q := (RX8, TX8, 23)) rfl rfl rfl (wr := (cO g bO vO_161 ++ (cF g bF (bD 0) (bS 0) (bH 0 0) (bRF 0) (bRT 0) vF_162 ++ (cS g bS (bC 0) (bT 0) ++ (cC g bC vC ++ (cT g bT vT ++ (cR g bRT nRT (bG 0) (bB 0) vRT_163 ++ (cL g bG vG_164 ++ (cL g bB vB_165 ++ (cR g bRF nRF (bGF 0) (bBF 0) vRF ++ (cL g bGF vGF ++ (cL g bBF vBF ++ (cD g bD (bS2 0) vD ++ (cS g bS2 (bE 0) (bU 0) ++ (cC g bE vE ++ (cT g bU vU ++ (cH g bH vH))))))))))))))))) (w2 := cM g bM vM_171 ++ (cO g bO vO_161 ++ (cF g bF (bD 0) (bS 0) (bH 0 0) (bRF 0) (bRT 0) vF_162 ++ (cS g bS (bC 0) (bT 0) ++ (cC g bC vC ++ (cT g bT vT ++ (cR g bRT nRT (bG 0) (bB 0) vRT_163 ++ (cL g bG vG_164 ++ (cL g bB vB_165 ++ (cR g bRF nRF (bGF 0) (bBF 0) vRF ++ (cL g bGF vGF ++ (cL g bBF vBF ++ (cD g bD (bS2 0) vD ++ (cS g bS2 (bE 0) (bU 0) ++ (cC g bE vE ++ (cT g bU vU ++ (cH g bH vH))))))))))))))))) (kpc (fun P => by simp only [List.countP_append] <;> omega)) (kpc (fun P => by simp only [List.countP_append] <;> omega)) (As := []) (rest := []) rfl rfl hl.1 (Nat.le_of_ble_eq_true rfl) dL_law_624 (k1 := cells + 1) (n1 := slots + 6) rfl rfl hcr (fun H locs hP hD hS => ?_)
                  refine lv_iload hx hb dL_law_627 (lv_at hl 1 rfl) ?_
                  refine lv_icmp_eq (tgt := 634) hx hb dL_law_629 (by decide) (fun c175 => ?_) (fun c175 => ?_)
                  · have hf := it_t hf c175
                    refine lv_iload hx hb dL_law_634 (lv_at hl 1 rfl) ?_
                    obtain ⟨k176, hk178, hf⟩ := jn_at hf
                    have hJ177 : k176 = some () → ∀ (H : Heap) (locs : List Loc), va_P g.1 vwCl (cM g bM vM_171 ++ (cO g bO vO_161 ++ (cF g bF (bD 0) (bS 0) (bH 0 0) (bRF 0) (bRT 0) vF_162 ++ (cS g bS (bC 0) (bT 0) ++ (cC g bC vC ++ (cT g bT vT ++ (cR g bRT nRT (bG 0) (bB 0) vRT_163 ++ (cL g bG vG_164 ++ (cL g bB vB_165 ++ (cR g bRF nRF (bGF 0) (bBF 0) vRF ++ (cL g bGF vGF ++ (cL g bBF vBF ++ (cD g bD (bS2 0) vD ++ (cS g bS2 (bE 0) (bU 0) ++ (cC g bE vE ++ (cT g bU vU ++ (cH g bH vH))))))))))))))))) H → va_D A (cM g bM vM_171 ++ (cO g bO vO_161 ++ (cF g bF (bD 0) (bS 0) (bH 0 0) (bRF 0) (bRT 0) vF_162 ++ (cS g bS (bC 0) (bT 0) ++ (cC g bC vC ++ (cT g bT vT ++ (cR g bRT nRT (bG 0) (bB 0) vRT_163 ++ (cL g bG vG_164 ++ (cL g bB vB_165 ++ (cR g bRF nRF (bGF 0) (bBF 0) vRF ++ (cL g bGF vGF ++ (cL g bBF vBF ++ (cD g bD (bS2 0) vD ++ (cS g bS2 (bE 0) (bU 0) ++ (cC g bE vE ++ (cT g bU vU ++ (cH g bH vH))))))))))))))))) → va_S A s.heap H locs → ∀ ls : Array Slot, lv_has ls 9 [(0, .ref b), (1, .ref (bF 0)), (2, .ref (bM 0)), (3, .ref (bO 1)), (4, .int x4)] → W p l e room_1 s m args below meth c H locs (cells + 1) (slots + 6) Q (F0 m 651 ls []) := by
                      intro hf H locs hP hD hS ls hl
                      rw [hk178] at hf
                      clear hk178
                      refine lv_goto (tgt := 1532) hx hb dL_law_651 (by decide) ?_
                      refine W.widen (k := cells + 1) (n := slots + 6) (by omega) (by omega) ?_
                      exact hJ18 vM_171 vO_161 vF_162 vC vT vRT_163 vG_164 vB_165 vRF vGF vBF vD vE vU vH hf H locs hP hD hS _ (lv_sub hl [0, 1, 2, 3, 4] rfl)
                    refine lv_if_ne (tgt := 651) hx hb dL_law_636 (by decide) (fun c179 => ?_) (fun c179 => ?_)
                    · have hf := it_f hf c179
                      refine W.widen (k := cells + 1) (n := slots + 6) (by omega) (by omega) ?_
                      exact hJ177 hf H locs hP hD hS _ (lv_sub hl [2, 3, 4, 5, 6] rfl)
                    · have hf := it_t hf c179
                      refine lv_aload_n hx hb dL_law_639 rfl (lv_at hl 5 rfl) ?_
                      refine lv_iconst (v := (0 : Int32)) hx hb dL_law_640 (by decide) ?_
                      obtain ⟨h180, hf⟩ := gd_in hf
                      refine va_lald (D := g.1) (f := (vO_161.2.2 0)) hx hb hK hP 14 1 rfl rfl h180 dL_law_641 ?_
                      refine lv_iload hx hb dL_law_642 (lv_at hl 0 rfl) ?_
                      refine lv_i2l (v := (r170).toInt64) hx hb dL_law_644 rfl ?_
                      refine W.lcmp hx hb dL_law_645 ?_
                      refine lv_if_eq (tgt := 651) hx hb dL_law_646 (by decide) (fun c181 => ?_) (fun c181 => ?_)
                      · have hf := it_t hf c181
                        refine W.widen (k := cells + 1) (n := slots + 6) (by omega) (by omega) ?_
                        exact hJ177 hf H locs hP hD hS _ (lv_sub hl [2, 3, 4, 5, 6] rfl)
                      · have hf := it_f hf c181
                        refine lv_iconst (v := (0 : Int32)) hx hb dL_law_649 (by decide) ?_
                        cases hf
                  · have hf := it_f hf c175
                    refine lv_iconst (v := (0 : Int32)) hx hb dL_law_632 (by decide) ?_
                    cases hf
                · have hf := it_f hf c156
                  by_cases c182 : ((xs (x4).toNatClampNeg) &&& (31 : Int32)) = (8 : Int32)
                  · have hf := it_t hf c182
                    refine lv_tableIn (off := 614) (tgt := 654) hx hb dL_law_40 (by rw [c182]; decide) (by rw [c182]; decide) (by rw [c182]; rfl) (by decide) ?_
                    refine lv_aload_n hx hb dL_law_654 rfl (lv_at hl 1 rfl) ?_
                    refine lv_aload_n hx hb dL_law_655 rfl (lv_at hl 0 rfl) ?_
                    refine lv_iload hx hb dL_law_656 (lv_at hl 4 rfl) ?_
                    refine lv_iconst (v := (1 : Int32)) hx hb dL_law_658 (by decide) ?_
                    refine lv_iadd hx hb dL_law_659 ?_
                    obtain ⟨h183, hf⟩ := gd_in hf
                    refine va_sld hx hb hX hbl hbA hS h183 dL_law_660 ?_
                    refine lv_aload_n hx hb dL_law_661 rfl (lv_at hl 0 rfl) ?_
                    refine lv_iload hx hb dL_law_662 (lv_at hl 4 rfl) ?_
                    refine lv_iconst (v := (2 : Int32)) hx hb dL_law_664 (by decide) ?_
                    refine lv_iadd hx hb dL_law_665 ?_
                    obtain ⟨h184, hf⟩ := gd_in hf
                    refine va_sld hx hb hX hbl hbA hS h184 dL_law_666 ?_
                    refine lv_aload_n hx hb dL_law_667 rfl (lv_at hl 3 rfl) ?_
                    obtain ⟨r185, vO_186, vF_187, vRT_188, vG_189, vB_190, hg191, hf⟩ := o6_at hf
                    refine k_siHQ ⟨hx, hb, hml, hown, htu⟩ hK hP hD hS hA hG (h_L_finds l hst g bO vO bF (bD 0) (bH 0 0) (bRF 0) vF bS bC vC bT vT bRT nRT vRT bG vG bB vB (xs ((x4 + (1 : Int32))).toNatClampNeg) (xs ((x4 + (2 : Int32))).toNatClampNeg) r185 vO_186 vF_187 vRT_188 vG_189 vB_190 hg191) (vx_cwSW 4 htu (gU_H mw_4_175 hcL_finds) rfl rfl rfl hdL_finds ⟨Nat.le_of_ble_eq_true rfl, Nat.le_of_ble_eq_true rfl⟩) (wr := (cM g bM vM ++ (cR g bRF nRF (bGF 0) (bBF 0) vRF ++ (cL g bGF vGF ++ (cL g bBF vBF ++ (cD g bD (bS2 0) vD ++ (cS g bS2 (bE 0) (bU 0) ++ (cC g bE vE ++ (cT g bU vU ++ (cH g bH vH)))))))))) (w2 := cM g bM vM ++ (cO g bO vO_186 ++ (cF g bF (bD 0) (bS 0) (bH 0 0) (bRF 0) (bRT 0) vF_187 ++ (cS g bS (bC 0) (bT 0) ++ (cC g bC vC ++ (cT g bT vT ++ (cR g bRT nRT (bG 0) (bB 0) vRT_188 ++ (cL g bG vG_189 ++ (cL g bB vB_190 ++ (cR g bRF nRF (bGF 0) (bBF 0) vRF ++ (cL g bGF vGF ++ (cL g bBF vBF ++ (cD g bD (bS2 0) vD ++ (cS g bS2 (bE 0) (bU 0) ++ (cC g bE vE ++ (cT g bU vU ++ (cH g bH vH))))))))))))))))) (kpc (fun P => by simp only [List.countP_append] <;> omega)) (kpc (fun P => by simp only [List.countP_append] <;> omega)) (As := [.ref (bF 0), .int (xs ((x4 + (1 : Int32))).toNatClampNeg), .int (xs ((x4 + (2 : Int32))).toNatClampNeg), .ref (bO 1)]) (rest := []) rfl rfl hl.1 (Nat.le_of_ble_eq_true rfl) dL_law_668 (k1 := cells + 1) (n1 := slots + 6) rfl rfl hcr (fun H locs hP hD hS => ?_)
                    refine lv_istore (lv' := [(5, .int r185), (0, .ref b), (1, .ref (bF 0)), (2, .ref (bM 0)), (3, .ref (bO 1)), (4, .int x4)]) hx hb dL_law_671 hl (by decide) rfl (fun ls hl => ?_)
                    refine lv_aload_n hx hb dL_law_673 rfl (lv_at hl 3 rfl) ?_
                    refine lv_aload_n hx hb dL_law_674 rfl (lv_at hl 1 rfl) ?_
                    refine lv_iload hx hb dL_law_675 (lv_at hl 5 rfl) ?_
                    refine lv_iconst (v := (1 : Int32)) hx hb dL_law_677 (by decide) ?_
                    refine lv_iadd hx hb dL_law_678 ?_
                    obtain ⟨h192, hf⟩ := gd_in hf
                    refine va_sld hx hb hX hbl hbA hS h192 dL_law_679 ?_
                    refine lv_aload_n hx hb dL_law_680 rfl (lv_at hl 1 rfl) ?_
                    refine lv_iload hx hb dL_law_681 (lv_at hl 5 rfl) ?_
                    refine lv_iconst (v := (2 : Int32)) hx hb dL_law_683 (by decide) ?_
                    refine lv_iadd hx hb dL_law_684 ?_
                    obtain ⟨h193, hf⟩ := gd_in hf
                    refine va_sld hx hb hX hbl hbA hS h193 dL_law_685 ?_
                    obtain ⟨r194, vM_195, hg196, hf⟩ := o2_at hf
                    refine k_viQ ⟨hx, hb, hml, hown, htu⟩ hK hP hD hS hA hG (c_X8_finds l g bM vM (xs ((x4 + (1 : Int32))).toNatClampNeg) (xs ((x4 + (2 : Int32))).toNatClampNeg) r194 vM_195 hg196) (cwV 2 htu (gU_V mw_6_154 hcX8_finds) rfl rfl rfl hdX8_finds ⟨Nat.le_of_ble_eq_true rfl, Nat.le_of_ble_eq_true rfl⟩) (q0 := 0) (ci := 8) (fs := fcM bM vM) (q := (RX8, TX8, 23)) rfl rfl rfl (wr := (cO g bO vO_186 ++ (cF g bF (bD 0) (bS 0) (bH 0 0) (bRF 0) (bRT 0) vF_187 ++ (cS g bS (bC 0) (bT 0) ++ (cC g bC vC ++ (cT g bT vT ++ (cR g bRT nRT (bG 0) (bB 0) vRT_188 ++ (cL g bG vG_189 ++ (cL g bB vB_190 ++ (cR g bRF nRF (bGF 0) (bBF 0) vRF ++ (cL g bGF vGF ++ (cL g bBF vBF ++ (cD g bD (bS2 0) vD ++ (cS g bS2 (bE 0) (bU 0) ++ (cC g bE vE ++ (cT g bU vU ++ (cH g bH vH))))))))))))))))) (w2 := cM g bM vM_195 ++ (cO g bO vO_186 ++ (cF g bF (bD 0) (bS 0) (bH 0 0) (bRF 0) (bRT 0) vF_187 ++ (cS g bS (bC 0) (bT 0) ++ (cC g bC vC ++ (cT g bT vT ++ (cR g bRT nRT (bG 0) (bB 0) vRT_188 ++ (cL g bG vG_189 ++ (cL g bB vB_190 ++ (cR g bRF nRF (bGF 0) (bBF 0) vRF ++ (cL g bGF vGF ++ (cL g bBF vBF ++ (cD g bD (bS2 0) vD ++ (cS g bS2 (bE 0) (bU 0) ++ (cC g bE vE ++ (cT g bU vU ++ (cH g bH vH))))))))))))))))) (kpc (fun P => by simp only [List.countP_append] <;> omega)) (kpc (fun P => by simp only [List.countP_append] <;> omega)) (As := [.int (xs ((x4 + (1 : Int32))).toNatClampNeg), .int (xs ((x4 + (2 : Int32))).toNatClampNeg)]) (rest := []) rfl rfl hl.1 (Nat.le_of_ble_eq_true rfl) dL_law_686 (k1 := cells + 1) (n1 := slots + 6) rfl rfl hcr (fun H locs hP hD hS => ?_)
                    refine lv_istore (lv' := [(6, .int r194), (5, .int r185), (0, .ref b), (1, .ref (bF 0)), (2, .ref (bM 0)), (3, .ref (bO 1)), (4, .int x4)]) hx hb dL_law_689 hl (by decide) rfl (fun ls hl => ?_)
                    refine lv_aload_n hx hb dL_law_691 rfl (lv_at hl 4 rfl) ?_
                    obtain ⟨r197, hg198, hf⟩ := o1_at hf
                    refine k_viQ ⟨hx, hb, hml, hown, htu⟩ hK hP hD hS hA hG (c_X8_thrown l g bM vM_195 r197 hg198) (cwV 0 htu (gU_V mw_5_143 hcX8_thrown) rfl rfl rfl hdX8_thrown ⟨Nat.le_of_ble_eq_true rfl, Nat.le_of_ble_eq_true rfl⟩) (q0 := 0) (ci := 8) (fs := fcM bM vM_195) (q := (RX8, TX8, 23)) rfl rfl rfl (wr := (cO g bO vO_186 ++ (cF g bF (bD 0) (bS 0) (bH 0 0) (bRF 0) (bRT 0) vF_187 ++ (cS g bS (bC 0) (bT 0) ++ (cC g bC vC ++ (cT g bT vT ++ (cR g bRT nRT (bG 0) (bB 0) vRT_188 ++ (cL g bG vG_189 ++ (cL g bB vB_190 ++ (cR g bRF nRF (bGF 0) (bBF 0) vRF ++ (cL g bGF vGF ++ (cL g bBF vBF ++ (cD g bD (bS2 0) vD ++ (cS g bS2 (bE 0) (bU 0) ++ (cC g bE vE ++ (cT g bU vU ++ (cH g bH vH))))))))))))))))) (w2 := cM g bM vM_195 ++ (cO g bO vO_186 ++ (cF g bF (bD 0) (bS 0) (bH 0 0) (bRF 0) (bRT 0) vF_187 ++ (cS g bS (bC 0) (bT 0) ++ (cC g bC vC ++ (cT g bT vT ++ (cR g bRT nRT (bG 0) (bB 0) vRT_188 ++ (cL g bG vG_189 ++ (cL g bB vB_190 ++ (cR g bRF nRF (bGF 0) (bBF 0) vRF ++ (cL g bGF vGF ++ (cL g bBF vBF ++ (cD g bD (bS2 0) vD ++ (cS g bS2 (bE 0) (bU 0) ++ (cC g bE vE ++ (cT g bU vU ++ (cH g bH vH))))))))))))))))) (kpc (fun P => by simp only [List.countP_append] <;> omega)) (kpc (fun P => by simp only [List.countP_append] <;> omega)) (As := []) (rest := []) rfl rfl hl.1 (Nat.le_of_ble_eq_true rfl) dL_law_692 (k1 := cells + 1) (n1 := slots + 6) rfl rfl hcr (fun H locs hP hD hS => ?_)
                    refine lv_iload hx hb dL_law_695 (lv_at hl 1 rfl) ?_
                    refine lv_icmp_eq (tgt := 702) hx hb dL_law_697 (by decide) (fun c199 => ?_) (fun c199 => ?_)
                    · have hf := it_t hf c199
                      refine lv_iload hx hb dL_law_702 (lv_at hl 1 rfl) ?_
                      obtain ⟨k200, hk202, hf⟩ := jn_at hf
                      have hJ201 : k200 = some () → ∀ (H : Heap) (locs : List Loc), va_P g.1 vwCl (cM g bM vM_195 ++ (cO g bO vO_186 ++ (cF g bF (bD 0) (bS 0) (bH 0 0) (bRF 0) (bRT 0) vF_187 ++ (cS g bS (bC 0) (bT 0) ++ (cC g bC vC ++ (cT g bT vT ++ (cR g bRT nRT (bG 0) (bB 0) vRT_188 ++ (cL g bG vG_189 ++ (cL g bB vB_190 ++ (cR g bRF nRF (bGF 0) (bBF 0) vRF ++ (cL g bGF vGF ++ (cL g bBF vBF ++ (cD g bD (bS2 0) vD ++ (cS g bS2 (bE 0) (bU 0) ++ (cC g bE vE ++ (cT g bU vU ++ (cH g bH vH))))))))))))))))) H → va_D A (cM g bM vM_195 ++ (cO g bO vO_186 ++ (cF g bF (bD 0) (bS 0) (bH 0 0) (bRF 0) (bRT 0) vF_187 ++ (cS g bS (bC 0) (bT 0) ++ (cC g bC vC ++ (cT g bT vT ++ (cR g bRT nRT (bG 0) (bB 0) vRT_188 ++ (cL g bG vG_189 ++ (cL g bB vB_190 ++ (cR g bRF nRF (bGF 0) (bBF 0) vRF ++ (cL g bGF vGF ++ (cL g bBF vBF ++ (cD g bD (bS2 0) vD ++ (cS g bS2 (bE 0) (bU 0) ++ (cC g bE vE ++ (cT g bU vU ++ (cH g bH vH))))))))))))))))) → va_S A s.heap H locs → ∀ ls : Array Slot, lv_has ls 9 [(0, .ref b), (1, .ref (bF 0)), (2, .ref (bM 0)), (3, .ref (bO 1)), (4, .int x4)] → W p l e room_1 s m args below meth c H locs (cells + 1) (slots + 6) Q (F0 m 719 ls []) := by
                        intro hf H locs hP hD hS ls hl
                        rw [hk202] at hf
                        clear hk202
                        refine lv_goto (tgt := 1532) hx hb dL_law_719 (by decide) ?_
                        refine W.widen (k := cells + 1) (n := slots + 6) (by omega) (by omega) ?_
                        exact hJ18 vM_195 vO_186 vF_187 vC vT vRT_188 vG_189 vB_190 vRF vGF vBF vD vE vU vH hf H locs hP hD hS _ (lv_sub hl [0, 1, 2, 3, 4] rfl)
                      refine lv_if_ne (tgt := 719) hx hb dL_law_704 (by decide) (fun c203 => ?_) (fun c203 => ?_)
                      · have hf := it_f hf c203
                        refine W.widen (k := cells + 1) (n := slots + 6) (by omega) (by omega) ?_
                        exact hJ201 hf H locs hP hD hS _ (lv_sub hl [2, 3, 4, 5, 6] rfl)
                      · have hf := it_t hf c203
                        refine lv_aload_n hx hb dL_law_707 rfl (lv_at hl 5 rfl) ?_
                        refine lv_iconst (v := (0 : Int32)) hx hb dL_law_708 (by decide) ?_
                        obtain ⟨h204, hf⟩ := gd_in hf
                        refine va_lald (D := g.1) (f := (vO_186.2.2 0)) hx hb hK hP 14 1 rfl rfl h204 dL_law_709 ?_
                        refine lv_iload hx hb dL_law_710 (lv_at hl 0 rfl) ?_
                        refine lv_i2l (v := (r194).toInt64) hx hb dL_law_712 rfl ?_
                        refine W.lcmp hx hb dL_law_713 ?_
                        refine lv_if_eq (tgt := 719) hx hb dL_law_714 (by decide) (fun c205 => ?_) (fun c205 => ?_)
                        · have hf := it_t hf c205
                          refine W.widen (k := cells + 1) (n := slots + 6) (by omega) (by omega) ?_
                          exact hJ201 hf H locs hP hD hS _ (lv_sub hl [2, 3, 4, 5, 6] rfl)
                        · have hf := it_f hf c205
                          refine lv_iconst (v := (0 : Int32)) hx hb dL_law_717 (by decide) ?_
                          cases hf
                    · have hf := it_f hf c199
                      refine lv_iconst (v := (0 : Int32)) hx hb dL_law_700 (by decide) ?_
                      cases hf
                  · have hf := it_f hf c182
                    by_cases c206 : ((xs (x4).toNatClampNeg) &&& (31 : Int32)) = (9 : Int32)
                    · have hf := it_t hf c206
                      refine lv_tableIn (off := 682) (tgt := 722) hx hb dL_law_40 (by rw [c206]; decide) (by rw [c206]; decide) (by rw [c206]; rfl) (by decide) ?_
                      refine lv_aload_n hx hb dL_law_722 rfl (lv_at hl 1 rfl) ?_
                      refine lv_aload_n hx hb dL_law_723 rfl (lv_at hl 0 rfl) ?_
                      refine lv_iload hx hb dL_law_724 (lv_at hl 4 rfl) ?_
                      refine lv_iconst (v := (1 : Int32)) hx hb dL_law_726 (by decide) ?_
                      refine lv_iadd hx hb dL_law_727 ?_
                      obtain ⟨h207, hf⟩ := gd_in hf
                      refine va_sld hx hb hX hbl hbA hS h207 dL_law_728 ?_
                      refine lv_aload_n hx hb dL_law_729 rfl (lv_at hl 0 rfl) ?_
                      refine lv_iload hx hb dL_law_730 (lv_at hl 4 rfl) ?_
                      refine lv_iconst (v := (2 : Int32)) hx hb dL_law_732 (by decide) ?_
                      refine lv_iadd hx hb dL_law_733 ?_
                      obtain ⟨h208, hf⟩ := gd_in hf
                      refine va_sld hx hb hX hbl hbA hS h208 dL_law_734 ?_
                      refine lv_aload_n hx hb dL_law_735 rfl (lv_at hl 0 rfl) ?_
                      refine lv_iload hx hb dL_law_736 (lv_at hl 4 rfl) ?_
                      refine lv_iconst (v := (3 : Int32)) hx hb dL_law_738 (by decide) ?_
                      refine lv_iadd hx hb dL_law_739 ?_
                      obtain ⟨h209, hf⟩ := gd_in hf
                      refine va_sld hx hb hX hbl hbA hS h209 dL_law_740 ?_
                      refine lv_aload_n hx hb dL_law_741 rfl (lv_at hl 3 rfl) ?_
                      obtain ⟨r210, vO_211, vF_212, vRT_213, vG_214, vB_215, hg216, hf⟩ := o6_at hf
                      refine k_siHQ ⟨hx, hb, hml, hown, htu⟩ hK hP hD hS hA hG (h_L_tellsApart l hst g bO vO bF (bD 0) (bH 0 0) (bRF 0) vF bS bC vC bT vT bRT nRT vRT bG vG bB vB (xs ((x4 + (1 : Int32))).toNatClampNeg) (xs ((x4 + (2 : Int32))).toNatClampNeg) (xs ((x4 + (3 : Int32))).toNatClampNeg) r210 vO_211 vF_212 vRT_213 vG_214 vB_215 hg216) (vx_cwSW 5 htu (gU_H mw_4_188 hcL_tellsApart) rfl rfl rfl hdL_tellsApart ⟨Nat.le_of_ble_eq_true rfl, Nat.le_of_ble_eq_true rfl⟩) (wr := (cM g bM vM ++ (cR g bRF nRF (bGF 0) (bBF 0) vRF ++ (cL g bGF vGF ++ (cL g bBF vBF ++ (cD g bD (bS2 0) vD ++ (cS g bS2 (bE 0) (bU 0) ++ (cC g bE vE ++ (cT g bU vU ++ (cH g bH vH)))))))))) (w2 := cM g bM vM ++ (cO g bO vO_211 ++ (cF g bF (bD 0) (bS 0) (bH 0 0) (bRF 0) (bRT 0) vF_212 ++ (cS g bS (bC 0) (bT 0) ++ (cC g bC vC ++ (cT g bT vT ++ (cR g bRT nRT (bG 0) (bB 0) vRT_213 ++ (cL g bG vG_214 ++ (cL g bB vB_215 ++ (cR g bRF nRF (bGF 0) (bBF 0) vRF ++ (cL g bGF vGF ++ (cL g bBF vBF ++ (cD g bD (bS2 0) vD ++ (cS g bS2 (bE 0) (bU 0) ++ (cC g bE vE ++ (cT g bU vU ++ (cH g bH vH))))))))))))))))) (kpc (fun P => by simp only [List.countP_append] <;> omega)) (kpc (fun P => by simp only [List.countP_append] <;> omega)) (As := [.ref (bF 0), .int (xs ((x4 + (1 : Int32))).toNatClampNeg), .int (xs ((x4 + (2 : Int32))).toNatClampNeg), .int (xs ((x4 + (3 : Int32))).toNatClampNeg), .ref (bO 1)]) (rest := []) rfl rfl hl.1 (Nat.le_of_ble_eq_true rfl) dL_law_742 (k1 := cells + 1) (n1 := slots + 6) rfl rfl hcr (fun H locs hP hD hS => ?_)
                      refine lv_istore (lv' := [(5, .int r210), (0, .ref b), (1, .ref (bF 0)), (2, .ref (bM 0)), (3, .ref (bO 1)), (4, .int x4)]) hx hb dL_law_745 hl (by decide) rfl (fun ls hl => ?_)
                      refine lv_aload_n hx hb dL_law_747 rfl (lv_at hl 3 rfl) ?_
                      refine lv_aload_n hx hb dL_law_748 rfl (lv_at hl 1 rfl) ?_
                      refine lv_iload hx hb dL_law_749 (lv_at hl 5 rfl) ?_
                      refine lv_iconst (v := (1 : Int32)) hx hb dL_law_751 (by decide) ?_
                      refine lv_iadd hx hb dL_law_752 ?_
                      obtain ⟨h217, hf⟩ := gd_in hf
                      refine va_sld hx hb hX hbl hbA hS h217 dL_law_753 ?_
                      refine lv_aload_n hx hb dL_law_754 rfl (lv_at hl 1 rfl) ?_
                      refine lv_iload hx hb dL_law_755 (lv_at hl 5 rfl) ?_
                      refine lv_iconst (v := (2 : Int32)) hx hb dL_law_757 (by decide) ?_
                      refine lv_iadd hx hb dL_law_758 ?_
                      obtain ⟨h218, hf⟩ := gd_in hf
                      refine va_sld hx hb hX hbl hbA hS h218 dL_law_759 ?_
                      refine lv_aload_n hx hb dL_law_760 rfl (lv_at hl 1 rfl) ?_
                      refine lv_iload hx hb dL_law_761 (lv_at hl 5 rfl) ?_
                      refine lv_iconst (v := (3 : Int32)) hx hb dL_law_763 (by decide) ?_
                      refine lv_iadd hx hb dL_law_764 ?_
                      obtain ⟨h219, hf⟩ := gd_in hf
                      refine va_sld hx hb hX hbl hbA hS h219 dL_law_765 ?_
                      obtain ⟨r220, vM_221, hg222, hf⟩ := o2_at hf
                      refine k_viQ ⟨hx, hb, hml, hown, htu⟩ hK hP hD hS hA hG (c_X8_tellsApart l g bM vM (xs ((x4 + (1 : Int32))).toNatClampNeg) (xs ((x4 + (2 : Int32))).toNatClampNeg) (xs ((x4 + (3 : Int32))).toNatClampNeg) r220 vM_221 hg222) (cwV 3 htu (gU_V mw_6_158 hcX8_tellsApart) rfl rfl rfl hdX8_tellsApart ⟨Nat.le_of_ble_eq_true rfl, Nat.le_of_ble_eq_true rfl⟩) (q0 := 0) (ci := 8) (fs := fcM bM vM) (q := (RX8, TX8, 23)) rfl rfl rfl (wr := (cO g bO vO_211 ++ (cF g bF (bD 0) (bS 0) (bH 0 0) (bRF 0) (bRT 0) vF_212 ++ (cS g bS (bC 0) (bT 0) ++ (cC g bC vC ++ (cT g bT vT ++ (cR g bRT nRT (bG 0) (bB 0) vRT_213 ++ (cL g bG vG_214 ++ (cL g bB vB_215 ++ (cR g bRF nRF (bGF 0) (bBF 0) vRF ++ (cL g bGF vGF ++ (cL g bBF vBF ++ (cD g bD (bS2 0) vD ++ (cS g bS2 (bE 0) (bU 0) ++ (cC g bE vE ++ (cT g bU vU ++ (cH g bH vH))))))))))))))))) (w2 := cM g bM vM_221 ++ (cO g bO vO_211 ++ (cF g bF (bD 0) (bS 0) (bH 0 0) (bRF 0) (bRT 0) vF_212 ++ (cS g bS (bC 0) (bT 0) ++ (cC g bC vC ++ (cT g bT vT ++ (cR g bRT nRT (bG 0) (bB 0) vRT_213 ++ (cL g bG vG_214 ++ (cL g bB vB_215 ++ (cR g bRF nRF (bGF 0) (bBF 0) vRF ++ (cL g bGF vGF ++ (cL g bBF vBF ++ (cD g bD (bS2 0) vD ++ (cS g bS2 (bE 0) (bU 0) ++ (cC g bE vE ++ (cT g bU vU ++ (cH g bH vH))))))))))))))))) (kpc (fun P => by simp only [List.countP_append] <;> omega)) (kpc (fun P => by simp only [List.countP_append] <;> omega)) (As := [.int (xs ((x4 + (1 : Int32))).toNatClampNeg), .int (xs ((x4 + (2 : Int32))).toNatClampNeg), .int (xs ((x4 + (3 : Int32))).toNatClampNeg)]) (rest := []) rfl rfl hl.1 (Nat.le_of_ble_eq_true rfl) dL_law_766 (k1 := cells + 1) (n1 := slots + 6) rfl rfl hcr (fun H locs hP hD hS => ?_)
                      refine lv_istore (lv' := [(6, .int r220), (5, .int r210), (0, .ref b), (1, .ref (bF 0)), (2, .ref (bM 0)), (3, .ref (bO 1)), (4, .int x4)]) hx hb dL_law_769 hl (by decide) rfl (fun ls hl => ?_)
                      refine lv_aload_n hx hb dL_law_771 rfl (lv_at hl 4 rfl) ?_
                      obtain ⟨r223, hg224, hf⟩ := o1_at hf
                      refine k_viQ ⟨hx, hb, hml, hown, htu⟩ hK hP hD hS hA hG (c_X8_thrown l g bM vM_221 r223 hg224) (cwV 0 htu (gU_V mw_5_143 hcX8_thrown) rfl rfl rfl hdX8_thrown ⟨Nat.le_of_ble_eq_true rfl, Nat.le_of_ble_eq_true rfl⟩) (q0 := 0) (ci := 8) (fs := fcM bM vM_221) (q := (RX8, TX8, 23)) rfl rfl rfl (wr := (cO g bO vO_211 ++ (cF g bF (bD 0) (bS 0) (bH 0 0) (bRF 0) (bRT 0) vF_212 ++ (cS g bS (bC 0) (bT 0) ++ (cC g bC vC ++ (cT g bT vT ++ (cR g bRT nRT (bG 0) (bB 0) vRT_213 ++ (cL g bG vG_214 ++ (cL g bB vB_215 ++ (cR g bRF nRF (bGF 0) (bBF 0) vRF ++ (cL g bGF vGF ++ (cL g bBF vBF ++ (cD g bD (bS2 0) vD ++ (cS g bS2 (bE 0) (bU 0) ++ (cC g bE vE ++ (cT g bU vU ++ (cH g bH vH))))))))))))))))) (w2 := cM g bM vM_221 ++ (cO g bO vO_211 ++ (cF g bF (bD 0) (bS 0) (bH 0 0) (bRF 0) (bRT 0) vF_212 ++ (cS g bS (bC 0) (bT 0) ++ (cC g bC vC ++ (cT g bT vT ++ (cR g bRT nRT (bG 0) (bB 0) vRT_213 ++ (cL g bG vG_214 ++ (cL g bB vB_215 ++ (cR g bRF nRF (bGF 0) (bBF 0) vRF ++ (cL g bGF vGF ++ (cL g bBF vBF ++ (cD g bD (bS2 0) vD ++ (cS g bS2 (bE 0) (bU 0) ++ (cC g bE vE ++ (cT g bU vU ++ (cH g bH vH))))))))))))))))) (kpc (fun P => by simp only [List.countP_append] <;> omega)) (kpc (fun P => by simp only [List.countP_append] <;> omega)) (As := []) (rest := []) rfl rfl hl.1 (Nat.le_of_ble_eq_true rfl) dL_law_772 (k1 := cells + 1) (n1 := slots + 6) rfl rfl hcr (fun H locs hP hD hS => ?_)
                      refine lv_iload hx hb dL_law_775 (lv_at hl 1 rfl) ?_
                      refine lv_icmp_eq (tgt := 782) hx hb dL_law_777 (by decide) (fun c225 => ?_) (fun c225 => ?_)
                      · have hf := it_t hf c225
                        refine lv_iload hx hb dL_law_782 (lv_at hl 1 rfl) ?_
                        obtain ⟨k226, hk228, hf⟩ := jn_at hf
                        have hJ227 : k226 = some () → ∀ (H : Heap) (locs : List Loc), va_P g.1 vwCl (cM g bM vM_221 ++ (cO g bO vO_211 ++ (cF g bF (bD 0) (bS 0) (bH 0 0) (bRF 0) (bRT 0) vF_212 ++ (cS g bS (bC 0) (bT 0) ++ (cC g bC vC ++ (cT g bT vT ++ (cR g bRT nRT (bG 0) (bB 0) vRT_213 ++ (cL g bG vG_214 ++ (cL g bB vB_215 ++ (cR g bRF nRF (bGF 0) (bBF 0) vRF ++ (cL g bGF vGF ++ (cL g bBF vBF ++ (cD g bD (bS2 0) vD ++ (cS g bS2 (bE 0) (bU 0) ++ (cC g bE vE ++ (cT g bU vU ++ (cH g bH vH))))))))))))))))) H → va_D A (cM g bM vM_221 ++ (cO g bO vO_211 ++ (cF g bF (bD 0) (bS 0) (bH 0 0) (bRF 0) (bRT 0) vF_212 ++ (cS g bS (bC 0) (bT 0) ++ (cC g bC vC ++ (cT g bT vT ++ (cR g bRT nRT (bG 0) (bB 0) vRT_213 ++ (cL g bG vG_214 ++ (cL g bB vB_215 ++ (cR g bRF nRF (bGF 0) (bBF 0) vRF ++ (cL g bGF vGF ++ (cL g bBF vBF ++ (cD g bD (bS2 0) vD ++ (cS g bS2 (bE 0) (bU 0) ++ (cC g bE vE ++ (cT g bU vU ++ (cH g bH vH))))))))))))))))) → va_S A s.heap H locs → ∀ ls : Array Slot, lv_has ls 9 [(0, .ref b), (1, .ref (bF 0)), (2, .ref (bM 0)), (3, .ref (bO 1)), (4, .int x4)] → W p l e room_1 s m args below meth c H locs (cells + 1) (slots + 6) Q (F0 m 806 ls []) := by
                          intro hf H locs hP hD hS ls hl
                          rw [hk228] at hf
                          clear hk228
                          refine lv_goto (tgt := 1532) hx hb dL_law_806 (by decide) ?_
                          refine W.widen (k := cells + 1) (n := slots + 6) (by omega) (by omega) ?_
                          exact hJ18 vM_221 vO_211 vF_212 vC vT vRT_213 vG_214 vB_215 vRF vGF vBF vD vE vU vH hf H locs hP hD hS _ (lv_sub hl [0, 1, 2, 3, 4] rfl)
                        refine lv_if_ne (tgt := 806) hx hb dL_law_784 (by decide) (fun c229 => ?_) (fun c229 => ?_)
                        · have hf := it_f hf c229
                          refine W.widen (k := cells + 1) (n := slots + 6) (by omega) (by omega) ?_
                          exact hJ227 hf H locs hP hD hS _ (lv_sub hl [2, 3, 4, 5, 6] rfl)
                        · have hf := it_t hf c229
                          refine lv_aload_n hx hb dL_law_787 rfl (lv_at hl 5 rfl) ?_
                          refine lv_iconst (v := (0 : Int32)) hx hb dL_law_788 (by decide) ?_
                          obtain ⟨h230, hf⟩ := gd_in hf
                          refine va_lald (D := g.1) (f := (vO_211.2.2 0)) hx hb hK hP 14 1 rfl rfl h230 dL_law_789 ?_
                          refine lv_iload hx hb dL_law_790 (lv_at hl 0 rfl) ?_
                          obtain ⟨k232, hk235, hf⟩ := jn_at hf
                          have hJ233 : ∀ (t231 : Int64), k232 t231 = some () → ∀ (H : Heap) (locs : List Loc), va_P g.1 vwCl (cM g bM vM_221 ++ (cO g bO vO_211 ++ (cF g bF (bD 0) (bS 0) (bH 0 0) (bRF 0) (bRT 0) vF_212 ++ (cS g bS (bC 0) (bT 0) ++ (cC g bC vC ++ (cT g bT vT ++ (cR g bRT nRT (bG 0) (bB 0) vRT_213 ++ (cL g bG vG_214 ++ (cL g bB vB_215 ++ (cR g bRF nRF (bGF 0) (bBF 0) vRF ++ (cL g bGF vGF ++ (cL g bBF vBF ++ (cD g bD (bS2 0) vD ++ (cS g bS2 (bE 0) (bU 0) ++ (cC g bE vE ++ (cT g bU vU ++ (cH g bH vH))))))))))))))))) H → va_D A (cM g bM vM_221 ++ (cO g bO vO_211 ++ (cF g bF (bD 0) (bS 0) (bH 0 0) (bRF 0) (bRT 0) vF_212 ++ (cS g bS (bC 0) (bT 0) ++ (cC g bC vC ++ (cT g bT vT ++ (cR g bRT nRT (bG 0) (bB 0) vRT_213 ++ (cL g bG vG_214 ++ (cL g bB vB_215 ++ (cR g bRF nRF (bGF 0) (bBF 0) vRF ++ (cL g bGF vGF ++ (cL g bBF vBF ++ (cD g bD (bS2 0) vD ++ (cS g bS2 (bE 0) (bU 0) ++ (cC g bE vE ++ (cT g bU vU ++ (cH g bH vH))))))))))))))))) → va_S A s.heap H locs → ∀ ls : Array Slot, lv_has ls 9 [(0, .ref b), (1, .ref (bF 0)), (2, .ref (bM 0)), (3, .ref (bO 1)), (4, .int x4)] → W p l e room_1 s m args below meth c H locs (cells + 1) (slots + 6) Q (F0 m 800 ls [.long t231, .long (vO_211.2.2 0 ((0 : Int32)).toNatClampNeg)]) := by
                            intro t231 hf H locs hP hD hS ls hl
                            rw [hk235] at hf
                            dsimp only at hf
                            clear hk235
                            refine W.lcmp hx hb dL_law_800 ?_
                            refine lv_if_eq (tgt := 806) hx hb dL_law_801 (by decide) (fun c234 => ?_) (fun c234 => ?_)
                            · have hf := it_t hf c234
                              refine W.widen (k := cells + 1) (n := slots + 6) (by omega) (by omega) ?_
                              exact hJ227 hf H locs hP hD hS _ (lv_sub hl [0, 1, 2, 3, 4] rfl)
                            · have hf := it_f hf c234
                              refine lv_iconst (v := (0 : Int32)) hx hb dL_law_804 (by decide) ?_
                              cases hf
                          refine lv_if_eq (tgt := 799) hx hb dL_law_792 (by decide) (fun c236 => ?_) (fun c236 => ?_)
                          · have hf := it_t hf c236
                            refine lv_lconst (v := (0 : Int64)) hx hb dL_law_799 (by decide) ?_
                            refine W.widen (k := cells + 1) (n := slots + 6) (by omega) (by omega) ?_
                            exact hJ233 (0 : Int64) hf H locs hP hD hS _ (lv_sub hl [2, 3, 4, 5, 6] rfl)
                          · have hf := it_f hf c236
                            refine lv_lconst (v := (1 : Int64)) hx hb dL_law_795 (by decide) ?_
                            refine lv_goto (tgt := 800) hx hb dL_law_796 (by decide) ?_
                            refine W.widen (k := cells + 1) (n := slots + 6) (by omega) (by omega) ?_
                            exact hJ233 (1 : Int64) hf H locs hP hD hS _ (lv_sub hl [2, 3, 4, 5, 6] rfl)
                      · have hf := it_f hf c225
                        refine lv_iconst (v := (0 : Int32)) hx hb dL_law_780 (by decide) ?_
                        cases hf
                    · have hf := it_f hf c206
                      by_cases c237 : ((xs (x4).toNatClampNeg) &&& (31 : Int32)) = (10 : Int32)
                      · have hf := it_t hf c237
                        refine lv_tableIn (off := 769) (tgt := 809) hx hb dL_law_40 (by rw [c237]; decide) (by rw [c237]; decide) (by rw [c237]; rfl) (by decide) ?_
                        refine lv_aload_n hx hb dL_law_809 rfl (lv_at hl 1 rfl) ?_
                        refine lv_aload_n hx hb dL_law_810 rfl (lv_at hl 0 rfl) ?_
                        refine lv_iload hx hb dL_law_811 (lv_at hl 4 rfl) ?_
                        refine lv_iconst (v := (1 : Int32)) hx hb dL_law_813 (by decide) ?_
                        refine lv_iadd hx hb dL_law_814 ?_
                        obtain ⟨h238, hf⟩ := gd_in hf
                        refine va_sld hx hb hX hbl hbA hS h238 dL_law_815 ?_
                        refine lv_aload_n hx hb dL_law_816 rfl (lv_at hl 3 rfl) ?_
                        obtain ⟨r239, vO_240, vF_241, vRT_242, vG_243, vB_244, hg245, hf⟩ := o6_at hf
                        refine k_siHQ ⟨hx, hb, hml, hown, htu⟩ hK hP hD hS hA hG (h_L_worth l hst g bO vO bF (bD 0) (bH 0 0) (bRF 0) vF bS bC vC bT vT bRT nRT vRT bG vG bB vB (xs ((x4 + (1 : Int32))).toNatClampNeg) r239 vO_240 vF_241 vRT_242 vG_243 vB_244 hg245) (vx_cwSW 3 htu (gU_H mw_4_195 hcL_worth) rfl rfl rfl hdL_worth ⟨Nat.le_of_ble_eq_true rfl, Nat.le_of_ble_eq_true rfl⟩) (wr := (cM g bM vM ++ (cR g bRF nRF (bGF 0) (bBF 0) vRF ++ (cL g bGF vGF ++ (cL g bBF vBF ++ (cD g bD (bS2 0) vD ++ (cS g bS2 (bE 0) (bU 0) ++ (cC g bE vE ++ (cT g bU vU ++ (cH g bH vH)))))))))) (w2 := cM g bM vM ++ (cO g bO vO_240 ++ (cF g bF (bD 0) (bS 0) (bH 0 0) (bRF 0) (bRT 0) vF_241 ++ (cS g bS (bC 0) (bT 0) ++ (cC g bC vC ++ (cT g bT vT ++ (cR g bRT nRT (bG 0) (bB 0) vRT_242 ++ (cL g bG vG_243 ++ (cL g bB vB_244 ++ (cR g bRF nRF (bGF 0) (bBF 0) vRF ++ (cL g bGF vGF ++ (cL g bBF vBF ++ (cD g bD (bS2 0) vD ++ (cS g bS2 (bE 0) (bU 0) ++ (cC g bE vE ++ (cT g bU vU ++ (cH g bH vH))))))))))))))))) (kpc (fun P => by simp only [List.countP_append] <;> omega)) (kpc (fun P => by simp only [List.countP_append] <;> omega)) (As := [.ref (bF 0), .int (xs ((x4 + (1 : Int32))).toNatClampNeg), .ref (bO 1)]) (rest := []) rfl rfl hl.1 (Nat.le_of_ble_eq_true rfl) dL_law_817 (k1 := cells + 1) (n1 := slots + 6) rfl rfl hcr (fun H locs hP hD hS => ?_)
                        refine lv_istore (lv' := [(5, .int r239), (0, .ref b), (1, .ref (bF 0)), (2, .ref (bM 0)), (3, .ref (bO 1)), (4, .int x4)]) hx hb dL_law_820 hl (by decide) rfl (fun ls hl => ?_)
                        refine lv_aload_n hx hb dL_law_822 rfl (lv_at hl 3 rfl) ?_
                        refine lv_aload_n hx hb dL_law_823 rfl (lv_at hl 1 rfl) ?_
                        refine lv_iload hx hb dL_law_824 (lv_at hl 5 rfl) ?_
                        refine lv_iconst (v := (1 : Int32)) hx hb dL_law_826 (by decide) ?_
                        refine lv_iadd hx hb dL_law_827 ?_
                        obtain ⟨h246, hf⟩ := gd_in hf
                        refine va_sld hx hb hX hbl hbA hS h246 dL_law_828 ?_
                        obtain ⟨r247, vM_248, hg249, hf⟩ := o2_at hf
                        refine k_viQ ⟨hx, hb, hml, hown, htu⟩ hK hP hD hS hA hG (c_X8_worth l g bM vM (xs ((x4 + (1 : Int32))).toNatClampNeg) r247 vM_248 hg249) (cwV 1 htu (gU_V mw_6_162 hcX8_worth) rfl rfl rfl hdX8_worth ⟨Nat.le_of_ble_eq_true rfl, Nat.le_of_ble_eq_true rfl⟩) (q0 := 0) (ci := 8) (fs := fcM bM vM) (q := (RX8, TX8, 23)) rfl rfl rfl (wr := (cO g bO vO_240 ++ (cF g bF (bD 0) (bS 0) (bH 0 0) (bRF 0) (bRT 0) vF_241 ++ (cS g bS (bC 0) (bT 0) ++ (cC g bC vC ++ (cT g bT vT ++ (cR g bRT nRT (bG 0) (bB 0) vRT_242 ++ (cL g bG vG_243 ++ (cL g bB vB_244 ++ (cR g bRF nRF (bGF 0) (bBF 0) vRF ++ (cL g bGF vGF ++ (cL g bBF vBF ++ (cD g bD (bS2 0) vD ++ (cS g bS2 (bE 0) (bU 0) ++ (cC g bE vE ++ (cT g bU vU ++ (cH g bH vH))))))))))))))))) (w2 := cM g bM vM_248 ++ (cO g bO vO_240 ++ (cF g bF (bD 0) (bS 0) (bH 0 0) (bRF 0) (bRT 0) vF_241 ++ (cS g bS (bC 0) (bT 0) ++ (cC g bC vC ++ (cT g bT vT ++ (cR g bRT nRT (bG 0) (bB 0) vRT_242 ++ (cL g bG vG_243 ++ (cL g bB vB_244 ++ (cR g bRF nRF (bGF 0) (bBF 0) vRF ++ (cL g bGF vGF ++ (cL g bBF vBF ++ (cD g bD (bS2 0) vD ++ (cS g bS2 (bE 0) (bU 0) ++ (cC g bE vE ++ (cT g bU vU ++ (cH g bH vH))))))))))))))))) (kpc (fun P => by simp only [List.countP_append] <;> omega)) (kpc (fun P => by simp only [List.countP_append] <;> omega)) (As := [.int (xs ((x4 + (1 : Int32))).toNatClampNeg)]) (rest := []) rfl rfl hl.1 (Nat.le_of_ble_eq_true rfl) dL_law_829 (k1 := cells + 1) (n1 := slots + 6) rfl rfl hcr (fun H locs hP hD hS => ?_)
                        refine lv_istore (lv' := [(6, .int r247), (5, .int r239), (0, .ref b), (1, .ref (bF 0)), (2, .ref (bM 0)), (3, .ref (bO 1)), (4, .int x4)]) hx hb dL_law_832 hl (by decide) rfl (fun ls hl => ?_)
                        refine lv_aload_n hx hb dL_law_834 rfl (lv_at hl 4 rfl) ?_
                        obtain ⟨r250, hg251, hf⟩ := o1_at hf
                        refine k_viQ ⟨hx, hb, hml, hown, htu⟩ hK hP hD hS hA hG (c_X8_thrown l g bM vM_248 r250 hg251) (cwV 0 htu (gU_V mw_5_143 hcX8_thrown) rfl rfl rfl hdX8_thrown ⟨Nat.le_of_ble_eq_true rfl, Nat.le_of_ble_eq_true rfl⟩) (q0 := 0) (ci := 8) (fs := fcM bM vM_248) (q := (RX8, TX8, 23)) rfl rfl rfl (wr := (cO g bO vO_240 ++ (cF g bF (bD 0) (bS 0) (bH 0 0) (bRF 0) (bRT 0) vF_241 ++ (cS g bS (bC 0) (bT 0) ++ (cC g bC vC ++ (cT g bT vT ++ (cR g bRT nRT (bG 0) (bB 0) vRT_242 ++ (cL g bG vG_243 ++ (cL g bB vB_244 ++ (cR g bRF nRF (bGF 0) (bBF 0) vRF ++ (cL g bGF vGF ++ (cL g bBF vBF ++ (cD g bD (bS2 0) vD ++ (cS g bS2 (bE 0) (bU 0) ++ (cC g bE vE ++ (cT g bU vU ++ (cH g bH vH))))))))))))))))) (w2 := cM g bM vM_248 ++ (cO g bO vO_240 ++ (cF g bF (bD 0) (bS 0) (bH 0 0) (bRF 0) (bRT 0) vF_241 ++ (cS g bS (bC 0) (bT 0) ++ (cC g bC vC ++ (cT g bT vT ++ (cR g bRT nRT (bG 0) (bB 0) vRT_242 ++ (cL g bG vG_243 ++ (cL g bB vB_244 ++ (cR g bRF nRF (bGF 0) (bBF 0) vRF ++ (cL g bGF vGF ++ (cL g bBF vBF ++ (cD g bD (bS2 0) vD ++ (cS g bS2 (bE 0) (bU 0) ++ (cC g bE vE ++ (cT g bU vU ++ (cH g bH vH))))))))))))))))) (kpc (fun P => by simp only [List.countP_append] <;> omega)) (kpc (fun P => by simp only [List.countP_append] <;> omega)) (As := []) (rest := []) rfl rfl hl.1 (Nat.le_of_ble_eq_true rfl) dL_law_835 (k1 := cells + 1) (n1 := slots + 6) rfl rfl hcr (fun H locs hP hD hS => ?_)
                        refine lv_iload hx hb dL_law_838 (lv_at hl 1 rfl) ?_
                        refine lv_icmp_eq (tgt := 845) hx hb dL_law_840 (by decide) (fun c252 => ?_) (fun c252 => ?_)
                        · have hf := it_t hf c252
                          refine lv_iload hx hb dL_law_845 (lv_at hl 1 rfl) ?_
                          obtain ⟨k253, hk255, hf⟩ := jn_at hf
                          have hJ254 : k253 = some () → ∀ (H : Heap) (locs : List Loc), va_P g.1 vwCl (cM g bM vM_248 ++ (cO g bO vO_240 ++ (cF g bF (bD 0) (bS 0) (bH 0 0) (bRF 0) (bRT 0) vF_241 ++ (cS g bS (bC 0) (bT 0) ++ (cC g bC vC ++ (cT g bT vT ++ (cR g bRT nRT (bG 0) (bB 0) vRT_242 ++ (cL g bG vG_243 ++ (cL g bB vB_244 ++ (cR g bRF nRF (bGF 0) (bBF 0) vRF ++ (cL g bGF vGF ++ (cL g bBF vBF ++ (cD g bD (bS2 0) vD ++ (cS g bS2 (bE 0) (bU 0) ++ (cC g bE vE ++ (cT g bU vU ++ (cH g bH vH))))))))))))))))) H → va_D A (cM g bM vM_248 ++ (cO g bO vO_240 ++ (cF g bF (bD 0) (bS 0) (bH 0 0) (bRF 0) (bRT 0) vF_241 ++ (cS g bS (bC 0) (bT 0) ++ (cC g bC vC ++ (cT g bT vT ++ (cR g bRT nRT (bG 0) (bB 0) vRT_242 ++ (cL g bG vG_243 ++ (cL g bB vB_244 ++ (cR g bRF nRF (bGF 0) (bBF 0) vRF ++ (cL g bGF vGF ++ (cL g bBF vBF ++ (cD g bD (bS2 0) vD ++ (cS g bS2 (bE 0) (bU 0) ++ (cC g bE vE ++ (cT g bU vU ++ (cH g bH vH))))))))))))))))) → va_S A s.heap H locs → ∀ ls : Array Slot, lv_has ls 9 [(0, .ref b), (1, .ref (bF 0)), (2, .ref (bM 0)), (3, .ref (bO 1)), (4, .int x4)] → W p l e room_1 s m args below meth c H locs (cells + 1) (slots + 6) Q (F0 m 862 ls []) := by
                            intro hf H locs hP hD hS ls hl
                            rw [hk255] at hf
                            clear hk255
                            refine lv_goto (tgt := 1532) hx hb dL_law_862 (by decide) ?_
                            refine W.widen (k := cells + 1) (n := slots + 6) (by omega) (by omega) ?_
                            exact hJ18 vM_248 vO_240 vF_241 vC vT vRT_242 vG_243 vB_244 vRF vGF vBF vD vE vU vH hf H locs hP hD hS _ (lv_sub hl [0, 1, 2, 3, 4] rfl)
                          refine lv_if_ne (tgt := 862) hx hb dL_law_847 (by decide) (fun c256 => ?_) (fun c256 => ?_)
                          · have hf := it_f hf c256
                            refine W.widen (k := cells + 1) (n := slots + 6) (by omega) (by omega) ?_
                            exact hJ254 hf H locs hP hD hS _ (lv_sub hl [2, 3, 4, 5, 6] rfl)
                          · have hf := it_t hf c256
                            refine lv_aload_n hx hb dL_law_850 rfl (lv_at hl 5 rfl) ?_
                            refine lv_iconst (v := (0 : Int32)) hx hb dL_law_851 (by decide) ?_
                            obtain ⟨h257, hf⟩ := gd_in hf
                            refine va_lald (D := g.1) (f := (vO_240.2.2 0)) hx hb hK hP 14 1 rfl rfl h257 dL_law_852 ?_
                            refine lv_iload hx hb dL_law_853 (lv_at hl 0 rfl) ?_
                            refine lv_i2l (v := (r247).toInt64) hx hb dL_law_855 rfl ?_
                            refine W.lcmp hx hb dL_law_856 ?_
                            refine lv_if_eq (tgt := 862) hx hb dL_law_857 (by decide) (fun c258 => ?_) (fun c258 => ?_)
                            · have hf := it_t hf c258
                              refine W.widen (k := cells + 1) (n := slots + 6) (by omega) (by omega) ?_
                              exact hJ254 hf H locs hP hD hS _ (lv_sub hl [2, 3, 4, 5, 6] rfl)
                            · have hf := it_f hf c258
                              refine lv_iconst (v := (0 : Int32)) hx hb dL_law_860 (by decide) ?_
                              cases hf
                        · have hf := it_f hf c252
                          refine lv_iconst (v := (0 : Int32)) hx hb dL_law_843 (by decide) ?_
                          cases hf
                      · have hf := it_f hf c237
                        by_cases c259 : ((xs (x4).toNatClampNeg) &&& (31 : Int32)) = (11 : Int32)
                        · have hf := it_t hf c259
                          refine lv_tableIn (off := 825) (tgt := 865) hx hb dL_law_40 (by rw [c259]; decide) (by rw [c259]; decide) (by rw [c259]; rfl) (by decide) ?_
                          refine lv_aload_n hx hb dL_law_865 rfl (lv_at hl 1 rfl) ?_
                          refine lv_aload_n hx hb dL_law_866 rfl (lv_at hl 0 rfl) ?_
                          refine lv_iload hx hb dL_law_867 (lv_at hl 4 rfl) ?_
                          refine lv_iconst (v := (1 : Int32)) hx hb dL_law_869 (by decide) ?_
                          refine lv_iadd hx hb dL_law_870 ?_
                          obtain ⟨h260, hf⟩ := gd_in hf
                          refine va_sld hx hb hX hbl hbA hS h260 dL_law_871 ?_
                          refine lv_aload_n hx hb dL_law_872 rfl (lv_at hl 3 rfl) ?_
                          obtain ⟨r261, vO_262, vF_263, vRF_264, vGF_265, vBF_266, hg267, hf⟩ := o6_at hf
                          refine k_siHQ ⟨hx, hb, hml, hown, htu⟩ hK hP hD hS hA hG (h_L_testFor l hst g bO vO bF (bD 0) (bH 0 0) (bRT 0) vF bS (bT 0) bC vC bRF nRF vRF bGF vGF bBF vBF (xs ((x4 + (1 : Int32))).toNatClampNeg) r261 vO_262 vF_263 vRF_264 vGF_265 vBF_266 hg267) (vx_cwSW 3 htu (gU_H mw_4_202 hcL_testFor) rfl rfl rfl hdL_testFor ⟨Nat.le_of_ble_eq_true rfl, Nat.le_of_ble_eq_true rfl⟩) (wr := (cM g bM vM ++ (cT g bT vT ++ (cR g bRT nRT (bG 0) (bB 0) vRT ++ (cL g bG vG ++ (cL g bB vB ++ (cD g bD (bS2 0) vD ++ (cS g bS2 (bE 0) (bU 0) ++ (cC g bE vE ++ (cT g bU vU ++ (cH g bH vH))))))))))) (w2 := cM g bM vM ++ (cO g bO vO_262 ++ (cF g bF (bD 0) (bS 0) (bH 0 0) (bRF 0) (bRT 0) vF_263 ++ (cS g bS (bC 0) (bT 0) ++ (cC g bC vC ++ (cT g bT vT ++ (cR g bRT nRT (bG 0) (bB 0) vRT ++ (cL g bG vG ++ (cL g bB vB ++ (cR g bRF nRF (bGF 0) (bBF 0) vRF_264 ++ (cL g bGF vGF_265 ++ (cL g bBF vBF_266 ++ (cD g bD (bS2 0) vD ++ (cS g bS2 (bE 0) (bU 0) ++ (cC g bE vE ++ (cT g bU vU ++ (cH g bH vH))))))))))))))))) (kpc (fun P => by simp only [List.countP_append] <;> omega)) (kpc (fun P => by simp only [List.countP_append] <;> omega)) (As := [.ref (bF 0), .int (xs ((x4 + (1 : Int32))).toNatClampNeg), .ref (bO 1)]) (rest := []) rfl rfl hl.1 (Nat.le_of_ble_eq_true rfl) dL_law_873 (k1 := cells + 1) (n1 := slots + 6) rfl rfl hcr (fun H locs hP hD hS => ?_)
                          refine lv_istore (lv' := [(5, .int r261), (0, .ref b), (1, .ref (bF 0)), (2, .ref (bM 0)), (3, .ref (bO 1)), (4, .int x4)]) hx hb dL_law_876 hl (by decide) rfl (fun ls hl => ?_)
                          refine lv_aload_n hx hb dL_law_878 rfl (lv_at hl 3 rfl) ?_
                          refine lv_aload_n hx hb dL_law_879 rfl (lv_at hl 1 rfl) ?_
                          refine lv_iload hx hb dL_law_880 (lv_at hl 5 rfl) ?_
                          refine lv_iconst (v := (1 : Int32)) hx hb dL_law_882 (by decide) ?_
                          refine lv_iadd hx hb dL_law_883 ?_
                          obtain ⟨h268, hf⟩ := gd_in hf
                          refine va_sld hx hb hX hbl hbA hS h268 dL_law_884 ?_
                          obtain ⟨r269, vM_270, hg271, hf⟩ := o2_at hf
                          refine k_viQ ⟨hx, hb, hml, hown, htu⟩ hK hP hD hS hA hG (c_X8_testFor l g bM vM (xs ((x4 + (1 : Int32))).toNatClampNeg) r269 vM_270 hg271) (cwV 1 htu (gU_V mw_6_170 hcX8_testFor) rfl rfl rfl hdX8_testFor ⟨Nat.le_of_ble_eq_true rfl, Nat.le_of_ble_eq_true rfl⟩) (q0 := 0) (ci := 8) (fs := fcM bM vM) (q := (RX8, TX8, 23)) rfl rfl rfl (wr := (cO g bO vO_262 ++ (cF g bF (bD 0) (bS 0) (bH 0 0) (bRF 0) (bRT 0) vF_263 ++ (cS g bS (bC 0) (bT 0) ++ (cC g bC vC ++ (cT g bT vT ++ (cR g bRT nRT (bG 0) (bB 0) vRT ++ (cL g bG vG ++ (cL g bB vB ++ (cR g bRF nRF (bGF 0) (bBF 0) vRF_264 ++ (cL g bGF vGF_265 ++ (cL g bBF vBF_266 ++ (cD g bD (bS2 0) vD ++ (cS g bS2 (bE 0) (bU 0) ++ (cC g bE vE ++ (cT g bU vU ++ (cH g bH vH))))))))))))))))) (w2 := cM g bM vM_270 ++ (cO g bO vO_262 ++ (cF g bF (bD 0) (bS 0) (bH 0 0) (bRF 0) (bRT 0) vF_263 ++ (cS g bS (bC 0) (bT 0) ++ (cC g bC vC ++ (cT g bT vT ++ (cR g bRT nRT (bG 0) (bB 0) vRT ++ (cL g bG vG ++ (cL g bB vB ++ (cR g bRF nRF (bGF 0) (bBF 0) vRF_264 ++ (cL g bGF vGF_265 ++ (cL g bBF vBF_266 ++ (cD g bD (bS2 0) vD ++ (cS g bS2 (bE 0) (bU 0) ++ (cC g bE vE ++ (cT g bU vU ++ (cH g bH vH))))))))))))))))) (kpc (fun P => by simp only [List.countP_append] <;> omega)) (kpc (fun P => by simp only [List.countP_append] <;> omega)) (As := [.int (xs ((x4 + (1 : Int32))).toNatClampNeg)]) (rest := []) rfl rfl hl.1 (Nat.le_of_ble_eq_true rfl) dL_law_885 (k1 := cells + 1) (n1 := slots + 6) rfl rfl hcr (fun H locs hP hD hS => ?_)
                          refine lv_istore (lv' := [(6, .int r269), (5, .int r261), (0, .ref b), (1, .ref (bF 0)), (2, .ref (bM 0)), (3, .ref (bO 1)), (4, .int x4)]) hx hb dL_law_888 hl (by decide) rfl (fun ls hl => ?_)
                          refine lv_aload_n hx hb dL_law_890 rfl (lv_at hl 4 rfl) ?_
                          obtain ⟨r272, hg273, hf⟩ := o1_at hf
                          refine k_viQ ⟨hx, hb, hml, hown, htu⟩ hK hP hD hS hA hG (c_X8_thrown l g bM vM_270 r272 hg273) (cwV 0 htu (gU_V mw_5_143 hcX8_thrown) rfl rfl rfl hdX8_thrown ⟨Nat.le_of_ble_eq_true rfl, Nat.le_of_ble_eq_true rfl⟩) (q0 := 0) (ci := 8) (fs := fcM bM vM_270) (q := (RX8, TX8, 23)) rfl rfl rfl (wr := (cO g bO vO_262 ++ (cF g bF (bD 0) (bS 0) (bH 0 0) (bRF 0) (bRT 0) vF_263 ++ (cS g bS (bC 0) (bT 0) ++ (cC g bC vC ++ (cT g bT vT ++ (cR g bRT nRT (bG 0) (bB 0) vRT ++ (cL g bG vG ++ (cL g bB vB ++ (cR g bRF nRF (bGF 0) (bBF 0) vRF_264 ++ (cL g bGF vGF_265 ++ (cL g bBF vBF_266 ++ (cD g bD (bS2 0) vD ++ (cS g bS2 (bE 0) (bU 0) ++ (cC g bE vE ++ (cT g bU vU ++ (cH g bH vH))))))))))))))))) (w2 := cM g bM vM_270 ++ (cO g bO vO_262 ++ (cF g bF (bD 0) (bS 0) (bH 0 0) (bRF 0) (bRT 0) vF_263 ++ (cS g bS (bC 0) (bT 0) ++ (cC g bC vC ++ (cT g bT vT ++ (cR g bRT nRT (bG 0) (bB 0) vRT ++ (cL g bG vG ++ (cL g bB vB ++ (cR g bRF nRF (bGF 0) (bBF 0) vRF_264 ++ (cL g bGF vGF_265 ++ (cL g bBF vBF_266 ++ (cD g bD (bS2 0) vD ++ (cS g bS2 (bE 0) (bU 0) ++ (cC g bE vE ++ (cT g bU vU ++ (cH g bH vH))))))))))))))))) (kpc (fun P => by simp only [List.countP_append] <;> omega)) (kpc (fun P => by simp only [List.countP_append] <;> omega)) (As := []) (rest := []) rfl rfl hl.1 (Nat.le_of_ble_eq_true rfl) dL_law_891 (k1 := cells + 1) (n1 := slots + 6) rfl rfl hcr (fun H locs hP hD hS => ?_)
                          refine lv_iload hx hb dL_law_894 (lv_at hl 1 rfl) ?_
                          refine lv_icmp_eq (tgt := 901) hx hb dL_law_896 (by decide) (fun c274 => ?_) (fun c274 => ?_)
                          · have hf := it_t hf c274
                            refine lv_iload hx hb dL_law_901 (lv_at hl 1 rfl) ?_
                            obtain ⟨k275, hk277, hf⟩ := jn_at hf
                            have hJ276 : k275 = some () → ∀ (H : Heap) (locs : List Loc), va_P g.1 vwCl (cM g bM vM_270 ++ (cO g bO vO_262 ++ (cF g bF (bD 0) (bS 0) (bH 0 0) (bRF 0) (bRT 0) vF_263 ++ (cS g bS (bC 0) (bT 0) ++ (cC g bC vC ++ (cT g bT vT ++ (cR g bRT nRT (bG 0) (bB 0) vRT ++ (cL g bG vG ++ (cL g bB vB ++ (cR g bRF nRF (bGF 0) (bBF 0) vRF_264 ++ (cL g bGF vGF_265 ++ (cL g bBF vBF_266 ++ (cD g bD (bS2 0) vD ++ (cS g bS2 (bE 0) (bU 0) ++ (cC g bE vE ++ (cT g bU vU ++ (cH g bH vH))))))))))))))))) H → va_D A (cM g bM vM_270 ++ (cO g bO vO_262 ++ (cF g bF (bD 0) (bS 0) (bH 0 0) (bRF 0) (bRT 0) vF_263 ++ (cS g bS (bC 0) (bT 0) ++ (cC g bC vC ++ (cT g bT vT ++ (cR g bRT nRT (bG 0) (bB 0) vRT ++ (cL g bG vG ++ (cL g bB vB ++ (cR g bRF nRF (bGF 0) (bBF 0) vRF_264 ++ (cL g bGF vGF_265 ++ (cL g bBF vBF_266 ++ (cD g bD (bS2 0) vD ++ (cS g bS2 (bE 0) (bU 0) ++ (cC g bE vE ++ (cT g bU vU ++ (cH g bH vH))))))))))))))))) → va_S A s.heap H locs → ∀ ls : Array Slot, lv_has ls 9 [(0, .ref b), (1, .ref (bF 0)), (2, .ref (bM 0)), (3, .ref (bO 1)), (4, .int x4)] → W p l e room_1 s m args below meth c H locs (cells + 1) (slots + 6) Q (F0 m 918 ls []) := by
                              intro hf H locs hP hD hS ls hl
                              rw [hk277] at hf
                              clear hk277
                              refine lv_goto (tgt := 1532) hx hb dL_law_918 (by decide) ?_
                              refine W.widen (k := cells + 1) (n := slots + 6) (by omega) (by omega) ?_
                              exact hJ18 vM_270 vO_262 vF_263 vC vT vRT vG vB vRF_264 vGF_265 vBF_266 vD vE vU vH hf H locs hP hD hS _ (lv_sub hl [0, 1, 2, 3, 4] rfl)
                            refine lv_if_ne (tgt := 918) hx hb dL_law_903 (by decide) (fun c278 => ?_) (fun c278 => ?_)
                            · have hf := it_f hf c278
                              refine W.widen (k := cells + 1) (n := slots + 6) (by omega) (by omega) ?_
                              exact hJ276 hf H locs hP hD hS _ (lv_sub hl [2, 3, 4, 5, 6] rfl)
                            · have hf := it_t hf c278
                              refine lv_aload_n hx hb dL_law_906 rfl (lv_at hl 5 rfl) ?_
                              refine lv_iconst (v := (0 : Int32)) hx hb dL_law_907 (by decide) ?_
                              obtain ⟨h279, hf⟩ := gd_in hf
                              refine va_lald (D := g.1) (f := (vO_262.2.2 0)) hx hb hK hP 14 1 rfl rfl h279 dL_law_908 ?_
                              refine lv_iload hx hb dL_law_909 (lv_at hl 0 rfl) ?_
                              refine lv_i2l (v := (r269).toInt64) hx hb dL_law_911 rfl ?_
                              refine W.lcmp hx hb dL_law_912 ?_
                              refine lv_if_eq (tgt := 918) hx hb dL_law_913 (by decide) (fun c280 => ?_) (fun c280 => ?_)
                              · have hf := it_t hf c280
                                refine W.widen (k := cells + 1) (n := slots + 6) (by omega) (by omega) ?_
                                exact hJ276 hf H locs hP hD hS _ (lv_sub hl [2, 3, 4, 5, 6] rfl)
                              · have hf := it_f hf c280
                                refine lv_iconst (v := (0 : Int32)) hx hb dL_law_916 (by decide) ?_
                                cases hf
                          · have hf := it_f hf c274
                            refine lv_iconst (v := (0 : Int32)) hx hb dL_law_899 (by decide) ?_
                            cases hf
                        · have hf := it_f hf c259
                          by_cases c281 : ((xs (x4).toNatClampNeg) &&& (31 : Int32)) = (12 : Int32)
                          · have hf := it_t hf c281
                            refine lv_tableIn (off := 881) (tgt := 921) hx hb dL_law_40 (by rw [c281]; decide) (by rw [c281]; decide) (by rw [c281]; rfl) (by decide) ?_
                            refine lv_aload_n hx hb dL_law_921 rfl (lv_at hl 1 rfl) ?_
                            refine lv_aload_n hx hb dL_law_922 rfl (lv_at hl 0 rfl) ?_
                            refine lv_iload hx hb dL_law_923 (lv_at hl 4 rfl) ?_
                            refine lv_iconst (v := (1 : Int32)) hx hb dL_law_925 (by decide) ?_
                            refine lv_iadd hx hb dL_law_926 ?_
                            obtain ⟨h282, hf⟩ := gd_in hf
                            refine va_sld hx hb hX hbl hbA hS h282 dL_law_927 ?_
                            refine lv_aload_n hx hb dL_law_928 rfl (lv_at hl 0 rfl) ?_
                            refine lv_iload hx hb dL_law_929 (lv_at hl 4 rfl) ?_
                            refine lv_iconst (v := (2 : Int32)) hx hb dL_law_931 (by decide) ?_
                            refine lv_iadd hx hb dL_law_932 ?_
                            obtain ⟨h283, hf⟩ := gd_in hf
                            refine va_sld hx hb hX hbl hbA hS h283 dL_law_933 ?_
                            refine lv_aload_n hx hb dL_law_934 rfl (lv_at hl 3 rfl) ?_
                            obtain ⟨r284, vO_285, vF_286, vRF_287, vGF_288, vBF_289, hg290, hf⟩ := o6_at hf
                            refine k_siHQ ⟨hx, hb, hml, hown, htu⟩ hK hP hD hS hA hG (h_L_testBetween l hst g bO vO bF (bD 0) (bH 0 0) (bRT 0) vF bS (bT 0) bC vC bRF nRF vRF bGF vGF bBF vBF (xs ((x4 + (1 : Int32))).toNatClampNeg) (xs ((x4 + (2 : Int32))).toNatClampNeg) r284 vO_285 vF_286 vRF_287 vGF_288 vBF_289 hg290) (vx_cwSW 4 htu (gU_H mw_4_209 hcL_testBetween) rfl rfl rfl hdL_testBetween ⟨Nat.le_of_ble_eq_true rfl, Nat.le_of_ble_eq_true rfl⟩) (wr := (cM g bM vM ++ (cT g bT vT ++ (cR g bRT nRT (bG 0) (bB 0) vRT ++ (cL g bG vG ++ (cL g bB vB ++ (cD g bD (bS2 0) vD ++ (cS g bS2 (bE 0) (bU 0) ++ (cC g bE vE ++ (cT g bU vU ++ (cH g bH vH))))))))))) (w2 := cM g bM vM ++ (cO g bO vO_285 ++ (cF g bF (bD 0) (bS 0) (bH 0 0) (bRF 0) (bRT 0) vF_286 ++ (cS g bS (bC 0) (bT 0) ++ (cC g bC vC ++ (cT g bT vT ++ (cR g bRT nRT (bG 0) (bB 0) vRT ++ (cL g bG vG ++ (cL g bB vB ++ (cR g bRF nRF (bGF 0) (bBF 0) vRF_287 ++ (cL g bGF vGF_288 ++ (cL g bBF vBF_289 ++ (cD g bD (bS2 0) vD ++ (cS g bS2 (bE 0) (bU 0) ++ (cC g bE vE ++ (cT g bU vU ++ (cH g bH vH))))))))))))))))) (kpc (fun P => by simp only [List.countP_append] <;> omega)) (kpc (fun P => by simp only [List.countP_append] <;> omega)) (As := [.ref (bF 0), .int (xs ((x4 + (1 : Int32))).toNatClampNeg), .int (xs ((x4 + (2 : Int32))).toNatClampNeg), .ref (bO 1)]) (rest := []) rfl rfl hl.1 (Nat.le_of_ble_eq_true rfl) dL_law_935 (k1 := cells + 1) (n1 := slots + 6) rfl rfl hcr (fun H locs hP hD hS => ?_)
                            refine lv_istore (lv' := [(5, .int r284), (0, .ref b), (1, .ref (bF 0)), (2, .ref (bM 0)), (3, .ref (bO 1)), (4, .int x4)]) hx hb dL_law_938 hl (by decide) rfl (fun ls hl => ?_)
                            refine lv_aload_n hx hb dL_law_940 rfl (lv_at hl 3 rfl) ?_
                            refine lv_aload_n hx hb dL_law_941 rfl (lv_at hl 1 rfl) ?_
                            refine lv_iload hx hb dL_law_942 (lv_at hl 5 rfl) ?_
                            refine lv_iconst (v := (1 : Int32)) hx hb dL_law_944 (by decide) ?_
                            refine lv_iadd hx hb dL_law_945 ?_
                            obtain ⟨h291, hf⟩ := gd_in hf
                            refine va_sld hx hb hX hbl hbA hS h291 dL_law_946 ?_
                            refine lv_aload_n hx hb dL_law_947 rfl (lv_at hl 1 rfl) ?_
                            refine lv_iload hx hb dL_law_948 (lv_at hl 5 rfl) ?_
                            refine lv_iconst (v := (2 : Int32)) hx hb dL_law_950 (by decide) ?_
                            refine lv_iadd hx hb dL_law_951 ?_
                            obtain ⟨h292, hf⟩ := gd_in hf
                            refine va_sld hx hb hX hbl hbA hS h292 dL_law_952 ?_
                            obtain ⟨r293, vM_294, hg295, hf⟩ := o2_at hf
                            refine k_viQ ⟨hx, hb, hml, hown, htu⟩ hK hP hD hS hA hG (c_X8_testBetween l g bM vM (xs ((x4 + (1 : Int32))).toNatClampNeg) (xs ((x4 + (2 : Int32))).toNatClampNeg) r293 vM_294 hg295) (cwV 2 htu (gU_V mw_6_194 hcX8_testBetween) rfl rfl rfl hdX8_testBetween ⟨Nat.le_of_ble_eq_true rfl, Nat.le_of_ble_eq_true rfl⟩) (q0 := 0) (ci := 8) (fs := fcM bM vM) (q := (RX8, TX8, 23)) rfl rfl rfl (wr := (cO g bO vO_285 ++ (cF g bF (bD 0) (bS 0) (bH 0 0) (bRF 0) (bRT 0) vF_286 ++ (cS g bS (bC 0) (bT 0) ++ (cC g bC vC ++ (cT g bT vT ++ (cR g bRT nRT (bG 0) (bB 0) vRT ++ (cL g bG vG ++ (cL g bB vB ++ (cR g bRF nRF (bGF 0) (bBF 0) vRF_287 ++ (cL g bGF vGF_288 ++ (cL g bBF vBF_289 ++ (cD g bD (bS2 0) vD ++ (cS g bS2 (bE 0) (bU 0) ++ (cC g bE vE ++ (cT g bU vU ++ (cH g bH vH))))))))))))))))) (w2 := cM g bM vM_294 ++ (cO g bO vO_285 ++ (cF g bF (bD 0) (bS 0) (bH 0 0) (bRF 0) (bRT 0) vF_286 ++ (cS g bS (bC 0) (bT 0) ++ (cC g bC vC ++ (cT g bT vT ++ (cR g bRT nRT (bG 0) (bB 0) vRT ++ (cL g bG vG ++ (cL g bB vB ++ (cR g bRF nRF (bGF 0) (bBF 0) vRF_287 ++ (cL g bGF vGF_288 ++ (cL g bBF vBF_289 ++ (cD g bD (bS2 0) vD ++ (cS g bS2 (bE 0) (bU 0) ++ (cC g bE vE ++ (cT g bU vU ++ (cH g bH vH))))))))))))))))) (kpc (fun P => by simp only [List.countP_append] <;> omega)) (kpc (fun P => by simp only [List.countP_append] <;> omega)) (As := [.int (xs ((x4 + (1 : Int32))).toNatClampNeg), .int (xs ((x4 + (2 : Int32))).toNatClampNeg)]) (rest := []) rfl rfl hl.1 (Nat.le_of_ble_eq_true rfl) dL_law_953 (k1 := cells + 1) (n1 := slots + 6) rfl rfl hcr (fun H locs hP hD hS => ?_)
                            refine lv_istore (lv' := [(6, .int r293), (5, .int r284), (0, .ref b), (1, .ref (bF 0)), (2, .ref (bM 0)), (3, .ref (bO 1)), (4, .int x4)]) hx hb dL_law_956 hl (by decide) rfl (fun ls hl => ?_)
                            refine lv_aload_n hx hb dL_law_958 rfl (lv_at hl 4 rfl) ?_
                            obtain ⟨r296, hg297, hf⟩ := o1_at hf
                            refine k_viQ ⟨hx, hb, hml, hown, htu⟩ hK hP hD hS hA hG (c_X8_thrown l g bM vM_294 r296 hg297) (cwV 0 htu (gU_V mw_5_143 hcX8_thrown) rfl rfl rfl hdX8_thrown ⟨Nat.le_of_ble_eq_true rfl, Nat.le_of_ble_eq_true rfl⟩) (q0 := 0) (ci := 8) (fs := fcM bM vM_294) (q := (RX8, TX8, 23)) rfl rfl rfl (wr := (cO g bO vO_285 ++ (cF g bF (bD 0) (bS 0) (bH 0 0) (bRF 0) (bRT 0) vF_286 ++ (cS g bS (bC 0) (bT 0) ++ (cC g bC vC ++ (cT g bT vT ++ (cR g bRT nRT (bG 0) (bB 0) vRT ++ (cL g bG vG ++ (cL g bB vB ++ (cR g bRF nRF (bGF 0) (bBF 0) vRF_287 ++ (cL g bGF vGF_288 ++ (cL g bBF vBF_289 ++ (cD g bD (bS2 0) vD ++ (cS g bS2 (bE 0) (bU 0) ++ (cC g bE vE ++ (cT g bU vU ++ (cH g bH vH))))))))))))))))) (w2 := cM g bM vM_294 ++ (cO g bO vO_285 ++ (cF g bF (bD 0) (bS 0) (bH 0 0) (bRF 0) (bRT 0) vF_286 ++ (cS g bS (bC 0) (bT 0) ++ (cC g bC vC ++ (cT g bT vT ++ (cR g bRT nRT (bG 0) (bB 0) vRT ++ (cL g bG vG ++ (cL g bB vB ++ (cR g bRF nRF (bGF 0) (bBF 0) vRF_287 ++ (cL g bGF vGF_288 ++ (cL g bBF vBF_289 ++ (cD g bD (bS2 0) vD ++ (cS g bS2 (bE 0) (bU 0) ++ (cC g bE vE ++ (cT g bU vU ++ (cH g bH vH))))))))))))))))) (kpc (fun P => by simp only [List.countP_append] <;> omega)) (kpc (fun P => by simp only [List.countP_append] <;> omega)) (As := []) (rest := []) rfl rfl hl.1 (Nat.le_of_ble_eq_true rfl) dL_law_959 (k1 := cells + 1) (n1 := slots + 6) rfl rfl hcr (fun H locs hP hD hS => ?_)
                            refine lv_iload hx hb dL_law_962 (lv_at hl 1 rfl) ?_
                            refine lv_icmp_eq (tgt := 969) hx hb dL_law_964 (by decide) (fun c298 => ?_) (fun c298 => ?_)
                            · have hf := it_t hf c298
                              refine lv_iload hx hb dL_law_969 (lv_at hl 1 rfl) ?_
                              obtain ⟨k299, hk301, hf⟩ := jn_at hf
                              have hJ300 : k299 = some () → ∀ (H : Heap) (locs : List Loc), va_P g.1 vwCl (cM g bM vM_294 ++ (cO g bO vO_285 ++ (cF g bF (bD 0) (bS 0) (bH 0 0) (bRF 0) (bRT 0) vF_286 ++ (cS g bS (bC 0) (bT 0) ++ (cC g bC vC ++ (cT g bT vT ++ (cR g bRT nRT (bG 0) (bB 0) vRT ++ (cL g bG vG ++ (cL g bB vB ++ (cR g bRF nRF (bGF 0) (bBF 0) vRF_287 ++ (cL g bGF vGF_288 ++ (cL g bBF vBF_289 ++ (cD g bD (bS2 0) vD ++ (cS g bS2 (bE 0) (bU 0) ++ (cC g bE vE ++ (cT g bU vU ++ (cH g bH vH))))))))))))))))) H → va_D A (cM g bM vM_294 ++ (cO g bO vO_285 ++ (cF g bF (bD 0) (bS 0) (bH 0 0) (bRF 0) (bRT 0) vF_286 ++ (cS g bS (bC 0) (bT 0) ++ (cC g bC vC ++ (cT g bT vT ++ (cR g bRT nRT (bG 0) (bB 0) vRT ++ (cL g bG vG ++ (cL g bB vB ++ (cR g bRF nRF (bGF 0) (bBF 0) vRF_287 ++ (cL g bGF vGF_288 ++ (cL g bBF vBF_289 ++ (cD g bD (bS2 0) vD ++ (cS g bS2 (bE 0) (bU 0) ++ (cC g bE vE ++ (cT g bU vU ++ (cH g bH vH))))))))))))))))) → va_S A s.heap H locs → ∀ ls : Array Slot, lv_has ls 9 [(0, .ref b), (1, .ref (bF 0)), (2, .ref (bM 0)), (3, .ref (bO 1)), (4, .int x4)] → W p l e room_1 s m args below meth c H locs (cells + 1) (slots + 6) Q (F0 m 986 ls []) := by
                                intro hf H locs hP hD hS ls hl
                                rw [hk301] at hf
                                clear hk301
                                refine lv_goto (tgt := 1532) hx hb dL_law_986 (by decide) ?_
                                refine W.widen (k := cells + 1) (n := slots + 6) (by omega) (by omega) ?_
                                exact hJ18 vM_294 vO_285 vF_286 vC vT vRT vG vB vRF_287 vGF_288 vBF_289 vD vE vU vH hf H locs hP hD hS _ (lv_sub hl [0, 1, 2, 3, 4] rfl)
                              refine lv_if_ne (tgt := 986) hx hb dL_law_971 (by decide) (fun c302 => ?_) (fun c302 => ?_)
                              · have hf := it_f hf c302
                                refine W.widen (k := cells + 1) (n := slots + 6) (by omega) (by omega) ?_
                                exact hJ300 hf H locs hP hD hS _ (lv_sub hl [2, 3, 4, 5, 6] rfl)
                              · have hf := it_t hf c302
                                refine lv_aload_n hx hb dL_law_974 rfl (lv_at hl 5 rfl) ?_
                                refine lv_iconst (v := (0 : Int32)) hx hb dL_law_975 (by decide) ?_
                                obtain ⟨h303, hf⟩ := gd_in hf
                                refine va_lald (D := g.1) (f := (vO_285.2.2 0)) hx hb hK hP 14 1 rfl rfl h303 dL_law_976 ?_
                                refine lv_iload hx hb dL_law_977 (lv_at hl 0 rfl) ?_
                                refine lv_i2l (v := (r293).toInt64) hx hb dL_law_979 rfl ?_
                                refine W.lcmp hx hb dL_law_980 ?_
                                refine lv_if_eq (tgt := 986) hx hb dL_law_981 (by decide) (fun c304 => ?_) (fun c304 => ?_)
                                · have hf := it_t hf c304
                                  refine W.widen (k := cells + 1) (n := slots + 6) (by omega) (by omega) ?_
                                  exact hJ300 hf H locs hP hD hS _ (lv_sub hl [2, 3, 4, 5, 6] rfl)
                                · have hf := it_f hf c304
                                  refine lv_iconst (v := (0 : Int32)) hx hb dL_law_984 (by decide) ?_
                                  cases hf
                            · have hf := it_f hf c298
                              refine lv_iconst (v := (0 : Int32)) hx hb dL_law_967 (by decide) ?_
                              cases hf
                          · have hf := it_f hf c281
                            by_cases c305 : ((xs (x4).toNatClampNeg) &&& (31 : Int32)) = (13 : Int32)
                            · have hf := it_t hf c305
                              refine lv_tableIn (off := 949) (tgt := 989) hx hb dL_law_40 (by rw [c305]; decide) (by rw [c305]; decide) (by rw [c305]; rfl) (by decide) ?_
                              refine lv_aload_n hx hb dL_law_989 rfl (lv_at hl 1 rfl) ?_
                              obtain ⟨r306, vF_307, vRF_308, vGF_309, vBF_310, hg311, hf⟩ := o5_at hf
                              refine k_viQ ⟨hx, hb, hml, hown, htu⟩ hK hP hD hS hA hG (c_X7_hidden l g bF (bD 0) (bH 0 0) (bRT 0) vF bS (bT 0) bC vC bRF nRF vRF bGF vGF bBF vBF r306 vF_307 vRF_308 vGF_309 vBF_310 hg311) (cwV 0 htu (gU_V mw_2_67 hcX7_hidden) rfl rfl rfl hdX7_hidden ⟨Nat.le_of_ble_eq_true rfl, Nat.le_of_ble_eq_true rfl⟩) (q0 := 15) (ci := 7) (fs := fcF bF (bD 0) (bS 0) (bH 0 0) (bRF 0) (bRT 0) vF) (q := (RX7, TX7, 12)) rfl rfl rfl (wr := (cM g bM vM ++ (cO g bO vO ++ (cT g bT vT ++ (cR g bRT nRT (bG 0) (bB 0) vRT ++ (cL g bG vG ++ (cL g bB vB ++ (cD g bD (bS2 0) vD ++ (cS g bS2 (bE 0) (bU 0) ++ (cC g bE vE ++ (cT g bU vU ++ (cH g bH vH)))))))))))) (w2 := cM g bM vM ++ (cO g bO vO ++ (cF g bF (bD 0) (bS 0) (bH 0 0) (bRF 0) (bRT 0) vF_307 ++ (cS g bS (bC 0) (bT 0) ++ (cC g bC vC ++ (cT g bT vT ++ (cR g bRT nRT (bG 0) (bB 0) vRT ++ (cL g bG vG ++ (cL g bB vB ++ (cR g bRF nRF (bGF 0) (bBF 0) vRF_308 ++ (cL g bGF vGF_309 ++ (cL g bBF vBF_310 ++ (cD g bD (bS2 0) vD ++ (cS g bS2 (bE 0) (bU 0) ++ (cC g bE vE ++ (cT g bU vU ++ (cH g bH vH))))))))))))))))) (kpc (fun P => by simp only [List.countP_append] <;> omega)) (kpc (fun P => by simp only [List.countP_append] <;> omega)) (As := []) (rest := []) rfl rfl hl.1 (Nat.le_of_ble_eq_true rfl) dL_law_990 (k1 := cells) (n1 := slots) rfl rfl hc0 (fun H locs hP hD hS => ?_)
                              refine lv_aload_n hx hb dL_law_993 rfl (lv_at hl 2 rfl) ?_
                              obtain ⟨r312, vM_313, hg314, hf⟩ := o2_at hf
                              refine k_viQ ⟨hx, hb, hml, hown, htu⟩ hK hP hD hS hA hG (c_X8_hidden l g bM vM r312 vM_313 hg314) (cwV 0 htu (gU_V mw_6_198 hcX8_hidden) rfl rfl rfl hdX8_hidden ⟨Nat.le_of_ble_eq_true rfl, Nat.le_of_ble_eq_true rfl⟩) (q0 := 0) (ci := 8) (fs := fcM bM vM) (q := (RX8, TX8, 23)) rfl rfl rfl (wr := (cO g bO vO ++ (cF g bF (bD 0) (bS 0) (bH 0 0) (bRF 0) (bRT 0) vF_307 ++ (cS g bS (bC 0) (bT 0) ++ (cC g bC vC ++ (cT g bT vT ++ (cR g bRT nRT (bG 0) (bB 0) vRT ++ (cL g bG vG ++ (cL g bB vB ++ (cR g bRF nRF (bGF 0) (bBF 0) vRF_308 ++ (cL g bGF vGF_309 ++ (cL g bBF vBF_310 ++ (cD g bD (bS2 0) vD ++ (cS g bS2 (bE 0) (bU 0) ++ (cC g bE vE ++ (cT g bU vU ++ (cH g bH vH))))))))))))))))) (w2 := cM g bM vM_313 ++ (cO g bO vO ++ (cF g bF (bD 0) (bS 0) (bH 0 0) (bRF 0) (bRT 0) vF_307 ++ (cS g bS (bC 0) (bT 0) ++ (cC g bC vC ++ (cT g bT vT ++ (cR g bRT nRT (bG 0) (bB 0) vRT ++ (cL g bG vG ++ (cL g bB vB ++ (cR g bRF nRF (bGF 0) (bBF 0) vRF_308 ++ (cL g bGF vGF_309 ++ (cL g bBF vBF_310 ++ (cD g bD (bS2 0) vD ++ (cS g bS2 (bE 0) (bU 0) ++ (cC g bE vE ++ (cT g bU vU ++ (cH g bH vH))))))))))))))))) (kpc (fun P => by simp only [List.countP_append] <;> omega)) (kpc (fun P => by simp only [List.countP_append] <;> omega)) (As := []) (rest := [.int r306]) rfl rfl hl.1 (Nat.le_of_ble_eq_true rfl) dL_law_994 (k1 := cells) (n1 := slots) rfl rfl hc0 (fun H locs hP hD hS => ?_)
                              refine lv_icmp_eq (tgt := 1532) hx hb dL_law_997 (by decide) (fun c315 => ?_) (fun c315 => ?_)
                              · have hf := it_t hf c315
                                refine W.widen (k := cells + 1) (n := slots + 6) (by omega) (by omega) ?_
                                exact hJ18 vM_313 vO vF_307 vC vT vRT vG vB vRF_308 vGF_309 vBF_310 vD vE vU vH hf H locs hP hD hS _ (lv_sub hl [0, 1, 2, 3, 4] rfl)
                              · have hf := it_f hf c315
                                refine lv_iconst (v := (0 : Int32)) hx hb dL_law_1000 (by decide) ?_
                                cases hf
                            · have hf := it_f hf c305
                              by_cases c316 : ((xs (x4).toNatClampNeg) &&& (31 : Int32)) = (14 : Int32)
                              · have hf := it_t hf c316
                                refine lv_tableIn (off := 962) (tgt := 1002) hx hb dL_law_40 (by rw [c316]; decide) (by rw [c316]; decide) (by rw [c316]; rfl) (by decide) ?_
                                refine lv_aload_n hx hb dL_law_1002 rfl (lv_at hl 1 rfl) ?_
                                refine lv_aload_n hx hb dL_law_1003 rfl (lv_at hl 0 rfl) ?_
                                refine lv_iload hx hb dL_law_1004 (lv_at hl 4 rfl) ?_
                                refine lv_iconst (v := (1 : Int32)) hx hb dL_law_1006 (by decide) ?_
                                refine lv_iadd hx hb dL_law_1007 ?_
                                obtain ⟨h317, hf⟩ := gd_in hf
                                refine va_sld hx hb hX hbl hbA hS h317 dL_law_1008 ?_
                                refine lv_aload_n hx hb dL_law_1009 rfl (lv_at hl 3 rfl) ?_
                                obtain ⟨r318, vO_319, vF_320, vRF_321, vGF_322, vBF_323, hg324, hf⟩ := o6_at hf
                                refine k_siHQ ⟨hx, hb, hml, hown, htu⟩ hK hP hD hS hA hG (h_L_alike l hst g bO vO bF (bD 0) (bH 0 0) (bRT 0) vF bS (bT 0) bC vC bRF nRF vRF bGF vGF bBF vBF (xs ((x4 + (1 : Int32))).toNatClampNeg) r318 vO_319 vF_320 vRF_321 vGF_322 vBF_323 hg324) (vx_cwSW 3 htu (gU_H mw_4_216 hcL_alike) rfl rfl rfl hdL_alike ⟨Nat.le_of_ble_eq_true rfl, Nat.le_of_ble_eq_true rfl⟩) (wr := (cM g bM vM ++ (cT g bT vT ++ (cR g bRT nRT (bG 0) (bB 0) vRT ++ (cL g bG vG ++ (cL g bB vB ++ (cD g bD (bS2 0) vD ++ (cS g bS2 (bE 0) (bU 0) ++ (cC g bE vE ++ (cT g bU vU ++ (cH g bH vH))))))))))) (w2 := cM g bM vM ++ (cO g bO vO_319 ++ (cF g bF (bD 0) (bS 0) (bH 0 0) (bRF 0) (bRT 0) vF_320 ++ (cS g bS (bC 0) (bT 0) ++ (cC g bC vC ++ (cT g bT vT ++ (cR g bRT nRT (bG 0) (bB 0) vRT ++ (cL g bG vG ++ (cL g bB vB ++ (cR g bRF nRF (bGF 0) (bBF 0) vRF_321 ++ (cL g bGF vGF_322 ++ (cL g bBF vBF_323 ++ (cD g bD (bS2 0) vD ++ (cS g bS2 (bE 0) (bU 0) ++ (cC g bE vE ++ (cT g bU vU ++ (cH g bH vH))))))))))))))))) (kpc (fun P => by simp only [List.countP_append] <;> omega)) (kpc (fun P => by simp only [List.countP_append] <;> omega)) (As := [.ref (bF 0), .int (xs ((x4 + (1 : Int32))).toNatClampNeg), .ref (bO 1)]) (rest := []) rfl rfl hl.1 (Nat.le_of_ble_eq_true rfl) dL_law_1010 (k1 := cells + 1) (n1 := slots + 6) rfl rfl hcr (fun H locs hP hD hS => ?_)
                                refine lv_istore (lv' := [(5, .int r318), (0, .ref b), (1, .ref (bF 0)), (2, .ref (bM 0)), (3, .ref (bO 1)), (4, .int x4)]) hx hb dL_law_1013 hl (by decide) rfl (fun ls hl => ?_)
                                refine lv_aload_n hx hb dL_law_1015 rfl (lv_at hl 3 rfl) ?_
                                refine lv_aload_n hx hb dL_law_1016 rfl (lv_at hl 1 rfl) ?_
                                refine lv_iload hx hb dL_law_1017 (lv_at hl 5 rfl) ?_
                                refine lv_iconst (v := (1 : Int32)) hx hb dL_law_1019 (by decide) ?_
                                refine lv_iadd hx hb dL_law_1020 ?_
                                obtain ⟨h325, hf⟩ := gd_in hf
                                refine va_sld hx hb hX hbl hbA hS h325 dL_law_1021 ?_
                                obtain ⟨r326, vM_327, hg328, hf⟩ := o2_at hf
                                refine k_viQ ⟨hx, hb, hml, hown, htu⟩ hK hP hD hS hA hG (c_X8_alike l g bM vM (xs ((x4 + (1 : Int32))).toNatClampNeg) r326 vM_327 hg328) (cwV 1 htu (gU_V mw_6_210 hcX8_alike) rfl rfl rfl hdX8_alike ⟨Nat.le_of_ble_eq_true rfl, Nat.le_of_ble_eq_true rfl⟩) (q0 := 0) (ci := 8) (fs := fcM bM vM) (q := (RX8, TX8, 23)) rfl rfl rfl (wr := (cO g bO vO_319 ++ (cF g bF (bD 0) (bS 0) (bH 0 0) (bRF 0) (bRT 0) vF_320 ++ (cS g bS (bC 0) (bT 0) ++ (cC g bC vC ++ (cT g bT vT ++ (cR g bRT nRT (bG 0) (bB 0) vRT ++ (cL g bG vG ++ (cL g bB vB ++ (cR g bRF nRF (bGF 0) (bBF 0) vRF_321 ++ (cL g bGF vGF_322 ++ (cL g bBF vBF_323 ++ (cD g bD (bS2 0) vD ++ (cS g bS2 (bE 0) (bU 0) ++ (cC g bE vE ++ (cT g bU vU ++ (cH g bH vH))))))))))))))))) (w2 := cM g bM vM_327 ++ (cO g bO vO_319 ++ (cF g bF (bD 0) (bS 0) (bH 0 0) (bRF 0) (bRT 0) vF_320 ++ (cS g bS (bC 0) (bT 0) ++ (cC g bC vC ++ (cT g bT vT ++ (cR g bRT nRT (bG 0) (bB 0) vRT ++ (cL g bG vG ++ (cL g bB vB ++ (cR g bRF nRF (bGF 0) (bBF 0) vRF_321 ++ (cL g bGF vGF_322 ++ (cL g bBF vBF_323 ++ (cD g bD (bS2 0) vD ++ (cS g bS2 (bE 0) (bU 0) ++ (cC g bE vE ++ (cT g bU vU ++ (cH g bH vH))))))))))))))))) (kpc (fun P => by simp only [List.countP_append] <;> omega)) (kpc (fun P => by simp only [List.countP_append] <;> omega)) (As := [.int (xs ((x4 + (1 : Int32))).toNatClampNeg)]) (rest := []) rfl rfl hl.1 (Nat.le_of_ble_eq_true rfl) dL_law_1022 (k1 := cells + 1) (n1 := slots + 6) rfl rfl hcr (fun H locs hP hD hS => ?_)
                                refine lv_istore (lv' := [(6, .int r326), (5, .int r318), (0, .ref b), (1, .ref (bF 0)), (2, .ref (bM 0)), (3, .ref (bO 1)), (4, .int x4)]) hx hb dL_law_1025 hl (by decide) rfl (fun ls hl => ?_)
                                refine lv_aload_n hx hb dL_law_1027 rfl (lv_at hl 4 rfl) ?_
                                obtain ⟨r329, hg330, hf⟩ := o1_at hf
                                refine k_viQ ⟨hx, hb, hml, hown, htu⟩ hK hP hD hS hA hG (c_X8_thrown l g bM vM_327 r329 hg330) (cwV 0 htu (gU_V mw_5_143 hcX8_thrown) rfl rfl rfl hdX8_thrown ⟨Nat.le_of_ble_eq_true rfl, Nat.le_of_ble_eq_true rfl⟩) (q0 := 0) (ci := 8) (fs := fcM bM vM_327) (q := (RX8, TX8, 23)) rfl rfl rfl (wr := (cO g bO vO_319 ++ (cF g bF (bD 0) (bS 0) (bH 0 0) (bRF 0) (bRT 0) vF_320 ++ (cS g bS (bC 0) (bT 0) ++ (cC g bC vC ++ (cT g bT vT ++ (cR g bRT nRT (bG 0) (bB 0) vRT ++ (cL g bG vG ++ (cL g bB vB ++ (cR g bRF nRF (bGF 0) (bBF 0) vRF_321 ++ (cL g bGF vGF_322 ++ (cL g bBF vBF_323 ++ (cD g bD (bS2 0) vD ++ (cS g bS2 (bE 0) (bU 0) ++ (cC g bE vE ++ (cT g bU vU ++ (cH g bH vH))))))))))))))))) (w2 := cM g bM vM_327 ++ (cO g bO vO_319 ++ (cF g bF (bD 0) (bS 0) (bH 0 0) (bRF 0) (bRT 0) vF_320 ++ (cS g bS (bC 0) (bT 0) ++ (cC g bC vC ++ (cT g bT vT ++ (cR g bRT nRT (bG 0) (bB 0) vRT ++ (cL g bG vG ++ (cL g bB vB ++ (cR g bRF nRF (bGF 0) (bBF 0) vRF_321 ++ (cL g bGF vGF_322 ++ (cL g bBF vBF_323 ++ (cD g bD (bS2 0) vD ++ (cS g bS2 (bE 0) (bU 0) ++ (cC g bE vE ++ (cT g bU vU ++ (cH g bH vH))))))))))))))))) (kpc (fun P => by simp only [List.countP_append] <;> omega)) (kpc (fun P => by simp only [List.countP_append] <;> omega)) (As := []) (rest := []) rfl rfl hl.1 (Nat.le_of_ble_eq_true rfl) dL_law_1028 (k1 := cells + 1) (n1 := slots + 6) rfl rfl hcr (fun H locs hP hD hS => ?_)
                                refine lv_iload hx hb dL_law_1031 (lv_at hl 1 rfl) ?_
                                refine lv_icmp_eq (tgt := 1038) hx hb dL_law_1033 (by decide) (fun c331 => ?_) (fun c331 => ?_)
                                · have hf := it_t hf c331
                                  refine lv_iload hx hb dL_law_1038 (lv_at hl 1 rfl) ?_
                                  obtain ⟨k332, hk334, hf⟩ := jn_at hf
                                  have hJ333 : k332 = some () → ∀ (H : Heap) (locs : List Loc), va_P g.1 vwCl (cM g bM vM_327 ++ (cO g bO vO_319 ++ (cF g bF (bD 0) (bS 0) (bH 0 0) (bRF 0) (bRT 0) vF_320 ++ (cS g bS (bC 0) (bT 0) ++ (cC g bC vC ++ (cT g bT vT ++ (cR g bRT nRT (bG 0) (bB 0) vRT ++ (cL g bG vG ++ (cL g bB vB ++ (cR g bRF nRF (bGF 0) (bBF 0) vRF_321 ++ (cL g bGF vGF_322 ++ (cL g bBF vBF_323 ++ (cD g bD (bS2 0) vD ++ (cS g bS2 (bE 0) (bU 0) ++ (cC g bE vE ++ (cT g bU vU ++ (cH g bH vH))))))))))))))))) H → va_D A (cM g bM vM_327 ++ (cO g bO vO_319 ++ (cF g bF (bD 0) (bS 0) (bH 0 0) (bRF 0) (bRT 0) vF_320 ++ (cS g bS (bC 0) (bT 0) ++ (cC g bC vC ++ (cT g bT vT ++ (cR g bRT nRT (bG 0) (bB 0) vRT ++ (cL g bG vG ++ (cL g bB vB ++ (cR g bRF nRF (bGF 0) (bBF 0) vRF_321 ++ (cL g bGF vGF_322 ++ (cL g bBF vBF_323 ++ (cD g bD (bS2 0) vD ++ (cS g bS2 (bE 0) (bU 0) ++ (cC g bE vE ++ (cT g bU vU ++ (cH g bH vH))))))))))))))))) → va_S A s.heap H locs → ∀ ls : Array Slot, lv_has ls 9 [(0, .ref b), (1, .ref (bF 0)), (2, .ref (bM 0)), (3, .ref (bO 1)), (4, .int x4)] → W p l e room_1 s m args below meth c H locs (cells + 1) (slots + 6) Q (F0 m 1055 ls []) := by
                                    intro hf H locs hP hD hS ls hl
                                    rw [hk334] at hf
                                    clear hk334
                                    refine lv_goto (tgt := 1532) hx hb dL_law_1055 (by decide) ?_
                                    refine W.widen (k := cells + 1) (n := slots + 6) (by omega) (by omega) ?_
                                    exact hJ18 vM_327 vO_319 vF_320 vC vT vRT vG vB vRF_321 vGF_322 vBF_323 vD vE vU vH hf H locs hP hD hS _ (lv_sub hl [0, 1, 2, 3, 4] rfl)
                                  refine lv_if_ne (tgt := 1055) hx hb dL_law_1040 (by decide) (fun c335 => ?_) (fun c335 => ?_)
                                  · have hf := it_f hf c335
                                    refine W.widen (k := cells + 1) (n := slots + 6) (by omega) (by omega) ?_
                                    exact hJ333 hf H locs hP hD hS _ (lv_sub hl [2, 3, 4, 5, 6] rfl)
                                  · have hf := it_t hf c335
                                    refine lv_aload_n hx hb dL_law_1043 rfl (lv_at hl 5 rfl) ?_
                                    refine lv_iconst (v := (0 : Int32)) hx hb dL_law_1044 (by decide) ?_
                                    obtain ⟨h336, hf⟩ := gd_in hf
                                    refine va_lald (D := g.1) (f := (vO_319.2.2 0)) hx hb hK hP 14 1 rfl rfl h336 dL_law_1045 ?_
                                    refine lv_iload hx hb dL_law_1046 (lv_at hl 0 rfl) ?_
                                    refine lv_i2l (v := (r326).toInt64) hx hb dL_law_1048 rfl ?_
                                    refine W.lcmp hx hb dL_law_1049 ?_
                                    refine lv_if_eq (tgt := 1055) hx hb dL_law_1050 (by decide) (fun c337 => ?_) (fun c337 => ?_)
                                    · have hf := it_t hf c337
                                      refine W.widen (k := cells + 1) (n := slots + 6) (by omega) (by omega) ?_
                                      exact hJ333 hf H locs hP hD hS _ (lv_sub hl [2, 3, 4, 5, 6] rfl)
                                    · have hf := it_f hf c337
                                      refine lv_iconst (v := (0 : Int32)) hx hb dL_law_1053 (by decide) ?_
                                      cases hf
                                · have hf := it_f hf c331
                                  refine lv_iconst (v := (0 : Int32)) hx hb dL_law_1036 (by decide) ?_
                                  cases hf
                              · have hf := it_f hf c316
                                by_cases c338 : ((xs (x4).toNatClampNeg) &&& (31 : Int32)) = (15 : Int32)
                                · have hf := it_t hf c338
                                  refine lv_tableIn (off := 1018) (tgt := 1058) hx hb dL_law_40 (by rw [c338]; decide) (by rw [c338]; decide) (by rw [c338]; rfl) (by decide) ?_
                                  refine lv_aload_n hx hb dL_law_1058 rfl (lv_at hl 1 rfl) ?_
                                  obtain ⟨r339, vF_340, vRF_341, vGF_342, vBF_343, hg344, hf⟩ := o5_at hf
                                  refine k_viQ ⟨hx, hb, hml, hown, htu⟩ hK hP hD hS hA hG (c_X7_classes l g bF (bD 0) (bH 0 0) (bRT 0) vF bS (bT 0) bC vC bRF nRF vRF bGF vGF bBF vBF r339 vF_340 vRF_341 vGF_342 vBF_343 hg344) (cwV 0 htu (gU_V mw_2_140 hcX7_classes) rfl rfl rfl hdX7_classes ⟨Nat.le_of_ble_eq_true rfl, Nat.le_of_ble_eq_true rfl⟩) (q0 := 15) (ci := 7) (fs := fcF bF (bD 0) (bS 0) (bH 0 0) (bRF 0) (bRT 0) vF) (q := (RX7, TX7, 12)) rfl rfl rfl (wr := (cM g bM vM ++ (cO g bO vO ++ (cT g bT vT ++ (cR g bRT nRT (bG 0) (bB 0) vRT ++ (cL g bG vG ++ (cL g bB vB ++ (cD g bD (bS2 0) vD ++ (cS g bS2 (bE 0) (bU 0) ++ (cC g bE vE ++ (cT g bU vU ++ (cH g bH vH)))))))))))) (w2 := cM g bM vM ++ (cO g bO vO ++ (cF g bF (bD 0) (bS 0) (bH 0 0) (bRF 0) (bRT 0) vF_340 ++ (cS g bS (bC 0) (bT 0) ++ (cC g bC vC ++ (cT g bT vT ++ (cR g bRT nRT (bG 0) (bB 0) vRT ++ (cL g bG vG ++ (cL g bB vB ++ (cR g bRF nRF (bGF 0) (bBF 0) vRF_341 ++ (cL g bGF vGF_342 ++ (cL g bBF vBF_343 ++ (cD g bD (bS2 0) vD ++ (cS g bS2 (bE 0) (bU 0) ++ (cC g bE vE ++ (cT g bU vU ++ (cH g bH vH))))))))))))))))) (kpc (fun P => by simp only [List.countP_append] <;> omega)) (kpc (fun P => by simp only [List.countP_append] <;> omega)) (As := []) (rest := []) rfl rfl hl.1 (Nat.le_of_ble_eq_true rfl) dL_law_1059 (k1 := cells) (n1 := slots) rfl rfl hc0 (fun H locs hP hD hS => ?_)
                                  refine lv_aload_n hx hb dL_law_1062 rfl (lv_at hl 2 rfl) ?_
                                  obtain ⟨r345, vM_346, hg347, hf⟩ := o2_at hf
                                  refine k_viQ ⟨hx, hb, hml, hown, htu⟩ hK hP hD hS hA hG (c_X8_classes l g bM vM r345 vM_346 hg347) (cwV 0 htu (gU_V mw_6_218 hcX8_classes) rfl rfl rfl hdX8_classes ⟨Nat.le_of_ble_eq_true rfl, Nat.le_of_ble_eq_true rfl⟩) (q0 := 0) (ci := 8) (fs := fcM bM vM) (q := (RX8, TX8, 23)) rfl rfl rfl (wr := (cO g bO vO ++ (cF g bF (bD 0) (bS 0) (bH 0 0) (bRF 0) (bRT 0) vF_340 ++ (cS g bS (bC 0) (bT 0) ++ (cC g bC vC ++ (cT g bT vT ++ (cR g bRT nRT (bG 0) (bB 0) vRT ++ (cL g bG vG ++ (cL g bB vB ++ (cR g bRF nRF (bGF 0) (bBF 0) vRF_341 ++ (cL g bGF vGF_342 ++ (cL g bBF vBF_343 ++ (cD g bD (bS2 0) vD ++ (cS g bS2 (bE 0) (bU 0) ++ (cC g bE vE ++ (cT g bU vU ++ (cH g bH vH))))))))))))))))) (w2 := cM g bM vM_346 ++ (cO g bO vO ++ (cF g bF (bD 0) (bS 0) (bH 0 0) (bRF 0) (bRT 0) vF_340 ++ (cS g bS (bC 0) (bT 0) ++ (cC g bC vC ++ (cT g bT vT ++ (cR g bRT nRT (bG 0) (bB 0) vRT ++ (cL g bG vG ++ (cL g bB vB ++ (cR g bRF nRF (bGF 0) (bBF 0) vRF_341 ++ (cL g bGF vGF_342 ++ (cL g bBF vBF_343 ++ (cD g bD (bS2 0) vD ++ (cS g bS2 (bE 0) (bU 0) ++ (cC g bE vE ++ (cT g bU vU ++ (cH g bH vH))))))))))))))))) (kpc (fun P => by simp only [List.countP_append] <;> omega)) (kpc (fun P => by simp only [List.countP_append] <;> omega)) (As := []) (rest := [.int r339]) rfl rfl hl.1 (Nat.le_of_ble_eq_true rfl) dL_law_1063 (k1 := cells) (n1 := slots) rfl rfl hc0 (fun H locs hP hD hS => ?_)
                                  refine lv_icmp_eq (tgt := 1532) hx hb dL_law_1066 (by decide) (fun c348 => ?_) (fun c348 => ?_)
                                  · have hf := it_t hf c348
                                    refine W.widen (k := cells + 1) (n := slots + 6) (by omega) (by omega) ?_
                                    exact hJ18 vM_346 vO vF_340 vC vT vRT vG vB vRF_341 vGF_342 vBF_343 vD vE vU vH hf H locs hP hD hS _ (lv_sub hl [0, 1, 2, 3, 4] rfl)
                                  · have hf := it_f hf c348
                                    refine lv_iconst (v := (0 : Int32)) hx hb dL_law_1069 (by decide) ?_
                                    cases hf
                                · have hf := it_f hf c338
                                  by_cases c349 : ((xs (x4).toNatClampNeg) &&& (31 : Int32)) = (16 : Int32)
                                  · have hf := it_t hf c349
                                    refine lv_tableIn (off := 1031) (tgt := 1071) hx hb dL_law_40 (by rw [c349]; decide) (by rw [c349]; decide) (by rw [c349]; rfl) (by decide) ?_
                                    refine lv_aload_n hx hb dL_law_1071 rfl (lv_at hl 1 rfl) ?_
                                    obtain ⟨r350, vF_351, vRT_352, vG_353, vB_354, vRF_355, vGF_356, vBF_357, hg358, hf⟩ := o8_at hf
                                    refine k_vdQ ⟨hx, hb, hml, hown, htu⟩ hK hP hD hS hA hG (c_X7_coverage l g bF (bD 0) (bH 0 0) vF bS bC vC bT vT bRT nRT vRT bG vG bB vB bRF nRF vRF bGF vGF bBF vBF r350 vF_351 vRT_352 vG_353 vB_354 vRF_355 vGF_356 vBF_357 hg358) (cwV 0 htu (gU_V mw_2_148 hcX7_coverage) rfl rfl rfl hdX7_coverage ⟨Nat.le_of_ble_eq_true rfl, Nat.le_of_ble_eq_true rfl⟩) (q0 := 15) (ci := 7) (fs := fcF bF (bD 0) (bS 0) (bH 0 0) (bRF 0) (bRT 0) vF) (q := (RX7, TX7, 12)) rfl rfl rfl (wr := (cM g bM vM ++ (cO g bO vO ++ (cD g bD (bS2 0) vD ++ (cS g bS2 (bE 0) (bU 0) ++ (cC g bE vE ++ (cT g bU vU ++ (cH g bH vH)))))))) (w2 := cM g bM vM ++ (cO g bO vO ++ (cF g bF (bD 0) (bS 0) (bH 0 0) (bRF 0) (bRT 0) vF_351 ++ (cS g bS (bC 0) (bT 0) ++ (cC g bC vC ++ (cT g bT vT ++ (cR g bRT nRT (bG 0) (bB 0) vRT_352 ++ (cL g bG vG_353 ++ (cL g bB vB_354 ++ (cR g bRF nRF (bGF 0) (bBF 0) vRF_355 ++ (cL g bGF vGF_356 ++ (cL g bBF vBF_357 ++ (cD g bD (bS2 0) vD ++ (cS g bS2 (bE 0) (bU 0) ++ (cC g bE vE ++ (cT g bU vU ++ (cH g bH vH))))))))))))))))) (kpc (fun P => by simp only [List.countP_append] <;> omega)) (kpc (fun P => by simp only [List.countP_append] <;> omega)) (As := []) (rest := []) rfl rfl hl.1 (Nat.le_of_ble_eq_true rfl) dL_law_1072 (k1 := cells) (n1 := slots) rfl rfl hc0 (fun H locs hP hD hS => ?_)
                                    refine lv_dstore (lv' := [(5, .double r350), (0, .ref b), (1, .ref (bF 0)), (2, .ref (bM 0)), (3, .ref (bO 1)), (4, .int x4)]) hx hb dL_law_1075 hl (by decide) rfl (fun ls hl => ?_)
                                    refine lv_aload_n hx hb dL_law_1077 rfl (lv_at hl 3 rfl) ?_
                                    obtain ⟨r359, vM_360, hg361, hf⟩ := o2_at hf
                                    refine k_vdQ ⟨hx, hb, hml, hown, htu⟩ hK hP hD hS hA hG (c_X8_coverage l g bM vM r359 vM_360 hg361) (cwV 0 htu (gU_V mw_6_222 hcX8_coverage) rfl rfl rfl hdX8_coverage ⟨Nat.le_of_ble_eq_true rfl, Nat.le_of_ble_eq_true rfl⟩) (q0 := 0) (ci := 8) (fs := fcM bM vM) (q := (RX8, TX8, 23)) rfl rfl rfl (wr := (cO g bO vO ++ (cF g bF (bD 0) (bS 0) (bH 0 0) (bRF 0) (bRT 0) vF_351 ++ (cS g bS (bC 0) (bT 0) ++ (cC g bC vC ++ (cT g bT vT ++ (cR g bRT nRT (bG 0) (bB 0) vRT_352 ++ (cL g bG vG_353 ++ (cL g bB vB_354 ++ (cR g bRF nRF (bGF 0) (bBF 0) vRF_355 ++ (cL g bGF vGF_356 ++ (cL g bBF vBF_357 ++ (cD g bD (bS2 0) vD ++ (cS g bS2 (bE 0) (bU 0) ++ (cC g bE vE ++ (cT g bU vU ++ (cH g bH vH))))))))))))))))) (w2 := cM g bM vM_360 ++ (cO g bO vO ++ (cF g bF (bD 0) (bS 0) (bH 0 0) (bRF 0) (bRT 0) vF_351 ++ (cS g bS (bC 0) (bT 0) ++ (cC g bC vC ++ (cT g bT vT ++ (cR g bRT nRT (bG 0) (bB 0) vRT_352 ++ (cL g bG vG_353 ++ (cL g bB vB_354 ++ (cR g bRF nRF (bGF 0) (bBF 0) vRF_355 ++ (cL g bGF vGF_356 ++ (cL g bBF vBF_357 ++ (cD g bD (bS2 0) vD ++ (cS g bS2 (bE 0) (bU 0) ++ (cC g bE vE ++ (cT g bU vU ++ (cH g bH vH))))))))))))))))) (kpc (fun P => by simp only [List.countP_append] <;> omega)) (kpc (fun P => by simp only [List.countP_append] <;> omega)) (As := []) (rest := []) rfl rfl hl.1 (Nat.le_of_ble_eq_true rfl) dL_law_1078 (k1 := cells) (n1 := slots) rfl rfl hc0 (fun H locs hP hD hS => ?_)
                                    refine lv_dstore (lv' := [(7, .double r359), (5, .double r350), (0, .ref b), (1, .ref (bF 0)), (2, .ref (bM 0)), (3, .ref (bO 1)), (4, .int x4)]) hx hb dL_law_1081 hl (by decide) rfl (fun ls hl => ?_)
                                    refine lv_dload hx hb dL_law_1083 (lv_at hl 1 rfl) ?_
                                    refine lv_dload hx hb dL_law_1085 (lv_at hl 0 rfl) ?_
                                    refine lv_dcmp hx hb dL_law_1087 ?_
                                    obtain ⟨k362, hk364, hf⟩ := jn_at hf
                                    have hJ363 : k362 = some () → ∀ (H : Heap) (locs : List Loc), va_P g.1 vwCl (cM g bM vM_360 ++ (cO g bO vO ++ (cF g bF (bD 0) (bS 0) (bH 0 0) (bRF 0) (bRT 0) vF_351 ++ (cS g bS (bC 0) (bT 0) ++ (cC g bC vC ++ (cT g bT vT ++ (cR g bRT nRT (bG 0) (bB 0) vRT_352 ++ (cL g bG vG_353 ++ (cL g bB vB_354 ++ (cR g bRF nRF (bGF 0) (bBF 0) vRF_355 ++ (cL g bGF vGF_356 ++ (cL g bBF vBF_357 ++ (cD g bD (bS2 0) vD ++ (cS g bS2 (bE 0) (bU 0) ++ (cC g bE vE ++ (cT g bU vU ++ (cH g bH vH))))))))))))))))) H → va_D A (cM g bM vM_360 ++ (cO g bO vO ++ (cF g bF (bD 0) (bS 0) (bH 0 0) (bRF 0) (bRT 0) vF_351 ++ (cS g bS (bC 0) (bT 0) ++ (cC g bC vC ++ (cT g bT vT ++ (cR g bRT nRT (bG 0) (bB 0) vRT_352 ++ (cL g bG vG_353 ++ (cL g bB vB_354 ++ (cR g bRF nRF (bGF 0) (bBF 0) vRF_355 ++ (cL g bGF vGF_356 ++ (cL g bBF vBF_357 ++ (cD g bD (bS2 0) vD ++ (cS g bS2 (bE 0) (bU 0) ++ (cC g bE vE ++ (cT g bU vU ++ (cH g bH vH))))))))))))))))) → va_S A s.heap H locs → ∀ ls : Array Slot, lv_has ls 9 [(0, .ref b), (1, .ref (bF 0)), (2, .ref (bM 0)), (3, .ref (bO 1)), (4, .int x4)] → W p l e room_1 s m args below meth c H locs (cells + 1) (slots + 6) Q (F0 m 1109 ls []) := by
                                      intro hf H locs hP hD hS ls hl
                                      rw [hk364] at hf
                                      clear hk364
                                      refine lv_goto (tgt := 1532) hx hb dL_law_1109 (by decide) ?_
                                      refine W.widen (k := cells + 1) (n := slots + 6) (by omega) (by omega) ?_
                                      exact hJ18 vM_360 vO vF_351 vC vT vRT_352 vG_353 vB_354 vRF_355 vGF_356 vBF_357 vD vE vU vH hf H locs hP hD hS _ (lv_sub hl [0, 1, 2, 3, 4] rfl)
                                    refine lv_if_eq (tgt := 1109) hx hb dL_law_1088 (by decide) (fun c365 => ?_) (fun c365 => ?_)
                                    · have hf := it_t hf c365
                                      refine W.widen (k := cells + 1) (n := slots + 6) (by omega) (by omega) ?_
                                      exact hJ363 hf H locs hP hD hS _ (lv_sub hl [2, 3, 4, 5, 6] rfl)
                                    · have hf := it_f hf c365
                                      refine lv_dload hx hb dL_law_1091 (lv_at hl 1 rfl) ?_
                                      refine lv_dload hx hb dL_law_1093 (lv_at hl 1 rfl) ?_
                                      refine lv_dcmp hx hb dL_law_1095 ?_
                                      obtain ⟨k366, hk368, hf⟩ := jn_at hf
                                      have hJ367 : k366 = some () → ∀ (H : Heap) (locs : List Loc), va_P g.1 vwCl (cM g bM vM_360 ++ (cO g bO vO ++ (cF g bF (bD 0) (bS 0) (bH 0 0) (bRF 0) (bRT 0) vF_351 ++ (cS g bS (bC 0) (bT 0) ++ (cC g bC vC ++ (cT g bT vT ++ (cR g bRT nRT (bG 0) (bB 0) vRT_352 ++ (cL g bG vG_353 ++ (cL g bB vB_354 ++ (cR g bRF nRF (bGF 0) (bBF 0) vRF_355 ++ (cL g bGF vGF_356 ++ (cL g bBF vBF_357 ++ (cD g bD (bS2 0) vD ++ (cS g bS2 (bE 0) (bU 0) ++ (cC g bE vE ++ (cT g bU vU ++ (cH g bH vH))))))))))))))))) H → va_D A (cM g bM vM_360 ++ (cO g bO vO ++ (cF g bF (bD 0) (bS 0) (bH 0 0) (bRF 0) (bRT 0) vF_351 ++ (cS g bS (bC 0) (bT 0) ++ (cC g bC vC ++ (cT g bT vT ++ (cR g bRT nRT (bG 0) (bB 0) vRT_352 ++ (cL g bG vG_353 ++ (cL g bB vB_354 ++ (cR g bRF nRF (bGF 0) (bBF 0) vRF_355 ++ (cL g bGF vGF_356 ++ (cL g bBF vBF_357 ++ (cD g bD (bS2 0) vD ++ (cS g bS2 (bE 0) (bU 0) ++ (cC g bE vE ++ (cT g bU vU ++ (cH g bH vH))))))))))))))))) → va_S A s.heap H locs → ∀ ls : Array Slot, lv_has ls 9 [(0, .ref b), (1, .ref (bF 0)), (2, .ref (bM 0)), (3, .ref (bO 1)), (4, .int x4)] → W p l e room_1 s m args below meth c H locs (cells + 1) (slots + 6) Q (F0 m 1107 ls []) := by
                                        intro hf H locs hP hD hS ls hl
                                        rw [hk368] at hf
                                        clear hk368
                                        refine lv_iconst (v := (0 : Int32)) hx hb dL_law_1107 (by decide) ?_
                                        cases hf
                                      refine lv_if_eq (tgt := 1107) hx hb dL_law_1096 (by decide) (fun c369 => ?_) (fun c369 => ?_)
                                      · have hf := it_t hf c369
                                        refine W.widen (k := cells + 1) (n := slots + 6) (by omega) (by omega) ?_
                                        exact hJ367 hf H locs hP hD hS _ (lv_sub hl [2, 3, 4, 5, 6] rfl)
                                      · have hf := it_f hf c369
                                        refine lv_dload hx hb dL_law_1099 (lv_at hl 0 rfl) ?_
                                        refine lv_dload hx hb dL_law_1101 (lv_at hl 0 rfl) ?_
                                        refine lv_dcmp hx hb dL_law_1103 ?_
                                        refine lv_if_ne (tgt := 1109) hx hb dL_law_1104 (by decide) (fun c370 => ?_) (fun c370 => ?_)
                                        · have hf := it_f hf c370
                                          refine W.widen (k := cells + 1) (n := slots + 6) (by omega) (by omega) ?_
                                          exact hJ363 hf H locs hP hD hS _ (lv_sub hl [2, 3, 4, 5, 6] rfl)
                                        · have hf := it_t hf c370
                                          refine W.widen (k := cells + 1) (n := slots + 6) (by omega) (by omega) ?_
                                          exact hJ367 hf H locs hP hD hS _ (lv_sub hl [2, 3, 4, 5, 6] rfl)
                                  · have hf := it_f hf c349
                                    by_cases c371 : ((xs (x4).toNatClampNeg) &&& (31 : Int32)) = (17 : Int32)
                                    · have hf := it_t hf c371
                                      refine lv_tableIn (off := 1072) (tgt := 1112) hx hb dL_law_40 (by rw [c371]; decide) (by rw [c371]; decide) (by rw [c371]; rfl) (by decide) ?_
                                      refine lv_aload_n hx hb dL_law_1112 rfl (lv_at hl 1 rfl) ?_
                                      obtain ⟨r372, vF_373, vRT_374, vG_375, vB_376, hg377, hf⟩ := o5_at hf
                                      refine k_viQ ⟨hx, hb, hml, hown, htu⟩ hK hP hD hS hA hG (c_X7_leastSet l g bF (bD 0) (bH 0 0) (bRF 0) vF bS bC vC bT vT bRT nRT vRT bG vG bB vB r372 vF_373 vRT_374 vG_375 vB_376 hg377) (cwV 0 htu (gU_V mw_2_172 hcX7_leastSet) rfl rfl rfl hdX7_leastSet ⟨Nat.le_of_ble_eq_true rfl, Nat.le_of_ble_eq_true rfl⟩) (q0 := 15) (ci := 7) (fs := fcF bF (bD 0) (bS 0) (bH 0 0) (bRF 0) (bRT 0) vF) (q := (RX7, TX7, 12)) rfl rfl rfl (wr := (cM g bM vM ++ (cO g bO vO ++ (cR g bRF nRF (bGF 0) (bBF 0) vRF ++ (cL g bGF vGF ++ (cL g bBF vBF ++ (cD g bD (bS2 0) vD ++ (cS g bS2 (bE 0) (bU 0) ++ (cC g bE vE ++ (cT g bU vU ++ (cH g bH vH))))))))))) (w2 := cM g bM vM ++ (cO g bO vO ++ (cF g bF (bD 0) (bS 0) (bH 0 0) (bRF 0) (bRT 0) vF_373 ++ (cS g bS (bC 0) (bT 0) ++ (cC g bC vC ++ (cT g bT vT ++ (cR g bRT nRT (bG 0) (bB 0) vRT_374 ++ (cL g bG vG_375 ++ (cL g bB vB_376 ++ (cR g bRF nRF (bGF 0) (bBF 0) vRF ++ (cL g bGF vGF ++ (cL g bBF vBF ++ (cD g bD (bS2 0) vD ++ (cS g bS2 (bE 0) (bU 0) ++ (cC g bE vE ++ (cT g bU vU ++ (cH g bH vH))))))))))))))))) (kpc (fun P => by simp only [List.countP_append] <;> omega)) (kpc (fun P => by simp only [List.countP_append] <;> omega)) (As := []) (rest := []) rfl rfl hl.1 (Nat.le_of_ble_eq_true rfl) dL_law_1113 (k1 := cells) (n1 := slots) rfl rfl hc0 (fun H locs hP hD hS => ?_)
                                      refine lv_aload_n hx hb dL_law_1116 rfl (lv_at hl 2 rfl) ?_
                                      obtain ⟨r378, vM_379, hg380, hf⟩ := o2_at hf
                                      refine k_viQ ⟨hx, hb, hml, hown, htu⟩ hK hP hD hS hA hG (c_X8_leastSet l g bM vM r378 vM_379 hg380) (cwV 0 htu (gU_V mw_6_226 hcX8_leastSet) rfl rfl rfl hdX8_leastSet ⟨Nat.le_of_ble_eq_true rfl, Nat.le_of_ble_eq_true rfl⟩) (q0 := 0) (ci := 8) (fs := fcM bM vM) (q := (RX8, TX8, 23)) rfl rfl rfl (wr := (cO g bO vO ++ (cF g bF (bD 0) (bS 0) (bH 0 0) (bRF 0) (bRT 0) vF_373 ++ (cS g bS (bC 0) (bT 0) ++ (cC g bC vC ++ (cT g bT vT ++ (cR g bRT nRT (bG 0) (bB 0) vRT_374 ++ (cL g bG vG_375 ++ (cL g bB vB_376 ++ (cR g bRF nRF (bGF 0) (bBF 0) vRF ++ (cL g bGF vGF ++ (cL g bBF vBF ++ (cD g bD (bS2 0) vD ++ (cS g bS2 (bE 0) (bU 0) ++ (cC g bE vE ++ (cT g bU vU ++ (cH g bH vH))))))))))))))))) (w2 := cM g bM vM_379 ++ (cO g bO vO ++ (cF g bF (bD 0) (bS 0) (bH 0 0) (bRF 0) (bRT 0) vF_373 ++ (cS g bS (bC 0) (bT 0) ++ (cC g bC vC ++ (cT g bT vT ++ (cR g bRT nRT (bG 0) (bB 0) vRT_374 ++ (cL g bG vG_375 ++ (cL g bB vB_376 ++ (cR g bRF nRF (bGF 0) (bBF 0) vRF ++ (cL g bGF vGF ++ (cL g bBF vBF ++ (cD g bD (bS2 0) vD ++ (cS g bS2 (bE 0) (bU 0) ++ (cC g bE vE ++ (cT g bU vU ++ (cH g bH vH))))))))))))))))) (kpc (fun P => by simp only [List.countP_append] <;> omega)) (kpc (fun P => by simp only [List.countP_append] <;> omega)) (As := []) (rest := [.int r372]) rfl rfl hl.1 (Nat.le_of_ble_eq_true rfl) dL_law_1117 (k1 := cells) (n1 := slots) rfl rfl hc0 (fun H locs hP hD hS => ?_)
                                      refine lv_icmp_eq (tgt := 1532) hx hb dL_law_1120 (by decide) (fun c381 => ?_) (fun c381 => ?_)
                                      · have hf := it_t hf c381
                                        refine W.widen (k := cells + 1) (n := slots + 6) (by omega) (by omega) ?_
                                        exact hJ18 vM_379 vO vF_373 vC vT vRT_374 vG_375 vB_376 vRF vGF vBF vD vE vU vH hf H locs hP hD hS _ (lv_sub hl [0, 1, 2, 3, 4] rfl)
                                      · have hf := it_f hf c381
                                        refine lv_iconst (v := (0 : Int32)) hx hb dL_law_1123 (by decide) ?_
                                        cases hf
                                    · have hf := it_f hf c371
                                      by_cases c382 : ((xs (x4).toNatClampNeg) &&& (31 : Int32)) = (18 : Int32)
                                      · have hf := it_t hf c382
                                        refine lv_tableIn (off := 1085) (tgt := 1125) hx hb dL_law_40 (by rw [c382]; decide) (by rw [c382]; decide) (by rw [c382]; rfl) (by decide) ?_
                                        refine lv_aload_n hx hb dL_law_1125 rfl (lv_at hl 1 rfl) ?_
                                        obtain ⟨r383, vF_384, vRT_385, vG_386, vB_387, hg388, hf⟩ := o5_at hf
                                        refine k_viQ ⟨hx, hb, hml, hown, htu⟩ hK hP hD hS hA hG (c_X7_suspects l g bF (bD 0) (bH 0 0) (bRF 0) vF bS bC vC bT vT bRT nRT vRT bG vG bB vB r383 vF_384 vRT_385 vG_386 vB_387 hg388) (cwV 0 htu (gU_V mw_2_180 hcX7_suspects) rfl rfl rfl hdX7_suspects ⟨Nat.le_of_ble_eq_true rfl, Nat.le_of_ble_eq_true rfl⟩) (q0 := 15) (ci := 7) (fs := fcF bF (bD 0) (bS 0) (bH 0 0) (bRF 0) (bRT 0) vF) (q := (RX7, TX7, 12)) rfl rfl rfl (wr := (cM g bM vM ++ (cO g bO vO ++ (cR g bRF nRF (bGF 0) (bBF 0) vRF ++ (cL g bGF vGF ++ (cL g bBF vBF ++ (cD g bD (bS2 0) vD ++ (cS g bS2 (bE 0) (bU 0) ++ (cC g bE vE ++ (cT g bU vU ++ (cH g bH vH))))))))))) (w2 := cM g bM vM ++ (cO g bO vO ++ (cF g bF (bD 0) (bS 0) (bH 0 0) (bRF 0) (bRT 0) vF_384 ++ (cS g bS (bC 0) (bT 0) ++ (cC g bC vC ++ (cT g bT vT ++ (cR g bRT nRT (bG 0) (bB 0) vRT_385 ++ (cL g bG vG_386 ++ (cL g bB vB_387 ++ (cR g bRF nRF (bGF 0) (bBF 0) vRF ++ (cL g bGF vGF ++ (cL g bBF vBF ++ (cD g bD (bS2 0) vD ++ (cS g bS2 (bE 0) (bU 0) ++ (cC g bE vE ++ (cT g bU vU ++ (cH g bH vH))))))))))))))))) (kpc (fun P => by simp only [List.countP_append] <;> omega)) (kpc (fun P => by simp only [List.countP_append] <;> omega)) (As := []) (rest := []) rfl rfl hl.1 (Nat.le_of_ble_eq_true rfl) dL_law_1126 (k1 := cells) (n1 := slots) rfl rfl hc0 (fun H locs hP hD hS => ?_)
                                        refine lv_aload_n hx hb dL_law_1129 rfl (lv_at hl 2 rfl) ?_
                                        obtain ⟨r389, vM_390, hg391, hf⟩ := o2_at hf
                                        refine k_viQ ⟨hx, hb, hml, hown, htu⟩ hK hP hD hS hA hG (c_X8_suspects l g bM vM r389 vM_390 hg391) (cwV 0 htu (gU_V mw_6_237 hcX8_suspects) rfl rfl rfl hdX8_suspects ⟨Nat.le_of_ble_eq_true rfl, Nat.le_of_ble_eq_true rfl⟩) (q0 := 0) (ci := 8) (fs := fcM bM vM) (q := (RX8, TX8, 23)) rfl rfl rfl (wr := (cO g bO vO ++ (cF g bF (bD 0) (bS 0) (bH 0 0) (bRF 0) (bRT 0) vF_384 ++ (cS g bS (bC 0) (bT 0) ++ (cC g bC vC ++ (cT g bT vT ++ (cR g bRT nRT (bG 0) (bB 0) vRT_385 ++ (cL g bG vG_386 ++ (cL g bB vB_387 ++ (cR g bRF nRF (bGF 0) (bBF 0) vRF ++ (cL g bGF vGF ++ (cL g bBF vBF ++ (cD g bD (bS2 0) vD ++ (cS g bS2 (bE 0) (bU 0) ++ (cC g bE vE ++ (cT g bU vU ++ (cH g bH vH))))))))))))))))) (w2 := cM g bM vM_390 ++ (cO g bO vO ++ (cF g bF (bD 0) (bS 0) (bH 0 0) (bRF 0) (bRT 0) vF_384 ++ (cS g bS (bC 0) (bT 0) ++ (cC g bC vC ++ (cT g bT vT ++ (cR g bRT nRT (bG 0) (bB 0) vRT_385 ++ (cL g bG vG_386 ++ (cL g bB vB_387 ++ (cR g bRF nRF (bGF 0) (bBF 0) vRF ++ (cL g bGF vGF ++ (cL g bBF vBF ++ (cD g bD (bS2 0) vD ++ (cS g bS2 (bE 0) (bU 0) ++ (cC g bE vE ++ (cT g bU vU ++ (cH g bH vH))))))))))))))))) (kpc (fun P => by simp only [List.countP_append] <;> omega)) (kpc (fun P => by simp only [List.countP_append] <;> omega)) (As := []) (rest := [.int r383]) rfl rfl hl.1 (Nat.le_of_ble_eq_true rfl) dL_law_1130 (k1 := cells) (n1 := slots) rfl rfl hc0 (fun H locs hP hD hS => ?_)
                                        refine lv_icmp_eq (tgt := 1532) hx hb dL_law_1133 (by decide) (fun c392 => ?_) (fun c392 => ?_)
                                        · have hf := it_t hf c392
                                          refine W.widen (k := cells + 1) (n := slots + 6) (by omega) (by omega) ?_
                                          exact hJ18 vM_390 vO vF_384 vC vT vRT_385 vG_386 vB_387 vRF vGF vBF vD vE vU vH hf H locs hP hD hS _ (lv_sub hl [0, 1, 2, 3, 4] rfl)
                                        · have hf := it_f hf c392
                                          refine lv_iconst (v := (0 : Int32)) hx hb dL_law_1136 (by decide) ?_
                                          cases hf
                                      · have hf := it_f hf c382
                                        by_cases c393 : ((xs (x4).toNatClampNeg) &&& (31 : Int32)) = (19 : Int32)
                                        · have hf := it_t hf c393
                                          refine lv_tableIn (off := 1098) (tgt := 1138) hx hb dL_law_40 (by rw [c393]; decide) (by rw [c393]; decide) (by rw [c393]; rfl) (by decide) ?_
                                          refine lv_aload_n hx hb dL_law_1138 rfl (lv_at hl 1 rfl) ?_
                                          refine lv_aload_n hx hb dL_law_1139 rfl (lv_at hl 0 rfl) ?_
                                          refine lv_iload hx hb dL_law_1140 (lv_at hl 4 rfl) ?_
                                          refine lv_iconst (v := (1 : Int32)) hx hb dL_law_1142 (by decide) ?_
                                          refine lv_iadd hx hb dL_law_1143 ?_
                                          obtain ⟨h394, hf⟩ := gd_in hf
                                          refine va_sld hx hb hX hbl hbA hS h394 dL_law_1144 ?_
                                          refine lv_aload_n hx hb dL_law_1145 rfl (lv_at hl 3 rfl) ?_
                                          obtain ⟨r395, vO_396, vF_397, vRT_398, vG_399, vB_400, hg401, hf⟩ := o6_at hf
                                          refine k_siHQ ⟨hx, hb, hml, hown, htu⟩ hK hP hD hS hA hG (h_L_suspect l hst g bO vO bF (bD 0) (bH 0 0) (bRF 0) vF bS bC vC bT vT bRT nRT vRT bG vG bB vB (xs ((x4 + (1 : Int32))).toNatClampNeg) r395 vO_396 vF_397 vRT_398 vG_399 vB_400 hg401) (vx_cwSW 3 htu (gU_H mw_4_223 hcL_suspect) rfl rfl rfl hdL_suspect ⟨Nat.le_of_ble_eq_true rfl, Nat.le_of_ble_eq_true rfl⟩) (wr := (cM g bM vM ++ (cR g bRF nRF (bGF 0) (bBF 0) vRF ++ (cL g bGF vGF ++ (cL g bBF vBF ++ (cD g bD (bS2 0) vD ++ (cS g bS2 (bE 0) (bU 0) ++ (cC g bE vE ++ (cT g bU vU ++ (cH g bH vH)))))))))) (w2 := cM g bM vM ++ (cO g bO vO_396 ++ (cF g bF (bD 0) (bS 0) (bH 0 0) (bRF 0) (bRT 0) vF_397 ++ (cS g bS (bC 0) (bT 0) ++ (cC g bC vC ++ (cT g bT vT ++ (cR g bRT nRT (bG 0) (bB 0) vRT_398 ++ (cL g bG vG_399 ++ (cL g bB vB_400 ++ (cR g bRF nRF (bGF 0) (bBF 0) vRF ++ (cL g bGF vGF ++ (cL g bBF vBF ++ (cD g bD (bS2 0) vD ++ (cS g bS2 (bE 0) (bU 0) ++ (cC g bE vE ++ (cT g bU vU ++ (cH g bH vH))))))))))))))))) (kpc (fun P => by simp only [List.countP_append] <;> omega)) (kpc (fun P => by simp only [List.countP_append] <;> omega)) (As := [.ref (bF 0), .int (xs ((x4 + (1 : Int32))).toNatClampNeg), .ref (bO 1)]) (rest := []) rfl rfl hl.1 (Nat.le_of_ble_eq_true rfl) dL_law_1146 (k1 := cells + 1) (n1 := slots + 6) rfl rfl hcr (fun H locs hP hD hS => ?_)
                                          refine lv_istore (lv' := [(5, .int r395), (0, .ref b), (1, .ref (bF 0)), (2, .ref (bM 0)), (3, .ref (bO 1)), (4, .int x4)]) hx hb dL_law_1149 hl (by decide) rfl (fun ls hl => ?_)
                                          refine lv_aload_n hx hb dL_law_1151 rfl (lv_at hl 3 rfl) ?_
                                          refine lv_aload_n hx hb dL_law_1152 rfl (lv_at hl 1 rfl) ?_
                                          refine lv_iload hx hb dL_law_1153 (lv_at hl 5 rfl) ?_
                                          refine lv_iconst (v := (1 : Int32)) hx hb dL_law_1155 (by decide) ?_
                                          refine lv_iadd hx hb dL_law_1156 ?_
                                          obtain ⟨h402, hf⟩ := gd_in hf
                                          refine va_sld hx hb hX hbl hbA hS h402 dL_law_1157 ?_
                                          obtain ⟨r403, vM_404, hg405, hf⟩ := o2_at hf
                                          refine k_viQ ⟨hx, hb, hml, hown, htu⟩ hK hP hD hS hA hG (c_X8_suspect l g bM vM (xs ((x4 + (1 : Int32))).toNatClampNeg) r403 vM_404 hg405) (cwV 1 htu (gU_V mw_7_13 hcX8_suspect) rfl rfl rfl hdX8_suspect ⟨Nat.le_of_ble_eq_true rfl, Nat.le_of_ble_eq_true rfl⟩) (q0 := 0) (ci := 8) (fs := fcM bM vM) (q := (RX8, TX8, 23)) rfl rfl rfl (wr := (cO g bO vO_396 ++ (cF g bF (bD 0) (bS 0) (bH 0 0) (bRF 0) (bRT 0) vF_397 ++ (cS g bS (bC 0) (bT 0) ++ (cC g bC vC ++ (cT g bT vT ++ (cR g bRT nRT (bG 0) (bB 0) vRT_398 ++ (cL g bG vG_399 ++ (cL g bB vB_400 ++ (cR g bRF nRF (bGF 0) (bBF 0) vRF ++ (cL g bGF vGF ++ (cL g bBF vBF ++ (cD g bD (bS2 0) vD ++ (cS g bS2 (bE 0) (bU 0) ++ (cC g bE vE ++ (cT g bU vU ++ (cH g bH vH))))))))))))))))) (w2 := cM g bM vM_404 ++ (cO g bO vO_396 ++ (cF g bF (bD 0) (bS 0) (bH 0 0) (bRF 0) (bRT 0) vF_397 ++ (cS g bS (bC 0) (bT 0) ++ (cC g bC vC ++ (cT g bT vT ++ (cR g bRT nRT (bG 0) (bB 0) vRT_398 ++ (cL g bG vG_399 ++ (cL g bB vB_400 ++ (cR g bRF nRF (bGF 0) (bBF 0) vRF ++ (cL g bGF vGF ++ (cL g bBF vBF ++ (cD g bD (bS2 0) vD ++ (cS g bS2 (bE 0) (bU 0) ++ (cC g bE vE ++ (cT g bU vU ++ (cH g bH vH))))))))))))))))) (kpc (fun P => by simp only [List.countP_append] <;> omega)) (kpc (fun P => by simp only [List.countP_append] <;> omega)) (As := [.int (xs ((x4 + (1 : Int32))).toNatClampNeg)]) (rest := []) rfl rfl hl.1 (Nat.le_of_ble_eq_true rfl) dL_law_1158 (k1 := cells + 1) (n1 := slots + 6) rfl rfl hcr (fun H locs hP hD hS => ?_)
                                          refine lv_istore (lv' := [(6, .int r403), (5, .int r395), (0, .ref b), (1, .ref (bF 0)), (2, .ref (bM 0)), (3, .ref (bO 1)), (4, .int x4)]) hx hb dL_law_1161 hl (by decide) rfl (fun ls hl => ?_)
                                          refine lv_aload_n hx hb dL_law_1163 rfl (lv_at hl 4 rfl) ?_
                                          obtain ⟨r406, hg407, hf⟩ := o1_at hf
                                          refine k_viQ ⟨hx, hb, hml, hown, htu⟩ hK hP hD hS hA hG (c_X8_thrown l g bM vM_404 r406 hg407) (cwV 0 htu (gU_V mw_5_143 hcX8_thrown) rfl rfl rfl hdX8_thrown ⟨Nat.le_of_ble_eq_true rfl, Nat.le_of_ble_eq_true rfl⟩) (q0 := 0) (ci := 8) (fs := fcM bM vM_404) (q := (RX8, TX8, 23)) rfl rfl rfl (wr := (cO g bO vO_396 ++ (cF g bF (bD 0) (bS 0) (bH 0 0) (bRF 0) (bRT 0) vF_397 ++ (cS g bS (bC 0) (bT 0) ++ (cC g bC vC ++ (cT g bT vT ++ (cR g bRT nRT (bG 0) (bB 0) vRT_398 ++ (cL g bG vG_399 ++ (cL g bB vB_400 ++ (cR g bRF nRF (bGF 0) (bBF 0) vRF ++ (cL g bGF vGF ++ (cL g bBF vBF ++ (cD g bD (bS2 0) vD ++ (cS g bS2 (bE 0) (bU 0) ++ (cC g bE vE ++ (cT g bU vU ++ (cH g bH vH))))))))))))))))) (w2 := cM g bM vM_404 ++ (cO g bO vO_396 ++ (cF g bF (bD 0) (bS 0) (bH 0 0) (bRF 0) (bRT 0) vF_397 ++ (cS g bS (bC 0) (bT 0) ++ (cC g bC vC ++ (cT g bT vT ++ (cR g bRT nRT (bG 0) (bB 0) vRT_398 ++ (cL g bG vG_399 ++ (cL g bB vB_400 ++ (cR g bRF nRF (bGF 0) (bBF 0) vRF ++ (cL g bGF vGF ++ (cL g bBF vBF ++ (cD g bD (bS2 0) vD ++ (cS g bS2 (bE 0) (bU 0) ++ (cC g bE vE ++ (cT g bU vU ++ (cH g bH vH))))))))))))))))) (kpc (fun P => by simp only [List.countP_append] <;> omega)) (kpc (fun P => by simp only [List.countP_append] <;> omega)) (As := []) (rest := []) rfl rfl hl.1 (Nat.le_of_ble_eq_true rfl) dL_law_1164 (k1 := cells + 1) (n1 := slots + 6) rfl rfl hcr (fun H locs hP hD hS => ?_)
                                          refine lv_iload hx hb dL_law_1167 (lv_at hl 1 rfl) ?_
                                          refine lv_icmp_eq (tgt := 1174) hx hb dL_law_1169 (by decide) (fun c408 => ?_) (fun c408 => ?_)
                                          · have hf := it_t hf c408
                                            refine lv_iload hx hb dL_law_1174 (lv_at hl 1 rfl) ?_
                                            obtain ⟨k409, hk411, hf⟩ := jn_at hf
                                            have hJ410 : k409 = some () → ∀ (H : Heap) (locs : List Loc), va_P g.1 vwCl (cM g bM vM_404 ++ (cO g bO vO_396 ++ (cF g bF (bD 0) (bS 0) (bH 0 0) (bRF 0) (bRT 0) vF_397 ++ (cS g bS (bC 0) (bT 0) ++ (cC g bC vC ++ (cT g bT vT ++ (cR g bRT nRT (bG 0) (bB 0) vRT_398 ++ (cL g bG vG_399 ++ (cL g bB vB_400 ++ (cR g bRF nRF (bGF 0) (bBF 0) vRF ++ (cL g bGF vGF ++ (cL g bBF vBF ++ (cD g bD (bS2 0) vD ++ (cS g bS2 (bE 0) (bU 0) ++ (cC g bE vE ++ (cT g bU vU ++ (cH g bH vH))))))))))))))))) H → va_D A (cM g bM vM_404 ++ (cO g bO vO_396 ++ (cF g bF (bD 0) (bS 0) (bH 0 0) (bRF 0) (bRT 0) vF_397 ++ (cS g bS (bC 0) (bT 0) ++ (cC g bC vC ++ (cT g bT vT ++ (cR g bRT nRT (bG 0) (bB 0) vRT_398 ++ (cL g bG vG_399 ++ (cL g bB vB_400 ++ (cR g bRF nRF (bGF 0) (bBF 0) vRF ++ (cL g bGF vGF ++ (cL g bBF vBF ++ (cD g bD (bS2 0) vD ++ (cS g bS2 (bE 0) (bU 0) ++ (cC g bE vE ++ (cT g bU vU ++ (cH g bH vH))))))))))))))))) → va_S A s.heap H locs → ∀ ls : Array Slot, lv_has ls 9 [(0, .ref b), (1, .ref (bF 0)), (2, .ref (bM 0)), (3, .ref (bO 1)), (4, .int x4)] → W p l e room_1 s m args below meth c H locs (cells + 1) (slots + 6) Q (F0 m 1191 ls []) := by
                                              intro hf H locs hP hD hS ls hl
                                              rw [hk411] at hf
                                              clear hk411
                                              refine lv_goto (tgt := 1532) hx hb dL_law_1191 (by decide) ?_
                                              refine W.widen (k := cells + 1) (n := slots + 6) (by omega) (by omega) ?_
                                              exact hJ18 vM_404 vO_396 vF_397 vC vT vRT_398 vG_399 vB_400 vRF vGF vBF vD vE vU vH hf H locs hP hD hS _ (lv_sub hl [0, 1, 2, 3, 4] rfl)
                                            refine lv_if_ne (tgt := 1191) hx hb dL_law_1176 (by decide) (fun c412 => ?_) (fun c412 => ?_)
                                            · have hf := it_f hf c412
                                              refine W.widen (k := cells + 1) (n := slots + 6) (by omega) (by omega) ?_
                                              exact hJ410 hf H locs hP hD hS _ (lv_sub hl [2, 3, 4, 5, 6] rfl)
                                            · have hf := it_t hf c412
                                              refine lv_aload_n hx hb dL_law_1179 rfl (lv_at hl 5 rfl) ?_
                                              refine lv_iconst (v := (0 : Int32)) hx hb dL_law_1180 (by decide) ?_
                                              obtain ⟨h413, hf⟩ := gd_in hf
                                              refine va_lald (D := g.1) (f := (vO_396.2.2 0)) hx hb hK hP 14 1 rfl rfl h413 dL_law_1181 ?_
                                              refine lv_iload hx hb dL_law_1182 (lv_at hl 0 rfl) ?_
                                              refine lv_i2l (v := (r403).toInt64) hx hb dL_law_1184 rfl ?_
                                              refine W.lcmp hx hb dL_law_1185 ?_
                                              refine lv_if_eq (tgt := 1191) hx hb dL_law_1186 (by decide) (fun c414 => ?_) (fun c414 => ?_)
                                              · have hf := it_t hf c414
                                                refine W.widen (k := cells + 1) (n := slots + 6) (by omega) (by omega) ?_
                                                exact hJ410 hf H locs hP hD hS _ (lv_sub hl [2, 3, 4, 5, 6] rfl)
                                              · have hf := it_f hf c414
                                                refine lv_iconst (v := (0 : Int32)) hx hb dL_law_1189 (by decide) ?_
                                                cases hf
                                          · have hf := it_f hf c408
                                            refine lv_iconst (v := (0 : Int32)) hx hb dL_law_1172 (by decide) ?_
                                            cases hf
                                        · have hf := it_f hf c393
                                          by_cases c415 : ((xs (x4).toNatClampNeg) &&& (31 : Int32)) = (20 : Int32)
                                          · have hf := it_t hf c415
                                            refine lv_tableIn (off := 1154) (tgt := 1194) hx hb dL_law_40 (by rw [c415]; decide) (by rw [c415]; decide) (by rw [c415]; rfl) (by decide) ?_
                                            refine lv_aload_n hx hb dL_law_1194 rfl (lv_at hl 1 rfl) ?_
                                            obtain ⟨r416, vF_417, vRT_418, vG_419, vB_420, hg421, hf⟩ := o5_at hf
                                            refine k_viQ ⟨hx, hb, hml, hown, htu⟩ hK hP hD hS hA hG (c_X7_nextTest l g bF (bD 0) (bH 0 0) (bRF 0) vF bS bC vC bT vT bRT nRT vRT bG vG bB vB r416 vF_417 vRT_418 vG_419 vB_420 hg421) (cwV 0 htu (gU_V mw_2_193 hcX7_nextTest) rfl rfl rfl hdX7_nextTest ⟨Nat.le_of_ble_eq_true rfl, Nat.le_of_ble_eq_true rfl⟩) (q0 := 15) (ci := 7) (fs := fcF bF (bD 0) (bS 0) (bH 0 0) (bRF 0) (bRT 0) vF) (q := (RX7, TX7, 12)) rfl rfl rfl (wr := (cM g bM vM ++ (cO g bO vO ++ (cR g bRF nRF (bGF 0) (bBF 0) vRF ++ (cL g bGF vGF ++ (cL g bBF vBF ++ (cD g bD (bS2 0) vD ++ (cS g bS2 (bE 0) (bU 0) ++ (cC g bE vE ++ (cT g bU vU ++ (cH g bH vH))))))))))) (w2 := cM g bM vM ++ (cO g bO vO ++ (cF g bF (bD 0) (bS 0) (bH 0 0) (bRF 0) (bRT 0) vF_417 ++ (cS g bS (bC 0) (bT 0) ++ (cC g bC vC ++ (cT g bT vT ++ (cR g bRT nRT (bG 0) (bB 0) vRT_418 ++ (cL g bG vG_419 ++ (cL g bB vB_420 ++ (cR g bRF nRF (bGF 0) (bBF 0) vRF ++ (cL g bGF vGF ++ (cL g bBF vBF ++ (cD g bD (bS2 0) vD ++ (cS g bS2 (bE 0) (bU 0) ++ (cC g bE vE ++ (cT g bU vU ++ (cH g bH vH))))))))))))))))) (kpc (fun P => by simp only [List.countP_append] <;> omega)) (kpc (fun P => by simp only [List.countP_append] <;> omega)) (As := []) (rest := []) rfl rfl hl.1 (Nat.le_of_ble_eq_true rfl) dL_law_1195 (k1 := cells) (n1 := slots) rfl rfl hc0 (fun H locs hP hD hS => ?_)
                                            refine lv_aload_n hx hb dL_law_1198 rfl (lv_at hl 2 rfl) ?_
                                            obtain ⟨r422, vM_423, hg424, hf⟩ := o2_at hf
                                            refine k_viQ ⟨hx, hb, hml, hown, htu⟩ hK hP hD hS hA hG (c_X8_nextTest l g bM vM r422 vM_423 hg424) (cwV 0 htu (gU_V mw_7_17 hcX8_nextTest) rfl rfl rfl hdX8_nextTest ⟨Nat.le_of_ble_eq_true rfl, Nat.le_of_ble_eq_true rfl⟩) (q0 := 0) (ci := 8) (fs := fcM bM vM) (q := (RX8, TX8, 23)) rfl rfl rfl (wr := (cO g bO vO ++ (cF g bF (bD 0) (bS 0) (bH 0 0) (bRF 0) (bRT 0) vF_417 ++ (cS g bS (bC 0) (bT 0) ++ (cC g bC vC ++ (cT g bT vT ++ (cR g bRT nRT (bG 0) (bB 0) vRT_418 ++ (cL g bG vG_419 ++ (cL g bB vB_420 ++ (cR g bRF nRF (bGF 0) (bBF 0) vRF ++ (cL g bGF vGF ++ (cL g bBF vBF ++ (cD g bD (bS2 0) vD ++ (cS g bS2 (bE 0) (bU 0) ++ (cC g bE vE ++ (cT g bU vU ++ (cH g bH vH))))))))))))))))) (w2 := cM g bM vM_423 ++ (cO g bO vO ++ (cF g bF (bD 0) (bS 0) (bH 0 0) (bRF 0) (bRT 0) vF_417 ++ (cS g bS (bC 0) (bT 0) ++ (cC g bC vC ++ (cT g bT vT ++ (cR g bRT nRT (bG 0) (bB 0) vRT_418 ++ (cL g bG vG_419 ++ (cL g bB vB_420 ++ (cR g bRF nRF (bGF 0) (bBF 0) vRF ++ (cL g bGF vGF ++ (cL g bBF vBF ++ (cD g bD (bS2 0) vD ++ (cS g bS2 (bE 0) (bU 0) ++ (cC g bE vE ++ (cT g bU vU ++ (cH g bH vH))))))))))))))))) (kpc (fun P => by simp only [List.countP_append] <;> omega)) (kpc (fun P => by simp only [List.countP_append] <;> omega)) (As := []) (rest := [.int r416]) rfl rfl hl.1 (Nat.le_of_ble_eq_true rfl) dL_law_1199 (k1 := cells) (n1 := slots) rfl rfl hc0 (fun H locs hP hD hS => ?_)
                                            refine lv_icmp_eq (tgt := 1532) hx hb dL_law_1202 (by decide) (fun c425 => ?_) (fun c425 => ?_)
                                            · have hf := it_t hf c425
                                              refine W.widen (k := cells + 1) (n := slots + 6) (by omega) (by omega) ?_
                                              exact hJ18 vM_423 vO vF_417 vC vT vRT_418 vG_419 vB_420 vRF vGF vBF vD vE vU vH hf H locs hP hD hS _ (lv_sub hl [0, 1, 2, 3, 4] rfl)
                                            · have hf := it_f hf c425
                                              refine lv_iconst (v := (0 : Int32)) hx hb dL_law_1205 (by decide) ?_
                                              cases hf
                                          · have hf := it_f hf c415
                                            by_cases c426 : ((xs (x4).toNatClampNeg) &&& (31 : Int32)) = (21 : Int32)
                                            · have hf := it_t hf c426
                                              refine lv_tableIn (off := 1167) (tgt := 1207) hx hb dL_law_40 (by rw [c426]; decide) (by rw [c426]; decide) (by rw [c426]; rfl) (by decide) ?_
                                              refine lv_aload_n hx hb dL_law_1207 rfl (lv_at hl 1 rfl) ?_
                                              refine lv_aload_n hx hb dL_law_1208 rfl (lv_at hl 0 rfl) ?_
                                              refine lv_iload hx hb dL_law_1209 (lv_at hl 4 rfl) ?_
                                              refine lv_iconst (v := (1 : Int32)) hx hb dL_law_1211 (by decide) ?_
                                              refine lv_iadd hx hb dL_law_1212 ?_
                                              obtain ⟨h427, hf⟩ := gd_in hf
                                              refine va_sld hx hb hX hbl hbA hS h427 dL_law_1213 ?_
                                              refine lv_aload_n hx hb dL_law_1214 rfl (lv_at hl 0 rfl) ?_
                                              refine lv_iload hx hb dL_law_1215 (lv_at hl 4 rfl) ?_
                                              refine lv_iconst (v := (2 : Int32)) hx hb dL_law_1217 (by decide) ?_
                                              refine lv_iadd hx hb dL_law_1218 ?_
                                              obtain ⟨h428, hf⟩ := gd_in hf
                                              refine va_sld hx hb hX hbl hbA hS h428 dL_law_1219 ?_
                                              refine lv_aload_n hx hb dL_law_1220 rfl (lv_at hl 3 rfl) ?_
                                              obtain ⟨r429, vO_430, vF_431, vT_432, vH_433, hg434, hf⟩ := o5_at hf
                                              refine k_siHQ ⟨hx, hb, hml, hown, htu⟩ hK hP hD hS hA hG (h_L_addTest l hst g bO vO bF (bD 0) (bRF 0) (bRT 0) vF bS bC vC bT vT bH vH (xs ((x4 + (1 : Int32))).toNatClampNeg) (xs ((x4 + (2 : Int32))).toNatClampNeg) r429 vO_430 vF_431 vT_432 vH_433 hg434) (vx_cwSW 4 htu (gU_H mw_4_231 hcL_addTest) rfl rfl rfl hdL_addTest ⟨Nat.le_of_ble_eq_true rfl, Nat.le_of_ble_eq_true rfl⟩) (wr := (cM g bM vM ++ (cR g bRT nRT (bG 0) (bB 0) vRT ++ (cL g bG vG ++ (cL g bB vB ++ (cR g bRF nRF (bGF 0) (bBF 0) vRF ++ (cL g bGF vGF ++ (cL g bBF vBF ++ (cD g bD (bS2 0) vD ++ (cS g bS2 (bE 0) (bU 0) ++ (cC g bE vE ++ (cT g bU vU)))))))))))) (w2 := cM g bM vM ++ (cO g bO vO_430 ++ (cF g bF (bD 0) (bS 0) (bH 0 0) (bRF 0) (bRT 0) vF_431 ++ (cS g bS (bC 0) (bT 0) ++ (cC g bC vC ++ (cT g bT vT_432 ++ (cR g bRT nRT (bG 0) (bB 0) vRT ++ (cL g bG vG ++ (cL g bB vB ++ (cR g bRF nRF (bGF 0) (bBF 0) vRF ++ (cL g bGF vGF ++ (cL g bBF vBF ++ (cD g bD (bS2 0) vD ++ (cS g bS2 (bE 0) (bU 0) ++ (cC g bE vE ++ (cT g bU vU ++ (cH g bH vH_433))))))))))))))))) (kpc (fun P => by simp only [List.countP_append] <;> omega)) (kpc (fun P => by simp only [List.countP_append] <;> omega)) (As := [.ref (bF 0), .int (xs ((x4 + (1 : Int32))).toNatClampNeg), .int (xs ((x4 + (2 : Int32))).toNatClampNeg), .ref (bO 1)]) (rest := []) rfl rfl hl.1 (Nat.le_of_ble_eq_true rfl) dL_law_1221 (k1 := cells + 1) (n1 := slots + 6) rfl rfl hcr (fun H locs hP hD hS => ?_)
                                              refine lv_istore (lv' := [(5, .int r429), (0, .ref b), (1, .ref (bF 0)), (2, .ref (bM 0)), (3, .ref (bO 1)), (4, .int x4)]) hx hb dL_law_1224 hl (by decide) rfl (fun ls hl => ?_)
                                              refine lv_aload_n hx hb dL_law_1226 rfl (lv_at hl 3 rfl) ?_
                                              refine lv_aload_n hx hb dL_law_1227 rfl (lv_at hl 1 rfl) ?_
                                              refine lv_iload hx hb dL_law_1228 (lv_at hl 5 rfl) ?_
                                              refine lv_iconst (v := (1 : Int32)) hx hb dL_law_1230 (by decide) ?_
                                              refine lv_iadd hx hb dL_law_1231 ?_
                                              obtain ⟨h435, hf⟩ := gd_in hf
                                              refine va_sld hx hb hX hbl hbA hS h435 dL_law_1232 ?_
                                              refine lv_aload_n hx hb dL_law_1233 rfl (lv_at hl 1 rfl) ?_
                                              refine lv_iload hx hb dL_law_1234 (lv_at hl 5 rfl) ?_
                                              refine lv_iconst (v := (2 : Int32)) hx hb dL_law_1236 (by decide) ?_
                                              refine lv_iadd hx hb dL_law_1237 ?_
                                              obtain ⟨h436, hf⟩ := gd_in hf
                                              refine va_sld hx hb hX hbl hbA hS h436 dL_law_1238 ?_
                                              obtain ⟨r437, vM_438, hg439, hf⟩ := o2_at hf
                                              refine k_viQ ⟨hx, hb, hml, hown, htu⟩ hK hP hD hS hA hG (c_X8_addTest l g bM vM (xs ((x4 + (1 : Int32))).toNatClampNeg) (xs ((x4 + (2 : Int32))).toNatClampNeg) r437 vM_438 hg439) (cwV 2 htu (gU_V mw_7_25 hcX8_addTest) rfl rfl rfl hdX8_addTest ⟨Nat.le_of_ble_eq_true rfl, Nat.le_of_ble_eq_true rfl⟩) (q0 := 0) (ci := 8) (fs := fcM bM vM) (q := (RX8, TX8, 23)) rfl rfl rfl (wr := (cO g bO vO_430 ++ (cF g bF (bD 0) (bS 0) (bH 0 0) (bRF 0) (bRT 0) vF_431 ++ (cS g bS (bC 0) (bT 0) ++ (cC g bC vC ++ (cT g bT vT_432 ++ (cR g bRT nRT (bG 0) (bB 0) vRT ++ (cL g bG vG ++ (cL g bB vB ++ (cR g bRF nRF (bGF 0) (bBF 0) vRF ++ (cL g bGF vGF ++ (cL g bBF vBF ++ (cD g bD (bS2 0) vD ++ (cS g bS2 (bE 0) (bU 0) ++ (cC g bE vE ++ (cT g bU vU ++ (cH g bH vH_433))))))))))))))))) (w2 := cM g bM vM_438 ++ (cO g bO vO_430 ++ (cF g bF (bD 0) (bS 0) (bH 0 0) (bRF 0) (bRT 0) vF_431 ++ (cS g bS (bC 0) (bT 0) ++ (cC g bC vC ++ (cT g bT vT_432 ++ (cR g bRT nRT (bG 0) (bB 0) vRT ++ (cL g bG vG ++ (cL g bB vB ++ (cR g bRF nRF (bGF 0) (bBF 0) vRF ++ (cL g bGF vGF ++ (cL g bBF vBF ++ (cD g bD (bS2 0) vD ++ (cS g bS2 (bE 0) (bU 0) ++ (cC g bE vE ++ (cT g bU vU ++ (cH g bH vH_433))))))))))))))))) (kpc (fun P => by simp only [List.countP_append] <;> omega)) (kpc (fun P => by simp only [List.countP_append] <;> omega)) (As := [.int (xs ((x4 + (1 : Int32))).toNatClampNeg), .int (xs ((x4 + (2 : Int32))).toNatClampNeg)]) (rest := []) rfl rfl hl.1 (Nat.le_of_ble_eq_true rfl) dL_law_1239 (k1 := cells + 1) (n1 := slots + 6) rfl rfl hcr (fun H locs hP hD hS => ?_)
                                              refine lv_istore (lv' := [(6, .int r437), (5, .int r429), (0, .ref b), (1, .ref (bF 0)), (2, .ref (bM 0)), (3, .ref (bO 1)), (4, .int x4)]) hx hb dL_law_1242 hl (by decide) rfl (fun ls hl => ?_)
                                              refine lv_aload_n hx hb dL_law_1244 rfl (lv_at hl 4 rfl) ?_
                                              obtain ⟨r440, hg441, hf⟩ := o1_at hf
                                              refine k_viQ ⟨hx, hb, hml, hown, htu⟩ hK hP hD hS hA hG (c_X8_thrown l g bM vM_438 r440 hg441) (cwV 0 htu (gU_V mw_5_143 hcX8_thrown) rfl rfl rfl hdX8_thrown ⟨Nat.le_of_ble_eq_true rfl, Nat.le_of_ble_eq_true rfl⟩) (q0 := 0) (ci := 8) (fs := fcM bM vM_438) (q := (RX8, TX8, 23)) rfl rfl rfl (wr := (cO g bO vO_430 ++ (cF g bF (bD 0) (bS 0) (bH 0 0) (bRF 0) (bRT 0) vF_431 ++ (cS g bS (bC 0) (bT 0) ++ (cC g bC vC ++ (cT g bT vT_432 ++ (cR g bRT nRT (bG 0) (bB 0) vRT ++ (cL g bG vG ++ (cL g bB vB ++ (cR g bRF nRF (bGF 0) (bBF 0) vRF ++ (cL g bGF vGF ++ (cL g bBF vBF ++ (cD g bD (bS2 0) vD ++ (cS g bS2 (bE 0) (bU 0) ++ (cC g bE vE ++ (cT g bU vU ++ (cH g bH vH_433))))))))))))))))) (w2 := cM g bM vM_438 ++ (cO g bO vO_430 ++ (cF g bF (bD 0) (bS 0) (bH 0 0) (bRF 0) (bRT 0) vF_431 ++ (cS g bS (bC 0) (bT 0) ++ (cC g bC vC ++ (cT g bT vT_432 ++ (cR g bRT nRT (bG 0) (bB 0) vRT ++ (cL g bG vG ++ (cL g bB vB ++ (cR g bRF nRF (bGF 0) (bBF 0) vRF ++ (cL g bGF vGF ++ (cL g bBF vBF ++ (cD g bD (bS2 0) vD ++ (cS g bS2 (bE 0) (bU 0) ++ (cC g bE vE ++ (cT g bU vU ++ (cH g bH vH_433))))))))))))))))) (kpc (fun P => by simp only [List.countP_append] <;> omega)) (kpc (fun P => by simp only [List.countP_append] <;> omega)) (As := []) (rest := []) rfl rfl hl.1 (Nat.le_of_ble_eq_true rfl) dL_law_1245 (k1 := cells + 1) (n1 := slots + 6) rfl rfl hcr (fun H locs hP hD hS => ?_)
                                              refine lv_iload hx hb dL_law_1248 (lv_at hl 1 rfl) ?_
                                              refine lv_icmp_eq (tgt := 1255) hx hb dL_law_1250 (by decide) (fun c442 => ?_) (fun c442 => ?_)
                                              · have hf := it_t hf c442
                                                refine lv_iload hx hb dL_law_1255 (lv_at hl 1 rfl) ?_
                                                obtain ⟨k443, hk445, hf⟩ := jn_at hf
                                                have hJ444 : k443 = some () → ∀ (H : Heap) (locs : List Loc), va_P g.1 vwCl (cM g bM vM_438 ++ (cO g bO vO_430 ++ (cF g bF (bD 0) (bS 0) (bH 0 0) (bRF 0) (bRT 0) vF_431 ++ (cS g bS (bC 0) (bT 0) ++ (cC g bC vC ++ (cT g bT vT_432 ++ (cR g bRT nRT (bG 0) (bB 0) vRT ++ (cL g bG vG ++ (cL g bB vB ++ (cR g bRF nRF (bGF 0) (bBF 0) vRF ++ (cL g bGF vGF ++ (cL g bBF vBF ++ (cD g bD (bS2 0) vD ++ (cS g bS2 (bE 0) (bU 0) ++ (cC g bE vE ++ (cT g bU vU ++ (cH g bH vH_433))))))))))))))))) H → va_D A (cM g bM vM_438 ++ (cO g bO vO_430 ++ (cF g bF (bD 0) (bS 0) (bH 0 0) (bRF 0) (bRT 0) vF_431 ++ (cS g bS (bC 0) (bT 0) ++ (cC g bC vC ++ (cT g bT vT_432 ++ (cR g bRT nRT (bG 0) (bB 0) vRT ++ (cL g bG vG ++ (cL g bB vB ++ (cR g bRF nRF (bGF 0) (bBF 0) vRF ++ (cL g bGF vGF ++ (cL g bBF vBF ++ (cD g bD (bS2 0) vD ++ (cS g bS2 (bE 0) (bU 0) ++ (cC g bE vE ++ (cT g bU vU ++ (cH g bH vH_433))))))))))))))))) → va_S A s.heap H locs → ∀ ls : Array Slot, lv_has ls 9 [(0, .ref b), (1, .ref (bF 0)), (2, .ref (bM 0)), (3, .ref (bO 1)), (4, .int x4)] → W p l e room_1 s m args below meth c H locs (cells + 1) (slots + 6) Q (F0 m 1272 ls []) := by
                                                  intro hf H locs hP hD hS ls hl
                                                  rw [hk445] at hf
                                                  clear hk445
                                                  refine lv_goto (tgt := 1532) hx hb dL_law_1272 (by decide) ?_
                                                  refine W.widen (k := cells + 1) (n := slots + 6) (by omega) (by omega) ?_
                                                  exact hJ18 vM_438 vO_430 vF_431 vC vT_432 vRT vG vB vRF vGF vBF vD vE vU vH_433 hf H locs hP hD hS _ (lv_sub hl [0, 1, 2, 3, 4] rfl)
                                                refine lv_if_ne (tgt := 1272) hx hb dL_law_1257 (by decide) (fun c446 => ?_) (fun c446 => ?_)
                                                · have hf := it_f hf c446
                                                  refine W.widen (k := cells + 1) (n := slots + 6) (by omega) (by omega) ?_
                                                  exact hJ444 hf H locs hP hD hS _ (lv_sub hl [2, 3, 4, 5, 6] rfl)
                                                · have hf := it_t hf c446
                                                  refine lv_aload_n hx hb dL_law_1260 rfl (lv_at hl 5 rfl) ?_
                                                  refine lv_iconst (v := (0 : Int32)) hx hb dL_law_1261 (by decide) ?_
                                                  obtain ⟨h447, hf⟩ := gd_in hf
                                                  refine va_lald (D := g.1) (f := (vO_430.2.2 0)) hx hb hK hP 14 1 rfl rfl h447 dL_law_1262 ?_
                                                  refine lv_iload hx hb dL_law_1263 (lv_at hl 0 rfl) ?_
                                                  refine lv_i2l (v := (r437).toInt64) hx hb dL_law_1265 rfl ?_
                                                  refine W.lcmp hx hb dL_law_1266 ?_
                                                  refine lv_if_eq (tgt := 1272) hx hb dL_law_1267 (by decide) (fun c448 => ?_) (fun c448 => ?_)
                                                  · have hf := it_t hf c448
                                                    refine W.widen (k := cells + 1) (n := slots + 6) (by omega) (by omega) ?_
                                                    exact hJ444 hf H locs hP hD hS _ (lv_sub hl [2, 3, 4, 5, 6] rfl)
                                                  · have hf := it_f hf c448
                                                    refine lv_iconst (v := (0 : Int32)) hx hb dL_law_1270 (by decide) ?_
                                                    cases hf
                                              · have hf := it_f hf c442
                                                refine lv_iconst (v := (0 : Int32)) hx hb dL_law_1253 (by decide) ?_
                                                cases hf
                                            · have hf := it_f hf c426
                                              by_cases c449 : ((xs (x4).toNatClampNeg) &&& (31 : Int32)) = (22 : Int32)
                                              · have hf := it_t hf c449
                                                refine lv_tableIn (off := 1235) (tgt := 1275) hx hb dL_law_40 (by rw [c449]; decide) (by rw [c449]; decide) (by rw [c449]; rfl) (by decide) ?_
                                                refine lv_aload_n hx hb dL_law_1275 rfl (lv_at hl 1 rfl) ?_
                                                refine lv_aload_n hx hb dL_law_1276 rfl (lv_at hl 0 rfl) ?_
                                                refine lv_iload hx hb dL_law_1277 (lv_at hl 4 rfl) ?_
                                                refine lv_iconst (v := (1 : Int32)) hx hb dL_law_1279 (by decide) ?_
                                                refine lv_iadd hx hb dL_law_1280 ?_
                                                obtain ⟨h450, hf⟩ := gd_in hf
                                                refine va_sld hx hb hX hbl hbA hS h450 dL_law_1281 ?_
                                                refine lv_aload_n hx hb dL_law_1282 rfl (lv_at hl 3 rfl) ?_
                                                obtain ⟨r451, vO_452, vF_453, vT_454, vH_455, hg456, hf⟩ := o5_at hf
                                                refine k_siHQ ⟨hx, hb, hml, hown, htu⟩ hK hP hD hS hA hG (h_L_removeTest l hst g bO vO bF (bD 0) (bRF 0) (bRT 0) vF bS bC vC bT vT bH vH (xs ((x4 + (1 : Int32))).toNatClampNeg) r451 vO_452 vF_453 vT_454 vH_455 hg456) (vx_cwSW 3 htu (gU_H mw_5_20 hcL_removeTest) rfl rfl rfl hdL_removeTest ⟨Nat.le_of_ble_eq_true rfl, Nat.le_of_ble_eq_true rfl⟩) (wr := (cM g bM vM ++ (cR g bRT nRT (bG 0) (bB 0) vRT ++ (cL g bG vG ++ (cL g bB vB ++ (cR g bRF nRF (bGF 0) (bBF 0) vRF ++ (cL g bGF vGF ++ (cL g bBF vBF ++ (cD g bD (bS2 0) vD ++ (cS g bS2 (bE 0) (bU 0) ++ (cC g bE vE ++ (cT g bU vU)))))))))))) (w2 := cM g bM vM ++ (cO g bO vO_452 ++ (cF g bF (bD 0) (bS 0) (bH 0 0) (bRF 0) (bRT 0) vF_453 ++ (cS g bS (bC 0) (bT 0) ++ (cC g bC vC ++ (cT g bT vT_454 ++ (cR g bRT nRT (bG 0) (bB 0) vRT ++ (cL g bG vG ++ (cL g bB vB ++ (cR g bRF nRF (bGF 0) (bBF 0) vRF ++ (cL g bGF vGF ++ (cL g bBF vBF ++ (cD g bD (bS2 0) vD ++ (cS g bS2 (bE 0) (bU 0) ++ (cC g bE vE ++ (cT g bU vU ++ (cH g bH vH_455))))))))))))))))) (kpc (fun P => by simp only [List.countP_append] <;> omega)) (kpc (fun P => by simp only [List.countP_append] <;> omega)) (As := [.ref (bF 0), .int (xs ((x4 + (1 : Int32))).toNatClampNeg), .ref (bO 1)]) (rest := []) rfl rfl hl.1 (Nat.le_of_ble_eq_true rfl) dL_law_1283 (k1 := cells + 1) (n1 := slots + 6) rfl rfl hcr (fun H locs hP hD hS => ?_)
                                                refine lv_istore (lv' := [(5, .int r451), (0, .ref b), (1, .ref (bF 0)), (2, .ref (bM 0)), (3, .ref (bO 1)), (4, .int x4)]) hx hb dL_law_1286 hl (by decide) rfl (fun ls hl => ?_)
                                                refine lv_aload_n hx hb dL_law_1288 rfl (lv_at hl 3 rfl) ?_
                                                refine lv_aload_n hx hb dL_law_1289 rfl (lv_at hl 1 rfl) ?_
                                                refine lv_iload hx hb dL_law_1290 (lv_at hl 5 rfl) ?_
                                                refine lv_iconst (v := (1 : Int32)) hx hb dL_law_1292 (by decide) ?_
                                                refine lv_iadd hx hb dL_law_1293 ?_
                                                obtain ⟨h457, hf⟩ := gd_in hf
                                                refine va_sld hx hb hX hbl hbA hS h457 dL_law_1294 ?_
                                                obtain ⟨r458, vM_459, hg460, hf⟩ := o2_at hf
                                                refine k_viQ ⟨hx, hb, hml, hown, htu⟩ hK hP hD hS hA hG (c_X8_removeTest l g bM vM (xs ((x4 + (1 : Int32))).toNatClampNeg) r458 vM_459 hg460) (cwV 1 htu (gU_V mw_7_33 hcX8_removeTest) rfl rfl rfl hdX8_removeTest ⟨Nat.le_of_ble_eq_true rfl, Nat.le_of_ble_eq_true rfl⟩) (q0 := 0) (ci := 8) (fs := fcM bM vM) (q := (RX8, TX8, 23)) rfl rfl rfl (wr := (cO g bO vO_452 ++ (cF g bF (bD 0) (bS 0) (bH 0 0) (bRF 0) (bRT 0) vF_453 ++ (cS g bS (bC 0) (bT 0) ++ (cC g bC vC ++ (cT g bT vT_454 ++ (cR g bRT nRT (bG 0) (bB 0) vRT ++ (cL g bG vG ++ (cL g bB vB ++ (cR g bRF nRF (bGF 0) (bBF 0) vRF ++ (cL g bGF vGF ++ (cL g bBF vBF ++ (cD g bD (bS2 0) vD ++ (cS g bS2 (bE 0) (bU 0) ++ (cC g bE vE ++ (cT g bU vU ++ (cH g bH vH_455))))))))))))))))) (w2 := cM g bM vM_459 ++ (cO g bO vO_452 ++ (cF g bF (bD 0) (bS 0) (bH 0 0) (bRF 0) (bRT 0) vF_453 ++ (cS g bS (bC 0) (bT 0) ++ (cC g bC vC ++ (cT g bT vT_454 ++ (cR g bRT nRT (bG 0) (bB 0) vRT ++ (cL g bG vG ++ (cL g bB vB ++ (cR g bRF nRF (bGF 0) (bBF 0) vRF ++ (cL g bGF vGF ++ (cL g bBF vBF ++ (cD g bD (bS2 0) vD ++ (cS g bS2 (bE 0) (bU 0) ++ (cC g bE vE ++ (cT g bU vU ++ (cH g bH vH_455))))))))))))))))) (kpc (fun P => by simp only [List.countP_append] <;> omega)) (kpc (fun P => by simp only [List.countP_append] <;> omega)) (As := [.int (xs ((x4 + (1 : Int32))).toNatClampNeg)]) (rest := []) rfl rfl hl.1 (Nat.le_of_ble_eq_true rfl) dL_law_1295 (k1 := cells + 1) (n1 := slots + 6) rfl rfl hcr (fun H locs hP hD hS => ?_)
                                                refine lv_istore (lv' := [(6, .int r458), (5, .int r451), (0, .ref b), (1, .ref (bF 0)), (2, .ref (bM 0)), (3, .ref (bO 1)), (4, .int x4)]) hx hb dL_law_1298 hl (by decide) rfl (fun ls hl => ?_)
                                                refine lv_aload_n hx hb dL_law_1300 rfl (lv_at hl 4 rfl) ?_
                                                obtain ⟨r461, hg462, hf⟩ := o1_at hf
                                                refine k_viQ ⟨hx, hb, hml, hown, htu⟩ hK hP hD hS hA hG (c_X8_thrown l g bM vM_459 r461 hg462) (cwV 0 htu (gU_V mw_5_143 hcX8_thrown) rfl rfl rfl hdX8_thrown ⟨Nat.le_of_ble_eq_true rfl, Nat.le_of_ble_eq_true rfl⟩) (q0 := 0) (ci := 8) (fs := fcM bM vM_459) (q := (RX8, TX8, 23)) rfl rfl rfl (wr := (cO g bO vO_452 ++ (cF g bF (bD 0) (bS 0) (bH 0 0) (bRF 0) (bRT 0) vF_453 ++ (cS g bS (bC 0) (bT 0) ++ (cC g bC vC ++ (cT g bT vT_454 ++ (cR g bRT nRT (bG 0) (bB 0) vRT ++ (cL g bG vG ++ (cL g bB vB ++ (cR g bRF nRF (bGF 0) (bBF 0) vRF ++ (cL g bGF vGF ++ (cL g bBF vBF ++ (cD g bD (bS2 0) vD ++ (cS g bS2 (bE 0) (bU 0) ++ (cC g bE vE ++ (cT g bU vU ++ (cH g bH vH_455))))))))))))))))) (w2 := cM g bM vM_459 ++ (cO g bO vO_452 ++ (cF g bF (bD 0) (bS 0) (bH 0 0) (bRF 0) (bRT 0) vF_453 ++ (cS g bS (bC 0) (bT 0) ++ (cC g bC vC ++ (cT g bT vT_454 ++ (cR g bRT nRT (bG 0) (bB 0) vRT ++ (cL g bG vG ++ (cL g bB vB ++ (cR g bRF nRF (bGF 0) (bBF 0) vRF ++ (cL g bGF vGF ++ (cL g bBF vBF ++ (cD g bD (bS2 0) vD ++ (cS g bS2 (bE 0) (bU 0) ++ (cC g bE vE ++ (cT g bU vU ++ (cH g bH vH_455))))))))))))))))) (kpc (fun P => by simp only [List.countP_append] <;> omega)) (kpc (fun P => by simp only [List.countP_append] <;> omega)) (As := []) (rest := []) rfl rfl hl.1 (Nat.le_of_ble_eq_true rfl) dL_law_1301 (k1 := cells + 1) (n1 := slots + 6) rfl rfl hcr (fun H locs hP hD hS => ?_)
                                                refine lv_iload hx hb dL_law_1304 (lv_at hl 1 rfl) ?_
                                                refine lv_icmp_eq (tgt := 1311) hx hb dL_law_1306 (by decide) (fun c463 => ?_) (fun c463 => ?_)
                                                · have hf := it_t hf c463
                                                  refine lv_iload hx hb dL_law_1311 (lv_at hl 1 rfl) ?_
                                                  obtain ⟨k464, hk466, hf⟩ := jn_at hf
                                                  have hJ465 : k464 = some () → ∀ (H : Heap) (locs : List Loc), va_P g.1 vwCl (cM g bM vM_459 ++ (cO g bO vO_452 ++ (cF g bF (bD 0) (bS 0) (bH 0 0) (bRF 0) (bRT 0) vF_453 ++ (cS g bS (bC 0) (bT 0) ++ (cC g bC vC ++ (cT g bT vT_454 ++ (cR g bRT nRT (bG 0) (bB 0) vRT ++ (cL g bG vG ++ (cL g bB vB ++ (cR g bRF nRF (bGF 0) (bBF 0) vRF ++ (cL g bGF vGF ++ (cL g bBF vBF ++ (cD g bD (bS2 0) vD ++ (cS g bS2 (bE 0) (bU 0) ++ (cC g bE vE ++ (cT g bU vU ++ (cH g bH vH_455))))))))))))))))) H → va_D A (cM g bM vM_459 ++ (cO g bO vO_452 ++ (cF g bF (bD 0) (bS 0) (bH 0 0) (bRF 0) (bRT 0) vF_453 ++ (cS g bS (bC 0) (bT 0) ++ (cC g bC vC ++ (cT g bT vT_454 ++ (cR g bRT nRT (bG 0) (bB 0) vRT ++ (cL g bG vG ++ (cL g bB vB ++ (cR g bRF nRF (bGF 0) (bBF 0) vRF ++ (cL g bGF vGF ++ (cL g bBF vBF ++ (cD g bD (bS2 0) vD ++ (cS g bS2 (bE 0) (bU 0) ++ (cC g bE vE ++ (cT g bU vU ++ (cH g bH vH_455))))))))))))))))) → va_S A s.heap H locs → ∀ ls : Array Slot, lv_has ls 9 [(0, .ref b), (1, .ref (bF 0)), (2, .ref (bM 0)), (3, .ref (bO 1)), (4, .int x4)] → W p l e room_1 s m args below meth c H locs (cells + 1) (slots + 6) Q (F0 m 1328 ls []) := by
                                                    intro hf H locs hP hD hS ls hl
                                                    rw [hk466] at hf
                                                    clear hk466
                                                    refine lv_goto (tgt := 1532) hx hb dL_law_1328 (by decide) ?_
                                                    refine W.widen (k := cells + 1) (n := slots + 6) (by omega) (by omega) ?_
                                                    exact hJ18 vM_459 vO_452 vF_453 vC vT_454 vRT vG vB vRF vGF vBF vD vE vU vH_455 hf H locs hP hD hS _ (lv_sub hl [0, 1, 2, 3, 4] rfl)
                                                  refine lv_if_ne (tgt := 1328) hx hb dL_law_1313 (by decide) (fun c467 => ?_) (fun c467 => ?_)
                                                  · have hf := it_f hf c467
                                                    refine W.widen (k := cells + 1) (n := slots + 6) (by omega) (by omega) ?_
                                                    exact hJ465 hf H locs hP hD hS _ (lv_sub hl [2, 3, 4, 5, 6] rfl)
                                                  · have hf := it_t hf c467
                                                    refine lv_aload_n hx hb dL_law_1316 rfl (lv_at hl 5 rfl) ?_
                                                    refine lv_iconst (v := (0 : Int32)) hx hb dL_law_1317 (by decide) ?_
                                                    obtain ⟨h468, hf⟩ := gd_in hf
                                                    refine va_lald (D := g.1) (f := (vO_452.2.2 0)) hx hb hK hP 14 1 rfl rfl h468 dL_law_1318 ?_
                                                    refine lv_iload hx hb dL_law_1319 (lv_at hl 0 rfl) ?_
                                                    refine lv_i2l (v := (r458).toInt64) hx hb dL_law_1321 rfl ?_
                                                    refine W.lcmp hx hb dL_law_1322 ?_
                                                    refine lv_if_eq (tgt := 1328) hx hb dL_law_1323 (by decide) (fun c469 => ?_) (fun c469 => ?_)
                                                    · have hf := it_t hf c469
                                                      refine W.widen (k := cells + 1) (n := slots + 6) (by omega) (by omega) ?_
                                                      exact hJ465 hf H locs hP hD hS _ (lv_sub hl [2, 3, 4, 5, 6] rfl)
                                                    · have hf := it_f hf c469
                                                      refine lv_iconst (v := (0 : Int32)) hx hb dL_law_1326 (by decide) ?_
                                                      cases hf
                                                · have hf := it_f hf c463
                                                  refine lv_iconst (v := (0 : Int32)) hx hb dL_law_1309 (by decide) ?_
                                                  cases hf
                                              · have hf := it_f hf c449
                                                by_cases c470 : ((xs (x4).toNatClampNeg) &&& (31 : Int32)) = (23 : Int32)
                                                · have hf := it_t hf c470
                                                  refine lv_tableIn (off := 1291) (tgt := 1331) hx hb dL_law_40 (by rw [c470]; decide) (by rw [c470]; decide) (by rw [c470]; rfl) (by decide) ?_
                                                  refine lv_aload_n hx hb dL_law_1331 rfl (lv_at hl 1 rfl) ?_
                                                  refine lv_aload_n hx hb dL_law_1332 rfl (lv_at hl 0 rfl) ?_
                                                  refine lv_iload hx hb dL_law_1333 (lv_at hl 4 rfl) ?_
                                                  refine lv_iconst (v := (1 : Int32)) hx hb dL_law_1335 (by decide) ?_
                                                  refine lv_iadd hx hb dL_law_1336 ?_
                                                  obtain ⟨h471, hf⟩ := gd_in hf
                                                  refine va_sld hx hb hX hbl hbA hS h471 dL_law_1337 ?_
                                                  refine lv_aload_n hx hb dL_law_1338 rfl (lv_at hl 0 rfl) ?_
                                                  refine lv_iload hx hb dL_law_1339 (lv_at hl 4 rfl) ?_
                                                  refine lv_iconst (v := (2 : Int32)) hx hb dL_law_1341 (by decide) ?_
                                                  refine lv_iadd hx hb dL_law_1342 ?_
                                                  obtain ⟨h472, hf⟩ := gd_in hf
                                                  refine va_sld hx hb hX hbl hbA hS h472 dL_law_1343 ?_
                                                  refine lv_aload_n hx hb dL_law_1344 rfl (lv_at hl 3 rfl) ?_
                                                  obtain ⟨r473, vO_474, vF_475, vC_476, vH_477, hg478, hf⟩ := o5_at hf
                                                  refine k_siHQ ⟨hx, hb, hml, hown, htu⟩ hK hP hD hS hA hG (h_L_setKind l hst g bO vO bF (bD 0) (bRF 0) (bRT 0) vF bS bC vC bT vT bH vH (xs ((x4 + (1 : Int32))).toNatClampNeg) (xs ((x4 + (2 : Int32))).toNatClampNeg) r473 vO_474 vF_475 vC_476 vH_477 hg478) (vx_cwSW 4 htu (gU_H mw_5_34 hcL_setKind) rfl rfl rfl hdL_setKind ⟨Nat.le_of_ble_eq_true rfl, Nat.le_of_ble_eq_true rfl⟩) (wr := (cM g bM vM ++ (cR g bRT nRT (bG 0) (bB 0) vRT ++ (cL g bG vG ++ (cL g bB vB ++ (cR g bRF nRF (bGF 0) (bBF 0) vRF ++ (cL g bGF vGF ++ (cL g bBF vBF ++ (cD g bD (bS2 0) vD ++ (cS g bS2 (bE 0) (bU 0) ++ (cC g bE vE ++ (cT g bU vU)))))))))))) (w2 := cM g bM vM ++ (cO g bO vO_474 ++ (cF g bF (bD 0) (bS 0) (bH 0 0) (bRF 0) (bRT 0) vF_475 ++ (cS g bS (bC 0) (bT 0) ++ (cC g bC vC_476 ++ (cT g bT vT ++ (cR g bRT nRT (bG 0) (bB 0) vRT ++ (cL g bG vG ++ (cL g bB vB ++ (cR g bRF nRF (bGF 0) (bBF 0) vRF ++ (cL g bGF vGF ++ (cL g bBF vBF ++ (cD g bD (bS2 0) vD ++ (cS g bS2 (bE 0) (bU 0) ++ (cC g bE vE ++ (cT g bU vU ++ (cH g bH vH_477))))))))))))))))) (kpc (fun P => by simp only [List.countP_append] <;> omega)) (kpc (fun P => by simp only [List.countP_append] <;> omega)) (As := [.ref (bF 0), .int (xs ((x4 + (1 : Int32))).toNatClampNeg), .int (xs ((x4 + (2 : Int32))).toNatClampNeg), .ref (bO 1)]) (rest := []) rfl rfl hl.1 (Nat.le_of_ble_eq_true rfl) dL_law_1345 (k1 := cells + 1) (n1 := slots + 6) rfl rfl hcr (fun H locs hP hD hS => ?_)
                                                  refine lv_istore (lv' := [(5, .int r473), (0, .ref b), (1, .ref (bF 0)), (2, .ref (bM 0)), (3, .ref (bO 1)), (4, .int x4)]) hx hb dL_law_1348 hl (by decide) rfl (fun ls hl => ?_)
                                                  refine lv_aload_n hx hb dL_law_1350 rfl (lv_at hl 3 rfl) ?_
                                                  refine lv_aload_n hx hb dL_law_1351 rfl (lv_at hl 1 rfl) ?_
                                                  refine lv_iload hx hb dL_law_1352 (lv_at hl 5 rfl) ?_
                                                  refine lv_iconst (v := (1 : Int32)) hx hb dL_law_1354 (by decide) ?_
                                                  refine lv_iadd hx hb dL_law_1355 ?_
                                                  obtain ⟨h479, hf⟩ := gd_in hf
                                                  refine va_sld hx hb hX hbl hbA hS h479 dL_law_1356 ?_
                                                  refine lv_aload_n hx hb dL_law_1357 rfl (lv_at hl 1 rfl) ?_
                                                  refine lv_iload hx hb dL_law_1358 (lv_at hl 5 rfl) ?_
                                                  refine lv_iconst (v := (2 : Int32)) hx hb dL_law_1360 (by decide) ?_
                                                  refine lv_iadd hx hb dL_law_1361 ?_
                                                  obtain ⟨h480, hf⟩ := gd_in hf
                                                  refine va_sld hx hb hX hbl hbA hS h480 dL_law_1362 ?_
                                                  obtain ⟨r481, vM_482, hg483, hf⟩ := o2_at hf
                                                  refine k_viQ ⟨hx, hb, hml, hown, htu⟩ hK hP hD hS hA hG (c_X8_setKind l g bM vM (xs ((x4 + (1 : Int32))).toNatClampNeg) (xs ((x4 + (2 : Int32))).toNatClampNeg) r481 vM_482 hg483) (cwV 2 htu (gU_V mw_7_37 hcX8_setKind) rfl rfl rfl hdX8_setKind ⟨Nat.le_of_ble_eq_true rfl, Nat.le_of_ble_eq_true rfl⟩) (q0 := 0) (ci := 8) (fs := fcM bM vM) (q := (RX8, TX8, 23)) rfl rfl rfl (wr := (cO g bO vO_474 ++ (cF g bF (bD 0) (bS 0) (bH 0 0) (bRF 0) (bRT 0) vF_475 ++ (cS g bS (bC 0) (bT 0) ++ (cC g bC vC_476 ++ (cT g bT vT ++ (cR g bRT nRT (bG 0) (bB 0) vRT ++ (cL g bG vG ++ (cL g bB vB ++ (cR g bRF nRF (bGF 0) (bBF 0) vRF ++ (cL g bGF vGF ++ (cL g bBF vBF ++ (cD g bD (bS2 0) vD ++ (cS g bS2 (bE 0) (bU 0) ++ (cC g bE vE ++ (cT g bU vU ++ (cH g bH vH_477))))))))))))))))) (w2 := cM g bM vM_482 ++ (cO g bO vO_474 ++ (cF g bF (bD 0) (bS 0) (bH 0 0) (bRF 0) (bRT 0) vF_475 ++ (cS g bS (bC 0) (bT 0) ++ (cC g bC vC_476 ++ (cT g bT vT ++ (cR g bRT nRT (bG 0) (bB 0) vRT ++ (cL g bG vG ++ (cL g bB vB ++ (cR g bRF nRF (bGF 0) (bBF 0) vRF ++ (cL g bGF vGF ++ (cL g bBF vBF ++ (cD g bD (bS2 0) vD ++ (cS g bS2 (bE 0) (bU 0) ++ (cC g bE vE ++ (cT g bU vU ++ (cH g bH vH_477))))))))))))))))) (kpc (fun P => by simp only [List.countP_append] <;> omega)) (kpc (fun P => by simp only [List.countP_append] <;> omega)) (As := [.int (xs ((x4 + (1 : Int32))).toNatClampNeg), .int (xs ((x4 + (2 : Int32))).toNatClampNeg)]) (rest := []) rfl rfl hl.1 (Nat.le_of_ble_eq_true rfl) dL_law_1363 (k1 := cells + 1) (n1 := slots + 6) rfl rfl hcr (fun H locs hP hD hS => ?_)
                                                  refine lv_istore (lv' := [(6, .int r481), (5, .int r473), (0, .ref b), (1, .ref (bF 0)), (2, .ref (bM 0)), (3, .ref (bO 1)), (4, .int x4)]) hx hb dL_law_1366 hl (by decide) rfl (fun ls hl => ?_)
                                                  refine lv_aload_n hx hb dL_law_1368 rfl (lv_at hl 4 rfl) ?_
                                                  obtain ⟨r484, hg485, hf⟩ := o1_at hf
                                                  refine k_viQ ⟨hx, hb, hml, hown, htu⟩ hK hP hD hS hA hG (c_X8_thrown l g bM vM_482 r484 hg485) (cwV 0 htu (gU_V mw_5_143 hcX8_thrown) rfl rfl rfl hdX8_thrown ⟨Nat.le_of_ble_eq_true rfl, Nat.le_of_ble_eq_true rfl⟩) (q0 := 0) (ci := 8) (fs := fcM bM vM_482) (q := (RX8, TX8, 23)) rfl rfl rfl (wr := (cO g bO vO_474 ++ (cF g bF (bD 0) (bS 0) (bH 0 0) (bRF 0) (bRT 0) vF_475 ++ (cS g bS (bC 0) (bT 0) ++ (cC g bC vC_476 ++ (cT g bT vT ++ (cR g bRT nRT (bG 0) (bB 0) vRT ++ (cL g bG vG ++ (cL g bB vB ++ (cR g bRF nRF (bGF 0) (bBF 0) vRF ++ (cL g bGF vGF ++ (cL g bBF vBF ++ (cD g bD (bS2 0) vD ++ (cS g bS2 (bE 0) (bU 0) ++ (cC g bE vE ++ (cT g bU vU ++ (cH g bH vH_477))))))))))))))))) (w2 := cM g bM vM_482 ++ (cO g bO vO_474 ++ (cF g bF (bD 0) (bS 0) (bH 0 0) (bRF 0) (bRT 0) vF_475 ++ (cS g bS (bC 0) (bT 0) ++ (cC g bC vC_476 ++ (cT g bT vT ++ (cR g bRT nRT (bG 0) (bB 0) vRT ++ (cL g bG vG ++ (cL g bB vB ++ (cR g bRF nRF (bGF 0) (bBF 0) vRF ++ (cL g bGF vGF ++ (cL g bBF vBF ++ (cD g bD (bS2 0) vD ++ (cS g bS2 (bE 0) (bU 0) ++ (cC g bE vE ++ (cT g bU vU ++ (cH g bH vH_477))))))))))))))))) (kpc (fun P => by simp only [List.countP_append] <;> omega)) (kpc (fun P => by simp only [List.countP_append] <;> omega)) (As := []) (rest := []) rfl rfl hl.1 (Nat.le_of_ble_eq_true rfl) dL_law_1369 (k1 := cells + 1) (n1 := slots + 6) rfl rfl hcr (fun H locs hP hD hS => ?_)
                                                  refine lv_iload hx hb dL_law_1372 (lv_at hl 1 rfl) ?_
                                                  refine lv_icmp_eq (tgt := 1379) hx hb dL_law_1374 (by decide) (fun c486 => ?_) (fun c486 => ?_)
                                                  · have hf := it_t hf c486
                                                    refine lv_iload hx hb dL_law_1379 (lv_at hl 1 rfl) ?_
                                                    obtain ⟨k487, hk489, hf⟩ := jn_at hf
                                                    have hJ488 : k487 = some () → ∀ (H : Heap) (locs : List Loc), va_P g.1 vwCl (cM g bM vM_482 ++ (cO g bO vO_474 ++ (cF g bF (bD 0) (bS 0) (bH 0 0) (bRF 0) (bRT 0) vF_475 ++ (cS g bS (bC 0) (bT 0) ++ (cC g bC vC_476 ++ (cT g bT vT ++ (cR g bRT nRT (bG 0) (bB 0) vRT ++ (cL g bG vG ++ (cL g bB vB ++ (cR g bRF nRF (bGF 0) (bBF 0) vRF ++ (cL g bGF vGF ++ (cL g bBF vBF ++ (cD g bD (bS2 0) vD ++ (cS g bS2 (bE 0) (bU 0) ++ (cC g bE vE ++ (cT g bU vU ++ (cH g bH vH_477))))))))))))))))) H → va_D A (cM g bM vM_482 ++ (cO g bO vO_474 ++ (cF g bF (bD 0) (bS 0) (bH 0 0) (bRF 0) (bRT 0) vF_475 ++ (cS g bS (bC 0) (bT 0) ++ (cC g bC vC_476 ++ (cT g bT vT ++ (cR g bRT nRT (bG 0) (bB 0) vRT ++ (cL g bG vG ++ (cL g bB vB ++ (cR g bRF nRF (bGF 0) (bBF 0) vRF ++ (cL g bGF vGF ++ (cL g bBF vBF ++ (cD g bD (bS2 0) vD ++ (cS g bS2 (bE 0) (bU 0) ++ (cC g bE vE ++ (cT g bU vU ++ (cH g bH vH_477))))))))))))))))) → va_S A s.heap H locs → ∀ ls : Array Slot, lv_has ls 9 [(0, .ref b), (1, .ref (bF 0)), (2, .ref (bM 0)), (3, .ref (bO 1)), (4, .int x4)] → W p l e room_1 s m args below meth c H locs (cells + 1) (slots + 6) Q (F0 m 1396 ls []) := by
                                                      intro hf H locs hP hD hS ls hl
                                                      rw [hk489] at hf
                                                      clear hk489
                                                      refine lv_goto (tgt := 1532) hx hb dL_law_1396 (by decide) ?_
                                                      refine W.widen (k := cells + 1) (n := slots + 6) (by omega) (by omega) ?_
                                                      exact hJ18 vM_482 vO_474 vF_475 vC_476 vT vRT vG vB vRF vGF vBF vD vE vU vH_477 hf H locs hP hD hS _ (lv_sub hl [0, 1, 2, 3, 4] rfl)
                                                    refine lv_if_ne (tgt := 1396) hx hb dL_law_1381 (by decide) (fun c490 => ?_) (fun c490 => ?_)
                                                    · have hf := it_f hf c490
                                                      refine W.widen (k := cells + 1) (n := slots + 6) (by omega) (by omega) ?_
                                                      exact hJ488 hf H locs hP hD hS _ (lv_sub hl [2, 3, 4, 5, 6] rfl)
                                                    · have hf := it_t hf c490
                                                      refine lv_aload_n hx hb dL_law_1384 rfl (lv_at hl 5 rfl) ?_
                                                      refine lv_iconst (v := (0 : Int32)) hx hb dL_law_1385 (by decide) ?_
                                                      obtain ⟨h491, hf⟩ := gd_in hf
                                                      refine va_lald (D := g.1) (f := (vO_474.2.2 0)) hx hb hK hP 14 1 rfl rfl h491 dL_law_1386 ?_
                                                      refine lv_iload hx hb dL_law_1387 (lv_at hl 0 rfl) ?_
                                                      refine lv_i2l (v := (r481).toInt64) hx hb dL_law_1389 rfl ?_
                                                      refine W.lcmp hx hb dL_law_1390 ?_
                                                      refine lv_if_eq (tgt := 1396) hx hb dL_law_1391 (by decide) (fun c492 => ?_) (fun c492 => ?_)
                                                      · have hf := it_t hf c492
                                                        refine W.widen (k := cells + 1) (n := slots + 6) (by omega) (by omega) ?_
                                                        exact hJ488 hf H locs hP hD hS _ (lv_sub hl [2, 3, 4, 5, 6] rfl)
                                                      · have hf := it_f hf c492
                                                        refine lv_iconst (v := (0 : Int32)) hx hb dL_law_1394 (by decide) ?_
                                                        cases hf
                                                  · have hf := it_f hf c486
                                                    refine lv_iconst (v := (0 : Int32)) hx hb dL_law_1377 (by decide) ?_
                                                    cases hf
                                                · have hf := it_f hf c470
                                                  by_cases c493 : ((xs (x4).toNatClampNeg) &&& (31 : Int32)) = (24 : Int32)
                                                  · have hf := it_t hf c493
                                                    refine lv_tableIn (off := 1359) (tgt := 1399) hx hb dL_law_40 (by rw [c493]; decide) (by rw [c493]; decide) (by rw [c493]; rfl) (by decide) ?_
                                                    refine lv_aload_n hx hb dL_law_1399 rfl (lv_at hl 1 rfl) ?_
                                                    refine lv_aload_n hx hb dL_law_1400 rfl (lv_at hl 0 rfl) ?_
                                                    refine lv_iload hx hb dL_law_1401 (lv_at hl 4 rfl) ?_
                                                    refine lv_iconst (v := (1 : Int32)) hx hb dL_law_1403 (by decide) ?_
                                                    refine lv_iadd hx hb dL_law_1404 ?_
                                                    obtain ⟨h494, hf⟩ := gd_in hf
                                                    refine va_sld hx hb hX hbl hbA hS h494 dL_law_1405 ?_
                                                    refine lv_aload_n hx hb dL_law_1406 rfl (lv_at hl 0 rfl) ?_
                                                    refine lv_iload hx hb dL_law_1407 (lv_at hl 4 rfl) ?_
                                                    refine lv_iconst (v := (2 : Int32)) hx hb dL_law_1409 (by decide) ?_
                                                    refine lv_iadd hx hb dL_law_1410 ?_
                                                    obtain ⟨h495, hf⟩ := gd_in hf
                                                    refine va_sld hx hb hX hbl hbA hS h495 dL_law_1411 ?_
                                                    refine lv_aload_n hx hb dL_law_1412 rfl (lv_at hl 0 rfl) ?_
                                                    refine lv_iload hx hb dL_law_1413 (lv_at hl 4 rfl) ?_
                                                    refine lv_iconst (v := (3 : Int32)) hx hb dL_law_1415 (by decide) ?_
                                                    refine lv_iadd hx hb dL_law_1416 ?_
                                                    obtain ⟨h496, hf⟩ := gd_in hf
                                                    refine va_sld hx hb hX hbl hbA hS h496 dL_law_1417 ?_
                                                    refine lv_aload_n hx hb dL_law_1418 rfl (lv_at hl 3 rfl) ?_
                                                    obtain ⟨r497, vO_498, vF_499, vT_500, vRT_501, vG_502, vB_503, vH_504, hg505, hf⟩ := o8_at hf
                                                    refine k_siHQ ⟨hx, hb, hml, hown, htu⟩ hK hP hD hS hA hG (h_L_see l hst g bO vO bF (bD 0) (bRF 0) vF bS bC vC bT vT bRT nRT vRT bG vG bB vB bH vH (xs ((x4 + (1 : Int32))).toNatClampNeg) (xs ((x4 + (2 : Int32))).toNatClampNeg) (xs ((x4 + (3 : Int32))).toNatClampNeg) r497 vO_498 vF_499 vT_500 vRT_501 vG_502 vB_503 vH_504 hg505) (vx_cwSW 5 htu (gU_H mw_5_45 hcL_see) rfl rfl rfl hdL_see ⟨Nat.le_of_ble_eq_true rfl, Nat.le_of_ble_eq_true rfl⟩) (wr := (cM g bM vM ++ (cR g bRF nRF (bGF 0) (bBF 0) vRF ++ (cL g bGF vGF ++ (cL g bBF vBF ++ (cD g bD (bS2 0) vD ++ (cS g bS2 (bE 0) (bU 0) ++ (cC g bE vE ++ (cT g bU vU))))))))) (w2 := cM g bM vM ++ (cO g bO vO_498 ++ (cF g bF (bD 0) (bS 0) (bH 0 0) (bRF 0) (bRT 0) vF_499 ++ (cS g bS (bC 0) (bT 0) ++ (cC g bC vC ++ (cT g bT vT_500 ++ (cR g bRT nRT (bG 0) (bB 0) vRT_501 ++ (cL g bG vG_502 ++ (cL g bB vB_503 ++ (cR g bRF nRF (bGF 0) (bBF 0) vRF ++ (cL g bGF vGF ++ (cL g bBF vBF ++ (cD g bD (bS2 0) vD ++ (cS g bS2 (bE 0) (bU 0) ++ (cC g bE vE ++ (cT g bU vU ++ (cH g bH vH_504))))))))))))))))) (kpc (fun P => by simp only [List.countP_append] <;> omega)) (kpc (fun P => by simp only [List.countP_append] <;> omega)) (As := [.ref (bF 0), .int (xs ((x4 + (1 : Int32))).toNatClampNeg), .int (xs ((x4 + (2 : Int32))).toNatClampNeg), .int (xs ((x4 + (3 : Int32))).toNatClampNeg), .ref (bO 1)]) (rest := []) rfl rfl hl.1 (Nat.le_of_ble_eq_true rfl) dL_law_1419 (k1 := cells + 1) (n1 := slots + 6) rfl rfl hcr (fun H locs hP hD hS => ?_)
                                                    refine lv_istore (lv' := [(5, .int r497), (0, .ref b), (1, .ref (bF 0)), (2, .ref (bM 0)), (3, .ref (bO 1)), (4, .int x4)]) hx hb dL_law_1422 hl (by decide) rfl (fun ls hl => ?_)
                                                    refine lv_aload_n hx hb dL_law_1424 rfl (lv_at hl 3 rfl) ?_
                                                    refine lv_aload_n hx hb dL_law_1425 rfl (lv_at hl 1 rfl) ?_
                                                    refine lv_iload hx hb dL_law_1426 (lv_at hl 5 rfl) ?_
                                                    refine lv_iconst (v := (1 : Int32)) hx hb dL_law_1428 (by decide) ?_
                                                    refine lv_iadd hx hb dL_law_1429 ?_
                                                    obtain ⟨h506, hf⟩ := gd_in hf
                                                    refine va_sld hx hb hX hbl hbA hS h506 dL_law_1430 ?_
                                                    refine lv_aload_n hx hb dL_law_1431 rfl (lv_at hl 1 rfl) ?_
                                                    refine lv_iload hx hb dL_law_1432 (lv_at hl 5 rfl) ?_
                                                    refine lv_iconst (v := (2 : Int32)) hx hb dL_law_1434 (by decide) ?_
                                                    refine lv_iadd hx hb dL_law_1435 ?_
                                                    obtain ⟨h507, hf⟩ := gd_in hf
                                                    refine va_sld hx hb hX hbl hbA hS h507 dL_law_1436 ?_
                                                    refine lv_aload_n hx hb dL_law_1437 rfl (lv_at hl 1 rfl) ?_
                                                    refine lv_iload hx hb dL_law_1438 (lv_at hl 5 rfl) ?_
                                                    refine lv_iconst (v := (3 : Int32)) hx hb dL_law_1440 (by decide) ?_
                                                    refine lv_iadd hx hb dL_law_1441 ?_
                                                    obtain ⟨h508, hf⟩ := gd_in hf
                                                    refine va_sld hx hb hX hbl hbA hS h508 dL_law_1442 ?_
                                                    obtain ⟨r509, vM_510, hg511, hf⟩ := o2_at hf
                                                    refine k_viQ ⟨hx, hb, hml, hown, htu⟩ hK hP hD hS hA hG (c_X8_see l g bM vM (xs ((x4 + (1 : Int32))).toNatClampNeg) (xs ((x4 + (2 : Int32))).toNatClampNeg) (xs ((x4 + (3 : Int32))).toNatClampNeg) r509 vM_510 hg511) (cwV 3 htu (gU_V mw_7_41 hcX8_see) rfl rfl rfl hdX8_see ⟨Nat.le_of_ble_eq_true rfl, Nat.le_of_ble_eq_true rfl⟩) (q0 := 0) (ci := 8) (fs := fcM bM vM) (q := (RX8, TX8, 23)) rfl rfl rfl (wr := (cO g bO vO_498 ++ (cF g bF (bD 0) (bS 0) (bH 0 0) (bRF 0) (bRT 0) vF_499 ++ (cS g bS (bC 0) (bT 0) ++ (cC g bC vC ++ (cT g bT vT_500 ++ (cR g bRT nRT (bG 0) (bB 0) vRT_501 ++ (cL g bG vG_502 ++ (cL g bB vB_503 ++ (cR g bRF nRF (bGF 0) (bBF 0) vRF ++ (cL g bGF vGF ++ (cL g bBF vBF ++ (cD g bD (bS2 0) vD ++ (cS g bS2 (bE 0) (bU 0) ++ (cC g bE vE ++ (cT g bU vU ++ (cH g bH vH_504))))))))))))))))) (w2 := cM g bM vM_510 ++ (cO g bO vO_498 ++ (cF g bF (bD 0) (bS 0) (bH 0 0) (bRF 0) (bRT 0) vF_499 ++ (cS g bS (bC 0) (bT 0) ++ (cC g bC vC ++ (cT g bT vT_500 ++ (cR g bRT nRT (bG 0) (bB 0) vRT_501 ++ (cL g bG vG_502 ++ (cL g bB vB_503 ++ (cR g bRF nRF (bGF 0) (bBF 0) vRF ++ (cL g bGF vGF ++ (cL g bBF vBF ++ (cD g bD (bS2 0) vD ++ (cS g bS2 (bE 0) (bU 0) ++ (cC g bE vE ++ (cT g bU vU ++ (cH g bH vH_504))))))))))))))))) (kpc (fun P => by simp only [List.countP_append] <;> omega)) (kpc (fun P => by simp only [List.countP_append] <;> omega)) (As := [.int (xs ((x4 + (1 : Int32))).toNatClampNeg), .int (xs ((x4 + (2 : Int32))).toNatClampNeg), .int (xs ((x4 + (3 : Int32))).toNatClampNeg)]) (rest := []) rfl rfl hl.1 (Nat.le_of_ble_eq_true rfl) dL_law_1443 (k1 := cells + 1) (n1 := slots + 6) rfl rfl hcr (fun H locs hP hD hS => ?_)
                                                    refine lv_istore (lv' := [(6, .int r509), (5, .int r497), (0, .ref b), (1, .ref (bF 0)), (2, .ref (bM 0)), (3, .ref (bO 1)), (4, .int x4)]) hx hb dL_law_1446 hl (by decide) rfl (fun ls hl => ?_)
                                                    refine lv_aload_n hx hb dL_law_1448 rfl (lv_at hl 4 rfl) ?_
                                                    obtain ⟨r512, hg513, hf⟩ := o1_at hf
                                                    refine k_viQ ⟨hx, hb, hml, hown, htu⟩ hK hP hD hS hA hG (c_X8_thrown l g bM vM_510 r512 hg513) (cwV 0 htu (gU_V mw_5_143 hcX8_thrown) rfl rfl rfl hdX8_thrown ⟨Nat.le_of_ble_eq_true rfl, Nat.le_of_ble_eq_true rfl⟩) (q0 := 0) (ci := 8) (fs := fcM bM vM_510) (q := (RX8, TX8, 23)) rfl rfl rfl (wr := (cO g bO vO_498 ++ (cF g bF (bD 0) (bS 0) (bH 0 0) (bRF 0) (bRT 0) vF_499 ++ (cS g bS (bC 0) (bT 0) ++ (cC g bC vC ++ (cT g bT vT_500 ++ (cR g bRT nRT (bG 0) (bB 0) vRT_501 ++ (cL g bG vG_502 ++ (cL g bB vB_503 ++ (cR g bRF nRF (bGF 0) (bBF 0) vRF ++ (cL g bGF vGF ++ (cL g bBF vBF ++ (cD g bD (bS2 0) vD ++ (cS g bS2 (bE 0) (bU 0) ++ (cC g bE vE ++ (cT g bU vU ++ (cH g bH vH_504))))))))))))))))) (w2 := cM g bM vM_510 ++ (cO g bO vO_498 ++ (cF g bF (bD 0) (bS 0) (bH 0 0) (bRF 0) (bRT 0) vF_499 ++ (cS g bS (bC 0) (bT 0) ++ (cC g bC vC ++ (cT g bT vT_500 ++ (cR g bRT nRT (bG 0) (bB 0) vRT_501 ++ (cL g bG vG_502 ++ (cL g bB vB_503 ++ (cR g bRF nRF (bGF 0) (bBF 0) vRF ++ (cL g bGF vGF ++ (cL g bBF vBF ++ (cD g bD (bS2 0) vD ++ (cS g bS2 (bE 0) (bU 0) ++ (cC g bE vE ++ (cT g bU vU ++ (cH g bH vH_504))))))))))))))))) (kpc (fun P => by simp only [List.countP_append] <;> omega)) (kpc (fun P => by simp only [List.countP_append] <;> omega)) (As := []) (rest := []) rfl rfl hl.1 (Nat.le_of_ble_eq_true rfl) dL_law_1449 (k1 := cells + 1) (n1 := slots + 6) rfl rfl hcr (fun H locs hP hD hS => ?_)
                                                    refine lv_iload hx hb dL_law_1452 (lv_at hl 1 rfl) ?_
                                                    refine lv_icmp_eq (tgt := 1459) hx hb dL_law_1454 (by decide) (fun c514 => ?_) (fun c514 => ?_)
                                                    · have hf := it_t hf c514
                                                      refine lv_iload hx hb dL_law_1459 (lv_at hl 1 rfl) ?_
                                                      obtain ⟨k515, hk517, hf⟩ := jn_at hf
                                                      have hJ516 : k515 = some () → ∀ (H : Heap) (locs : List Loc), va_P g.1 vwCl (cM g bM vM_510 ++ (cO g bO vO_498 ++ (cF g bF (bD 0) (bS 0) (bH 0 0) (bRF 0) (bRT 0) vF_499 ++ (cS g bS (bC 0) (bT 0) ++ (cC g bC vC ++ (cT g bT vT_500 ++ (cR g bRT nRT (bG 0) (bB 0) vRT_501 ++ (cL g bG vG_502 ++ (cL g bB vB_503 ++ (cR g bRF nRF (bGF 0) (bBF 0) vRF ++ (cL g bGF vGF ++ (cL g bBF vBF ++ (cD g bD (bS2 0) vD ++ (cS g bS2 (bE 0) (bU 0) ++ (cC g bE vE ++ (cT g bU vU ++ (cH g bH vH_504))))))))))))))))) H → va_D A (cM g bM vM_510 ++ (cO g bO vO_498 ++ (cF g bF (bD 0) (bS 0) (bH 0 0) (bRF 0) (bRT 0) vF_499 ++ (cS g bS (bC 0) (bT 0) ++ (cC g bC vC ++ (cT g bT vT_500 ++ (cR g bRT nRT (bG 0) (bB 0) vRT_501 ++ (cL g bG vG_502 ++ (cL g bB vB_503 ++ (cR g bRF nRF (bGF 0) (bBF 0) vRF ++ (cL g bGF vGF ++ (cL g bBF vBF ++ (cD g bD (bS2 0) vD ++ (cS g bS2 (bE 0) (bU 0) ++ (cC g bE vE ++ (cT g bU vU ++ (cH g bH vH_504))))))))))))))))) → va_S A s.heap H locs → ∀ ls : Array Slot, lv_has ls 9 [(0, .ref b), (1, .ref (bF 0)), (2, .ref (bM 0)), (3, .ref (bO 1)), (4, .int x4)] → W p l e room_1 s m args below meth c H locs (cells + 1) (slots + 6) Q (F0 m 1476 ls []) := by
                                                        intro hf H locs hP hD hS ls hl
                                                        rw [hk517] at hf
                                                        clear hk517
                                                        refine lv_goto (tgt := 1532) hx hb dL_law_1476 (by decide) ?_
                                                        refine W.widen (k := cells + 1) (n := slots + 6) (by omega) (by omega) ?_
                                                        exact hJ18 vM_510 vO_498 vF_499 vC vT_500 vRT_501 vG_502 vB_503 vRF vGF vBF vD vE vU vH_504 hf H locs hP hD hS _ (lv_sub hl [0, 1, 2, 3, 4] rfl)
                                                      refine lv_if_ne (tgt := 1476) hx hb dL_law_1461 (by decide) (fun c518 => ?_) (fun c518 => ?_)
                                                      · have hf := it_f hf c518
                                                        refine W.widen (k := cells + 1) (n := slots + 6) (by omega) (by omega) ?_
                                                        exact hJ516 hf H locs hP hD hS _ (lv_sub hl [2, 3, 4, 5, 6] rfl)
                                                      · have hf := it_t hf c518
                                                        refine lv_aload_n hx hb dL_law_1464 rfl (lv_at hl 5 rfl) ?_
                                                        refine lv_iconst (v := (0 : Int32)) hx hb dL_law_1465 (by decide) ?_
                                                        obtain ⟨h519, hf⟩ := gd_in hf
                                                        refine va_lald (D := g.1) (f := (vO_498.2.2 0)) hx hb hK hP 14 1 rfl rfl h519 dL_law_1466 ?_
                                                        refine lv_iload hx hb dL_law_1467 (lv_at hl 0 rfl) ?_
                                                        refine lv_i2l (v := (r509).toInt64) hx hb dL_law_1469 rfl ?_
                                                        refine W.lcmp hx hb dL_law_1470 ?_
                                                        refine lv_if_eq (tgt := 1476) hx hb dL_law_1471 (by decide) (fun c520 => ?_) (fun c520 => ?_)
                                                        · have hf := it_t hf c520
                                                          refine W.widen (k := cells + 1) (n := slots + 6) (by omega) (by omega) ?_
                                                          exact hJ516 hf H locs hP hD hS _ (lv_sub hl [2, 3, 4, 5, 6] rfl)
                                                        · have hf := it_f hf c520
                                                          refine lv_iconst (v := (0 : Int32)) hx hb dL_law_1474 (by decide) ?_
                                                          cases hf
                                                    · have hf := it_f hf c514
                                                      refine lv_iconst (v := (0 : Int32)) hx hb dL_law_1457 (by decide) ?_
                                                      cases hf
                                                  · have hf := it_f hf c493
                                                    by_cases c521 : ((xs (x4).toNatClampNeg) &&& (31 : Int32)) = (25 : Int32)
                                                    · have hf := it_t hf c521
                                                      refine lv_tableIn (off := 1439) (tgt := 1479) hx hb dL_law_40 (by rw [c521]; decide) (by rw [c521]; decide) (by rw [c521]; rfl) (by decide) ?_
                                                      refine lv_aload_n hx hb dL_law_1479 rfl (lv_at hl 1 rfl) ?_
                                                      obtain ⟨r522, vT_523, vH_524, hg525, hf⟩ := o3_at hf
                                                      refine k_viQ ⟨hx, hb, hml, hown, htu⟩ hK hP hD hS hA hG (c_X7_forget l g bF (bD 0) (bRF 0) (bRT 0) vF bS bC vC bT vT bH vH r522 vT_523 vH_524 hg525) (cwV 0 htu (gU_V mw_2_211 hcX7_forget) rfl rfl rfl hdX7_forget ⟨Nat.le_of_ble_eq_true rfl, Nat.le_of_ble_eq_true rfl⟩) (q0 := 15) (ci := 7) (fs := fcF bF (bD 0) (bS 0) (bH 0 0) (bRF 0) (bRT 0) vF) (q := (RX7, TX7, 12)) rfl rfl rfl (wr := (cM g bM vM ++ (cO g bO vO ++ (cR g bRT nRT (bG 0) (bB 0) vRT ++ (cL g bG vG ++ (cL g bB vB ++ (cR g bRF nRF (bGF 0) (bBF 0) vRF ++ (cL g bGF vGF ++ (cL g bBF vBF ++ (cD g bD (bS2 0) vD ++ (cS g bS2 (bE 0) (bU 0) ++ (cC g bE vE ++ (cT g bU vU))))))))))))) (w2 := cM g bM vM ++ (cO g bO vO ++ (cF g bF (bD 0) (bS 0) (bH 0 0) (bRF 0) (bRT 0) vF ++ (cS g bS (bC 0) (bT 0) ++ (cC g bC vC ++ (cT g bT vT_523 ++ (cR g bRT nRT (bG 0) (bB 0) vRT ++ (cL g bG vG ++ (cL g bB vB ++ (cR g bRF nRF (bGF 0) (bBF 0) vRF ++ (cL g bGF vGF ++ (cL g bBF vBF ++ (cD g bD (bS2 0) vD ++ (cS g bS2 (bE 0) (bU 0) ++ (cC g bE vE ++ (cT g bU vU ++ (cH g bH vH_524))))))))))))))))) (kpc (fun P => by simp only [List.countP_append] <;> omega)) (kpc (fun P => by simp only [List.countP_append] <;> omega)) (As := []) (rest := []) rfl rfl hl.1 (Nat.le_of_ble_eq_true rfl) dL_law_1480 (k1 := cells) (n1 := slots) rfl rfl hc0 (fun H locs hP hD hS => ?_)
                                                      refine lv_aload_n hx hb dL_law_1483 rfl (lv_at hl 2 rfl) ?_
                                                      obtain ⟨r526, vM_527, hg528, hf⟩ := o2_at hf
                                                      refine k_viQ ⟨hx, hb, hml, hown, htu⟩ hK hP hD hS hA hG (c_X8_forget l g bM vM r526 vM_527 hg528) (cwV 0 htu (gU_V mw_7_45 hcX8_forget) rfl rfl rfl hdX8_forget ⟨Nat.le_of_ble_eq_true rfl, Nat.le_of_ble_eq_true rfl⟩) (q0 := 0) (ci := 8) (fs := fcM bM vM) (q := (RX8, TX8, 23)) rfl rfl rfl (wr := (cO g bO vO ++ (cF g bF (bD 0) (bS 0) (bH 0 0) (bRF 0) (bRT 0) vF ++ (cS g bS (bC 0) (bT 0) ++ (cC g bC vC ++ (cT g bT vT_523 ++ (cR g bRT nRT (bG 0) (bB 0) vRT ++ (cL g bG vG ++ (cL g bB vB ++ (cR g bRF nRF (bGF 0) (bBF 0) vRF ++ (cL g bGF vGF ++ (cL g bBF vBF ++ (cD g bD (bS2 0) vD ++ (cS g bS2 (bE 0) (bU 0) ++ (cC g bE vE ++ (cT g bU vU ++ (cH g bH vH_524))))))))))))))))) (w2 := cM g bM vM_527 ++ (cO g bO vO ++ (cF g bF (bD 0) (bS 0) (bH 0 0) (bRF 0) (bRT 0) vF ++ (cS g bS (bC 0) (bT 0) ++ (cC g bC vC ++ (cT g bT vT_523 ++ (cR g bRT nRT (bG 0) (bB 0) vRT ++ (cL g bG vG ++ (cL g bB vB ++ (cR g bRF nRF (bGF 0) (bBF 0) vRF ++ (cL g bGF vGF ++ (cL g bBF vBF ++ (cD g bD (bS2 0) vD ++ (cS g bS2 (bE 0) (bU 0) ++ (cC g bE vE ++ (cT g bU vU ++ (cH g bH vH_524))))))))))))))))) (kpc (fun P => by simp only [List.countP_append] <;> omega)) (kpc (fun P => by simp only [List.countP_append] <;> omega)) (As := []) (rest := [.int r522]) rfl rfl hl.1 (Nat.le_of_ble_eq_true rfl) dL_law_1484 (k1 := cells) (n1 := slots) rfl rfl hc0 (fun H locs hP hD hS => ?_)
                                                      refine lv_icmp_eq (tgt := 1532) hx hb dL_law_1487 (by decide) (fun c529 => ?_) (fun c529 => ?_)
                                                      · have hf := it_t hf c529
                                                        refine W.widen (k := cells + 1) (n := slots + 6) (by omega) (by omega) ?_
                                                        exact hJ18 vM_527 vO vF vC vT_523 vRT vG vB vRF vGF vBF vD vE vU vH_524 hf H locs hP hD hS _ (lv_sub hl [0, 1, 2, 3, 4] rfl)
                                                      · have hf := it_f hf c529
                                                        refine lv_iconst (v := (0 : Int32)) hx hb dL_law_1490 (by decide) ?_
                                                        cases hf
                                                    · have hf := it_f hf c521
                                                      by_cases c530 : ((xs (x4).toNatClampNeg) &&& (31 : Int32)) = (26 : Int32)
                                                      · have hf := it_t hf c530
                                                        refine lv_tableIn (off := 1452) (tgt := 1492) hx hb dL_law_40 (by rw [c530]; decide) (by rw [c530]; decide) (by rw [c530]; rfl) (by decide) ?_
                                                        refine lv_aload_n hx hb dL_law_1492 rfl (lv_at hl 1 rfl) ?_
                                                        obtain ⟨r531, vF_532, vT_533, vRT_534, vG_535, vB_536, vRF_537, vGF_538, vBF_539, vH_540, hg541, hf⟩ := o10_at hf
                                                        refine k_viQ ⟨hx, hb, hml, hown, htu⟩ hK hP hD hS hA hG (c_X7_complete l g bF (bD 0) vF bS bC vC bT vT bRT nRT vRT bG vG bB vB bRF nRF vRF bGF vGF bBF vBF bH vH r531 vF_532 vT_533 vRT_534 vG_535 vB_536 vRF_537 vGF_538 vBF_539 vH_540 hg541) (cwV 0 htu (gU_V mw_3_10 hcX7_complete) rfl rfl rfl hdX7_complete ⟨Nat.le_of_ble_eq_true rfl, Nat.le_of_ble_eq_true rfl⟩) (q0 := 15) (ci := 7) (fs := fcF bF (bD 0) (bS 0) (bH 0 0) (bRF 0) (bRT 0) vF) (q := (RX7, TX7, 12)) rfl rfl rfl (wr := (cM g bM vM ++ (cO g bO vO ++ (cD g bD (bS2 0) vD ++ (cS g bS2 (bE 0) (bU 0) ++ (cC g bE vE ++ (cT g bU vU))))))) (w2 := cM g bM vM ++ (cO g bO vO ++ (cF g bF (bD 0) (bS 0) (bH 0 0) (bRF 0) (bRT 0) vF_532 ++ (cS g bS (bC 0) (bT 0) ++ (cC g bC vC ++ (cT g bT vT_533 ++ (cR g bRT nRT (bG 0) (bB 0) vRT_534 ++ (cL g bG vG_535 ++ (cL g bB vB_536 ++ (cR g bRF nRF (bGF 0) (bBF 0) vRF_537 ++ (cL g bGF vGF_538 ++ (cL g bBF vBF_539 ++ (cD g bD (bS2 0) vD ++ (cS g bS2 (bE 0) (bU 0) ++ (cC g bE vE ++ (cT g bU vU ++ (cH g bH vH_540))))))))))))))))) (kpc (fun P => by simp only [List.countP_append] <;> omega)) (kpc (fun P => by simp only [List.countP_append] <;> omega)) (As := []) (rest := []) rfl rfl hl.1 (Nat.le_of_ble_eq_true rfl) dL_law_1493 (k1 := cells) (n1 := slots) rfl rfl hc0 (fun H locs hP hD hS => ?_)
                                                        refine lv_aload_n hx hb dL_law_1496 rfl (lv_at hl 2 rfl) ?_
                                                        obtain ⟨r542, vM_543, hg544, hf⟩ := o2_at hf
                                                        refine k_viQ ⟨hx, hb, hml, hown, htu⟩ hK hP hD hS hA hG (c_X8_complete l g bM vM r542 vM_543 hg544) (cwV 0 htu (gU_V mw_7_49 hcX8_complete) rfl rfl rfl hdX8_complete ⟨Nat.le_of_ble_eq_true rfl, Nat.le_of_ble_eq_true rfl⟩) (q0 := 0) (ci := 8) (fs := fcM bM vM) (q := (RX8, TX8, 23)) rfl rfl rfl (wr := (cO g bO vO ++ (cF g bF (bD 0) (bS 0) (bH 0 0) (bRF 0) (bRT 0) vF_532 ++ (cS g bS (bC 0) (bT 0) ++ (cC g bC vC ++ (cT g bT vT_533 ++ (cR g bRT nRT (bG 0) (bB 0) vRT_534 ++ (cL g bG vG_535 ++ (cL g bB vB_536 ++ (cR g bRF nRF (bGF 0) (bBF 0) vRF_537 ++ (cL g bGF vGF_538 ++ (cL g bBF vBF_539 ++ (cD g bD (bS2 0) vD ++ (cS g bS2 (bE 0) (bU 0) ++ (cC g bE vE ++ (cT g bU vU ++ (cH g bH vH_540))))))))))))))))) (w2 := cM g bM vM_543 ++ (cO g bO vO ++ (cF g bF (bD 0) (bS 0) (bH 0 0) (bRF 0) (bRT 0) vF_532 ++ (cS g bS (bC 0) (bT 0) ++ (cC g bC vC ++ (cT g bT vT_533 ++ (cR g bRT nRT (bG 0) (bB 0) vRT_534 ++ (cL g bG vG_535 ++ (cL g bB vB_536 ++ (cR g bRF nRF (bGF 0) (bBF 0) vRF_537 ++ (cL g bGF vGF_538 ++ (cL g bBF vBF_539 ++ (cD g bD (bS2 0) vD ++ (cS g bS2 (bE 0) (bU 0) ++ (cC g bE vE ++ (cT g bU vU ++ (cH g bH vH_540))))))))))))))))) (kpc (fun P => by simp only [List.countP_append] <;> omega)) (kpc (fun P => by simp only [List.countP_append] <;> omega)) (As := []) (rest := [.int r531]) rfl rfl hl.1 (Nat.le_of_ble_eq_true rfl) dL_law_1497 (k1 := cells) (n1 := slots) rfl rfl hc0 (fun H locs hP hD hS => ?_)
                                                        refine lv_icmp_eq (tgt := 1532) hx hb dL_law_1500 (by decide) (fun c545 => ?_) (fun c545 => ?_)
                                                        · have hf := it_t hf c545
                                                          refine W.widen (k := cells + 1) (n := slots + 6) (by omega) (by omega) ?_
                                                          exact hJ18 vM_543 vO vF_532 vC vT_533 vRT_534 vG_535 vB_536 vRF_537 vGF_538 vBF_539 vD vE vU vH_540 hf H locs hP hD hS _ (lv_sub hl [0, 1, 2, 3, 4] rfl)
                                                        · have hf := it_f hf c545
                                                          refine lv_iconst (v := (0 : Int32)) hx hb dL_law_1503 (by decide) ?_
                                                          cases hf
                                                      · have hf := it_f hf c530
                                                        by_cases c546 : ((xs (x4).toNatClampNeg) &&& (31 : Int32)) = (27 : Int32)
                                                        · have hf := it_t hf c546
                                                          refine lv_tableIn (off := 1465) (tgt := 1505) hx hb dL_law_40 (by rw [c546]; decide) (by rw [c546]; decide) (by rw [c546]; rfl) (by decide) ?_
                                                          refine lv_aload_n hx hb dL_law_1505 rfl (lv_at hl 1 rfl) ?_
                                                          obtain ⟨r547, vF_548, vC_549, vT_550, vH_551, hg552, hf⟩ := o5_at hf
                                                          refine k_viQ ⟨hx, hb, hml, hown, htu⟩ hK hP hD hS hA hG (c_X7_undo l g bF (bD 0) (bRF 0) (bRT 0) vF bS bC vC bT vT bH vH r547 vF_548 vC_549 vT_550 vH_551 hg552) (cwV 0 htu (gU_V mw_3_26 hcX7_undo) rfl rfl rfl hdX7_undo ⟨Nat.le_of_ble_eq_true rfl, Nat.le_of_ble_eq_true rfl⟩) (q0 := 15) (ci := 7) (fs := fcF bF (bD 0) (bS 0) (bH 0 0) (bRF 0) (bRT 0) vF) (q := (RX7, TX7, 12)) rfl rfl rfl (wr := (cM g bM vM ++ (cO g bO vO ++ (cR g bRT nRT (bG 0) (bB 0) vRT ++ (cL g bG vG ++ (cL g bB vB ++ (cR g bRF nRF (bGF 0) (bBF 0) vRF ++ (cL g bGF vGF ++ (cL g bBF vBF ++ (cD g bD (bS2 0) vD ++ (cS g bS2 (bE 0) (bU 0) ++ (cC g bE vE ++ (cT g bU vU))))))))))))) (w2 := cM g bM vM ++ (cO g bO vO ++ (cF g bF (bD 0) (bS 0) (bH 0 0) (bRF 0) (bRT 0) vF_548 ++ (cS g bS (bC 0) (bT 0) ++ (cC g bC vC_549 ++ (cT g bT vT_550 ++ (cR g bRT nRT (bG 0) (bB 0) vRT ++ (cL g bG vG ++ (cL g bB vB ++ (cR g bRF nRF (bGF 0) (bBF 0) vRF ++ (cL g bGF vGF ++ (cL g bBF vBF ++ (cD g bD (bS2 0) vD ++ (cS g bS2 (bE 0) (bU 0) ++ (cC g bE vE ++ (cT g bU vU ++ (cH g bH vH_551))))))))))))))))) (kpc (fun P => by simp only [List.countP_append] <;> omega)) (kpc (fun P => by simp only [List.countP_append] <;> omega)) (As := []) (rest := []) rfl rfl hl.1 (Nat.le_of_ble_eq_true rfl) dL_law_1506 (k1 := cells) (n1 := slots) rfl rfl hc0 (fun H locs hP hD hS => ?_)
                                                          refine lv_aload_n hx hb dL_law_1509 rfl (lv_at hl 2 rfl) ?_
                                                          obtain ⟨r553, vM_554, hg555, hf⟩ := o2_at hf
                                                          refine k_viQ ⟨hx, hb, hml, hown, htu⟩ hK hP hD hS hA hG (c_X8_undo l g bM vM r553 vM_554 hg555) (cwV 0 htu (gU_V mw_7_53 hcX8_undo) rfl rfl rfl hdX8_undo ⟨Nat.le_of_ble_eq_true rfl, Nat.le_of_ble_eq_true rfl⟩) (q0 := 0) (ci := 8) (fs := fcM bM vM) (q := (RX8, TX8, 23)) rfl rfl rfl (wr := (cO g bO vO ++ (cF g bF (bD 0) (bS 0) (bH 0 0) (bRF 0) (bRT 0) vF_548 ++ (cS g bS (bC 0) (bT 0) ++ (cC g bC vC_549 ++ (cT g bT vT_550 ++ (cR g bRT nRT (bG 0) (bB 0) vRT ++ (cL g bG vG ++ (cL g bB vB ++ (cR g bRF nRF (bGF 0) (bBF 0) vRF ++ (cL g bGF vGF ++ (cL g bBF vBF ++ (cD g bD (bS2 0) vD ++ (cS g bS2 (bE 0) (bU 0) ++ (cC g bE vE ++ (cT g bU vU ++ (cH g bH vH_551))))))))))))))))) (w2 := cM g bM vM_554 ++ (cO g bO vO ++ (cF g bF (bD 0) (bS 0) (bH 0 0) (bRF 0) (bRT 0) vF_548 ++ (cS g bS (bC 0) (bT 0) ++ (cC g bC vC_549 ++ (cT g bT vT_550 ++ (cR g bRT nRT (bG 0) (bB 0) vRT ++ (cL g bG vG ++ (cL g bB vB ++ (cR g bRF nRF (bGF 0) (bBF 0) vRF ++ (cL g bGF vGF ++ (cL g bBF vBF ++ (cD g bD (bS2 0) vD ++ (cS g bS2 (bE 0) (bU 0) ++ (cC g bE vE ++ (cT g bU vU ++ (cH g bH vH_551))))))))))))))))) (kpc (fun P => by simp only [List.countP_append] <;> omega)) (kpc (fun P => by simp only [List.countP_append] <;> omega)) (As := []) (rest := [.int r547]) rfl rfl hl.1 (Nat.le_of_ble_eq_true rfl) dL_law_1510 (k1 := cells) (n1 := slots) rfl rfl hc0 (fun H locs hP hD hS => ?_)
                                                          refine lv_icmp_eq (tgt := 1532) hx hb dL_law_1513 (by decide) (fun c556 => ?_) (fun c556 => ?_)
                                                          · have hf := it_t hf c556
                                                            refine W.widen (k := cells + 1) (n := slots + 6) (by omega) (by omega) ?_
                                                            exact hJ18 vM_554 vO vF_548 vC_549 vT_550 vRT vG vB vRF vGF vBF vD vE vU vH_551 hf H locs hP hD hS _ (lv_sub hl [0, 1, 2, 3, 4] rfl)
                                                          · have hf := it_f hf c556
                                                            refine lv_iconst (v := (0 : Int32)) hx hb dL_law_1516 (by decide) ?_
                                                            cases hf
                                                        · have hf := it_f hf c546
                                                          by_cases c557 : ((xs (x4).toNatClampNeg) &&& (31 : Int32)) = (28 : Int32)
                                                          · have hf := it_t hf c557
                                                            refine lv_tableIn (off := 1478) (tgt := 1518) hx hb dL_law_40 (by rw [c557]; decide) (by rw [c557]; decide) (by rw [c557]; rfl) (by decide) ?_
                                                            refine lv_aload_n hx hb dL_law_1518 rfl (lv_at hl 1 rfl) ?_
                                                            obtain ⟨c558, r559, vF_560, vRT_561, vG_562, vB_563, hg564, hf⟩ := o6_at hf
                                                            have hc558 : c558 = 0 := Classical.byContradiction (fun h9 => by have h8 := it_f hf h9; cases h8)
                                                            have hf := it_t hf hc558
                                                            rw [hc558] at hg564
                                                            refine k_vlQ ⟨hx, hb, hml, hown, htu⟩ hK hP hD hS hA hG (c_X7_checksum l g bF (bD 0) (bH 0 0) (bRF 0) vF bS bC vC bT vT bRT nRT vRT bG vG bB vB r559 vF_560 vRT_561 vG_562 vB_563 hg564) (cwV 0 htu (gU_V mw_3_38 hcX7_checksum) rfl rfl rfl hdX7_checksum ⟨Nat.le_of_ble_eq_true rfl, Nat.le_of_ble_eq_true rfl⟩) (q0 := 15) (ci := 7) (fs := fcF bF (bD 0) (bS 0) (bH 0 0) (bRF 0) (bRT 0) vF) (q := (RX7, TX7, 12)) rfl rfl rfl (wr := (cM g bM vM ++ (cO g bO vO ++ (cR g bRF nRF (bGF 0) (bBF 0) vRF ++ (cL g bGF vGF ++ (cL g bBF vBF ++ (cD g bD (bS2 0) vD ++ (cS g bS2 (bE 0) (bU 0) ++ (cC g bE vE ++ (cT g bU vU ++ (cH g bH vH))))))))))) (w2 := cM g bM vM ++ (cO g bO vO ++ (cF g bF (bD 0) (bS 0) (bH 0 0) (bRF 0) (bRT 0) vF_560 ++ (cS g bS (bC 0) (bT 0) ++ (cC g bC vC ++ (cT g bT vT ++ (cR g bRT nRT (bG 0) (bB 0) vRT_561 ++ (cL g bG vG_562 ++ (cL g bB vB_563 ++ (cR g bRF nRF (bGF 0) (bBF 0) vRF ++ (cL g bGF vGF ++ (cL g bBF vBF ++ (cD g bD (bS2 0) vD ++ (cS g bS2 (bE 0) (bU 0) ++ (cC g bE vE ++ (cT g bU vU ++ (cH g bH vH))))))))))))))))) (kpc (fun P => by simp only [List.countP_append] <;> omega)) (kpc (fun P => by simp only [List.countP_append] <;> omega)) (As := []) (rest := []) rfl rfl hl.1 (Nat.le_of_ble_eq_true rfl) dL_law_1519 (k1 := cells) (n1 := slots) rfl rfl hc0 (fun H locs hP hD hS => ?_)
                                                            refine lv_aload_n hx hb dL_law_1522 rfl (lv_at hl 2 rfl) ?_
                                                            obtain ⟨r565, vM_566, hg567, hf⟩ := o2_at hf
                                                            refine k_vlQ ⟨hx, hb, hml, hown, htu⟩ hK hP hD hS hA hG (c_X8_checksum l g bM vM r565 vM_566 hg567) (cwV 0 htu (gU_V mw_7_57 hcX8_checksum) rfl rfl rfl hdX8_checksum ⟨Nat.le_of_ble_eq_true rfl, Nat.le_of_ble_eq_true rfl⟩) (q0 := 0) (ci := 8) (fs := fcM bM vM) (q := (RX8, TX8, 23)) rfl rfl rfl (wr := (cO g bO vO ++ (cF g bF (bD 0) (bS 0) (bH 0 0) (bRF 0) (bRT 0) vF_560 ++ (cS g bS (bC 0) (bT 0) ++ (cC g bC vC ++ (cT g bT vT ++ (cR g bRT nRT (bG 0) (bB 0) vRT_561 ++ (cL g bG vG_562 ++ (cL g bB vB_563 ++ (cR g bRF nRF (bGF 0) (bBF 0) vRF ++ (cL g bGF vGF ++ (cL g bBF vBF ++ (cD g bD (bS2 0) vD ++ (cS g bS2 (bE 0) (bU 0) ++ (cC g bE vE ++ (cT g bU vU ++ (cH g bH vH))))))))))))))))) (w2 := cM g bM vM_566 ++ (cO g bO vO ++ (cF g bF (bD 0) (bS 0) (bH 0 0) (bRF 0) (bRT 0) vF_560 ++ (cS g bS (bC 0) (bT 0) ++ (cC g bC vC ++ (cT g bT vT ++ (cR g bRT nRT (bG 0) (bB 0) vRT_561 ++ (cL g bG vG_562 ++ (cL g bB vB_563 ++ (cR g bRF nRF (bGF 0) (bBF 0) vRF ++ (cL g bGF vGF ++ (cL g bBF vBF ++ (cD g bD (bS2 0) vD ++ (cS g bS2 (bE 0) (bU 0) ++ (cC g bE vE ++ (cT g bU vU ++ (cH g bH vH))))))))))))))))) (kpc (fun P => by simp only [List.countP_append] <;> omega)) (kpc (fun P => by simp only [List.countP_append] <;> omega)) (As := []) (rest := [.long r559]) rfl rfl hl.1 (Nat.le_of_ble_eq_true rfl) dL_law_1523 (k1 := cells) (n1 := slots) rfl rfl hc0 (fun H locs hP hD hS => ?_)
                                                            refine W.lcmp hx hb dL_law_1526 ?_
                                                            refine lv_if_eq (tgt := 1532) hx hb dL_law_1527 (by decide) (fun c568 => ?_) (fun c568 => ?_)
                                                            · have hf := it_t hf c568
                                                              refine W.widen (k := cells + 1) (n := slots + 6) (by omega) (by omega) ?_
                                                              exact hJ18 vM_566 vO vF_560 vC vT vRT_561 vG_562 vB_563 vRF vGF vBF vD vE vU vH hf H locs hP hD hS _ (lv_sub hl [0, 1, 2, 3, 4] rfl)
                                                            · have hf := it_f hf c568
                                                              refine lv_iconst (v := (0 : Int32)) hx hb dL_law_1530 (by decide) ?_
                                                              cases hf
                                                          · have hf := it_f hf c557
                                                            refine lv_tableOut (tgt := 1532) hx hb dL_law_40 (by
                                                              have zc20 : ¬ (((xs (x4).toNatClampNeg) &&& (31 : Int32))).toInt = 0 := fun h9 => c20 (Int32.toInt_inj.mp (h9.trans (by decide)))
                                                              have zc38 : ¬ (((xs (x4).toNatClampNeg) &&& (31 : Int32))).toInt = 1 := fun h9 => c38 (Int32.toInt_inj.mp (h9.trans (by decide)))
                                                              have zc63 : ¬ (((xs (x4).toNatClampNeg) &&& (31 : Int32))).toInt = 2 := fun h9 => c63 (Int32.toInt_inj.mp (h9.trans (by decide)))
                                                              have zc70 : ¬ (((xs (x4).toNatClampNeg) &&& (31 : Int32))).toInt = 3 := fun h9 => c70 (Int32.toInt_inj.mp (h9.trans (by decide)))
                                                              have zc92 : ¬ (((xs (x4).toNatClampNeg) &&& (31 : Int32))).toInt = 4 := fun h9 => c92 (Int32.toInt_inj.mp (h9.trans (by decide)))
                                                              have zc112 : ¬ (((xs (x4).toNatClampNeg) &&& (31 : Int32))).toInt = 5 := fun h9 => c112 (Int32.toInt_inj.mp (h9.trans (by decide)))
                                                              have zc132 : ¬ (((xs (x4).toNatClampNeg) &&& (31 : Int32))).toInt = 6 := fun h9 => c132 (Int32.toInt_inj.mp (h9.trans (by decide)))
                                                              have zc156 : ¬ (((xs (x4).toNatClampNeg) &&& (31 : Int32))).toInt = 7 := fun h9 => c156 (Int32.toInt_inj.mp (h9.trans (by decide)))
                                                              have zc182 : ¬ (((xs (x4).toNatClampNeg) &&& (31 : Int32))).toInt = 8 := fun h9 => c182 (Int32.toInt_inj.mp (h9.trans (by decide)))
                                                              have zc206 : ¬ (((xs (x4).toNatClampNeg) &&& (31 : Int32))).toInt = 9 := fun h9 => c206 (Int32.toInt_inj.mp (h9.trans (by decide)))
                                                              have zc237 : ¬ (((xs (x4).toNatClampNeg) &&& (31 : Int32))).toInt = 10 := fun h9 => c237 (Int32.toInt_inj.mp (h9.trans (by decide)))
                                                              have zc259 : ¬ (((xs (x4).toNatClampNeg) &&& (31 : Int32))).toInt = 11 := fun h9 => c259 (Int32.toInt_inj.mp (h9.trans (by decide)))
                                                              have zc281 : ¬ (((xs (x4).toNatClampNeg) &&& (31 : Int32))).toInt = 12 := fun h9 => c281 (Int32.toInt_inj.mp (h9.trans (by decide)))
                                                              have zc305 : ¬ (((xs (x4).toNatClampNeg) &&& (31 : Int32))).toInt = 13 := fun h9 => c305 (Int32.toInt_inj.mp (h9.trans (by decide)))
                                                              have zc316 : ¬ (((xs (x4).toNatClampNeg) &&& (31 : Int32))).toInt = 14 := fun h9 => c316 (Int32.toInt_inj.mp (h9.trans (by decide)))
                                                              have zc338 : ¬ (((xs (x4).toNatClampNeg) &&& (31 : Int32))).toInt = 15 := fun h9 => c338 (Int32.toInt_inj.mp (h9.trans (by decide)))
                                                              have zc349 : ¬ (((xs (x4).toNatClampNeg) &&& (31 : Int32))).toInt = 16 := fun h9 => c349 (Int32.toInt_inj.mp (h9.trans (by decide)))
                                                              have zc371 : ¬ (((xs (x4).toNatClampNeg) &&& (31 : Int32))).toInt = 17 := fun h9 => c371 (Int32.toInt_inj.mp (h9.trans (by decide)))
                                                              have zc382 : ¬ (((xs (x4).toNatClampNeg) &&& (31 : Int32))).toInt = 18 := fun h9 => c382 (Int32.toInt_inj.mp (h9.trans (by decide)))
                                                              have zc393 : ¬ (((xs (x4).toNatClampNeg) &&& (31 : Int32))).toInt = 19 := fun h9 => c393 (Int32.toInt_inj.mp (h9.trans (by decide)))
                                                              have zc415 : ¬ (((xs (x4).toNatClampNeg) &&& (31 : Int32))).toInt = 20 := fun h9 => c415 (Int32.toInt_inj.mp (h9.trans (by decide)))
                                                              have zc426 : ¬ (((xs (x4).toNatClampNeg) &&& (31 : Int32))).toInt = 21 := fun h9 => c426 (Int32.toInt_inj.mp (h9.trans (by decide)))
                                                              have zc449 : ¬ (((xs (x4).toNatClampNeg) &&& (31 : Int32))).toInt = 22 := fun h9 => c449 (Int32.toInt_inj.mp (h9.trans (by decide)))
                                                              have zc470 : ¬ (((xs (x4).toNatClampNeg) &&& (31 : Int32))).toInt = 23 := fun h9 => c470 (Int32.toInt_inj.mp (h9.trans (by decide)))
                                                              have zc493 : ¬ (((xs (x4).toNatClampNeg) &&& (31 : Int32))).toInt = 24 := fun h9 => c493 (Int32.toInt_inj.mp (h9.trans (by decide)))
                                                              have zc521 : ¬ (((xs (x4).toNatClampNeg) &&& (31 : Int32))).toInt = 25 := fun h9 => c521 (Int32.toInt_inj.mp (h9.trans (by decide)))
                                                              have zc530 : ¬ (((xs (x4).toNatClampNeg) &&& (31 : Int32))).toInt = 26 := fun h9 => c530 (Int32.toInt_inj.mp (h9.trans (by decide)))
                                                              have zc546 : ¬ (((xs (x4).toNatClampNeg) &&& (31 : Int32))).toInt = 27 := fun h9 => c546 (Int32.toInt_inj.mp (h9.trans (by decide)))
                                                              have zc557 : ¬ (((xs (x4).toNatClampNeg) &&& (31 : Int32))).toInt = 28 := fun h9 => c557 (Int32.toInt_inj.mp (h9.trans (by decide)))
                                                              omega) (by decide) ?_
                                                            refine W.widen (k := cells + 1) (n := slots + 6) (by omega) (by omega) ?_
                                                            exact hJ18 vM vO vF vC vT vRT vG vB vRF vGF vBF vD vE vU vH hf H locs hP hD hS _ (lv_sub hl [0, 1, 2, 3, 4] rfl)
