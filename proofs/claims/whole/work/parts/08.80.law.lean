theorem gU_H {own : String} {idx : Nat} {y : MethodName} {bytes : ByteArray} {maxL : Nat} {ret : Option FieldType} {hh : List (Nat × Nat × Nat × Nat)} (h1 : Cond.methodLink own idx y ∈ UW) (hc : Cond.static y ∈ UW ∧ Cond.initialized y.cls ∈ UW ∧ Cond.codeWith y bytes maxL ret hh ∈ UW) : GoodIn UW (va_wsS own idx y (Cond.codeWith y bytes maxL ret hh :: UW)) := by
  obtain ⟨h2, h3, h5⟩ := hc
  intro w hw
  simp only [va_wsS, List.mem_append, List.mem_cons, List.not_mem_nil, or_false] at hw
  rcases hw with (rfl | rfl | rfl) | rfl | hw
  all_goals exact ⟨by assumption, good_of_word (UW_good (by assumption)).2⟩
theorem hdL_load : yL_load.cls ≠ "java/lang/invoke/MethodHandle" ∧ yL_load.cls ≠ "java/lang/invoke/VarHandle" ∧ (parseMethodDescriptor yL_load.desc).map (fun d => d.parameters.length) = some 3 := by decide +kernel
theorem hcL_load : Cond.static yL_load ∈ UW ∧ Cond.initialized yL_load.cls ∈ UW ∧ (Cond.codeWith yL_load cL_load 4 (some .int) [(0, 9, 12, 13)]) ∈ UW := ⟨mw_3_168, mw_1_0, mw_3_169⟩
theorem hdL_state : yL_state.cls ≠ "java/lang/invoke/MethodHandle" ∧ yL_state.cls ≠ "java/lang/invoke/VarHandle" ∧ (parseMethodDescriptor yL_state.desc).map (fun d => d.parameters.length) = some 3 := by decide +kernel
theorem hcL_state : Cond.static yL_state ∈ UW ∧ Cond.initialized yL_state.cls ∈ UW ∧ (Cond.codeWith yL_state cL_state 4 (some .int) [(0, 9, 12, 13)]) ∈ UW := ⟨mw_4_118, mw_1_0, mw_4_119⟩
theorem hdL_wire : yL_wire.cls ≠ "java/lang/invoke/MethodHandle" ∧ yL_wire.cls ≠ "java/lang/invoke/VarHandle" ∧ (parseMethodDescriptor yL_wire.desc).map (fun d => d.parameters.length) = some 4 := by decide +kernel
theorem hcL_wire : Cond.static yL_wire ∈ UW ∧ Cond.initialized yL_wire.cls ∈ UW ∧ (Cond.codeWith yL_wire cL_wire 5 (some .int) [(0, 10, 13, 22), (0, 10, 17, 13)]) ∈ UW := ⟨mw_4_122, mw_1_0, mw_4_123⟩
theorem hdL_operand : yL_operand.cls ≠ "java/lang/invoke/MethodHandle" ∧ yL_operand.cls ≠ "java/lang/invoke/VarHandle" ∧ (parseMethodDescriptor yL_operand.desc).map (fun d => d.parameters.length) = some 4 := by decide +kernel
theorem hcL_operand : Cond.static yL_operand ∈ UW ∧ Cond.initialized yL_operand.cls ∈ UW ∧ (Cond.codeWith yL_operand cL_operand 5 (some .int) [(0, 10, 13, 22), (0, 10, 17, 27)]) ∈ UW := ⟨mw_4_127, mw_1_0, mw_4_128⟩
theorem hdL_value : yL_value.cls ≠ "java/lang/invoke/MethodHandle" ∧ yL_value.cls ≠ "java/lang/invoke/VarHandle" ∧ (parseMethodDescriptor yL_value.desc).map (fun d => d.parameters.length) = some 4 := by decide +kernel
theorem hcL_value : Cond.static yL_value ∈ UW ∧ Cond.initialized yL_value.cls ∈ UW ∧ (Cond.codeWith yL_value cL_value 5 (some .int) [(0, 10, 13, 22)]) ∈ UW := ⟨mw_4_151, mw_1_0, mw_4_152⟩
theorem hdL_faulty : yL_faulty.cls ≠ "java/lang/invoke/MethodHandle" ∧ yL_faulty.cls ≠ "java/lang/invoke/VarHandle" ∧ (parseMethodDescriptor yL_faulty.desc).map (fun d => d.parameters.length) = some 5 := by decide +kernel
theorem hcL_faulty : Cond.static yL_faulty ∈ UW ∧ Cond.initialized yL_faulty.cls ∈ UW ∧ (Cond.codeWith yL_faulty cL_faulty 6 (some .int) [(0, 12, 15, 22)]) ∈ UW := ⟨mw_4_163, mw_1_0, mw_4_164⟩
theorem hdL_finds : yL_finds.cls ≠ "java/lang/invoke/MethodHandle" ∧ yL_finds.cls ≠ "java/lang/invoke/VarHandle" ∧ (parseMethodDescriptor yL_finds.desc).map (fun d => d.parameters.length) = some 4 := by decide +kernel
theorem hcL_finds : Cond.static yL_finds ∈ UW ∧ Cond.initialized yL_finds.cls ∈ UW ∧ (Cond.codeWith yL_finds cL_finds 5 (some .int) [(0, 10, 13, 22)]) ∈ UW := ⟨mw_4_176, mw_1_0, mw_4_177⟩
theorem hdL_tellsApart : yL_tellsApart.cls ≠ "java/lang/invoke/MethodHandle" ∧ yL_tellsApart.cls ≠ "java/lang/invoke/VarHandle" ∧ (parseMethodDescriptor yL_tellsApart.desc).map (fun d => d.parameters.length) = some 5 := by decide +kernel
theorem hcL_tellsApart : Cond.static yL_tellsApart ∈ UW ∧ Cond.initialized yL_tellsApart.cls ∈ UW ∧ (Cond.codeWith yL_tellsApart cL_tellsApart 6 (some .int) [(0, 19, 22, 22)]) ∈ UW := ⟨mw_4_189, mw_1_0, mw_4_190⟩
theorem hdL_worth : yL_worth.cls ≠ "java/lang/invoke/MethodHandle" ∧ yL_worth.cls ≠ "java/lang/invoke/VarHandle" ∧ (parseMethodDescriptor yL_worth.desc).map (fun d => d.parameters.length) = some 3 := by decide +kernel
theorem hcL_worth : Cond.static yL_worth ∈ UW ∧ Cond.initialized yL_worth.cls ∈ UW ∧ (Cond.codeWith yL_worth cL_worth 4 (some .int) [(0, 9, 12, 22)]) ∈ UW := ⟨mw_4_196, mw_1_0, mw_4_197⟩
theorem hdL_testFor : yL_testFor.cls ≠ "java/lang/invoke/MethodHandle" ∧ yL_testFor.cls ≠ "java/lang/invoke/VarHandle" ∧ (parseMethodDescriptor yL_testFor.desc).map (fun d => d.parameters.length) = some 3 := by decide +kernel
theorem hcL_testFor : Cond.static yL_testFor ∈ UW ∧ Cond.initialized yL_testFor.cls ∈ UW ∧ (Cond.codeWith yL_testFor cL_testFor 4 (some .int) [(0, 9, 12, 22)]) ∈ UW := ⟨mw_4_203, mw_1_0, mw_4_204⟩
theorem hdL_testBetween : yL_testBetween.cls ≠ "java/lang/invoke/MethodHandle" ∧ yL_testBetween.cls ≠ "java/lang/invoke/VarHandle" ∧ (parseMethodDescriptor yL_testBetween.desc).map (fun d => d.parameters.length) = some 4 := by decide +kernel
theorem hcL_testBetween : Cond.static yL_testBetween ∈ UW ∧ Cond.initialized yL_testBetween.cls ∈ UW ∧ (Cond.codeWith yL_testBetween cL_testBetween 5 (some .int) [(0, 10, 13, 22)]) ∈ UW := ⟨mw_4_210, mw_1_0, mw_4_211⟩
theorem hdL_alike : yL_alike.cls ≠ "java/lang/invoke/MethodHandle" ∧ yL_alike.cls ≠ "java/lang/invoke/VarHandle" ∧ (parseMethodDescriptor yL_alike.desc).map (fun d => d.parameters.length) = some 3 := by decide +kernel
theorem hcL_alike : Cond.static yL_alike ∈ UW ∧ Cond.initialized yL_alike.cls ∈ UW ∧ (Cond.codeWith yL_alike cL_alike 4 (some .int) [(0, 9, 12, 22)]) ∈ UW := ⟨mw_4_217, mw_1_0, mw_4_218⟩
theorem hdL_suspect : yL_suspect.cls ≠ "java/lang/invoke/MethodHandle" ∧ yL_suspect.cls ≠ "java/lang/invoke/VarHandle" ∧ (parseMethodDescriptor yL_suspect.desc).map (fun d => d.parameters.length) = some 3 := by decide +kernel
theorem hcL_suspect : Cond.static yL_suspect ∈ UW ∧ Cond.initialized yL_suspect.cls ∈ UW ∧ (Cond.codeWith yL_suspect cL_suspect 4 (some .int) [(0, 9, 12, 27)]) ∈ UW := ⟨mw_4_224, mw_1_0, mw_4_225⟩
theorem hdL_addTest : yL_addTest.cls ≠ "java/lang/invoke/MethodHandle" ∧ yL_addTest.cls ≠ "java/lang/invoke/VarHandle" ∧ (parseMethodDescriptor yL_addTest.desc).map (fun d => d.parameters.length) = some 4 := by decide +kernel
theorem hcL_addTest : Cond.static yL_addTest ∈ UW ∧ Cond.initialized yL_addTest.cls ∈ UW ∧ (Cond.codeWith yL_addTest cL_addTest 5 (some .int) [(0, 10, 13, 13), (0, 10, 17, 61)]) ∈ UW := ⟨mw_4_232, mw_1_0, mw_4_233⟩
theorem hdL_removeTest : yL_removeTest.cls ≠ "java/lang/invoke/MethodHandle" ∧ yL_removeTest.cls ≠ "java/lang/invoke/VarHandle" ∧ (parseMethodDescriptor yL_removeTest.desc).map (fun d => d.parameters.length) = some 3 := by decide +kernel
theorem hcL_removeTest : Cond.static yL_removeTest ∈ UW ∧ Cond.initialized yL_removeTest.cls ∈ UW ∧ (Cond.codeWith yL_removeTest cL_removeTest 4 (some .int) [(0, 9, 12, 22)]) ∈ UW := ⟨mw_5_21, mw_1_0, mw_5_22⟩
theorem hdL_setKind : yL_setKind.cls ≠ "java/lang/invoke/MethodHandle" ∧ yL_setKind.cls ≠ "java/lang/invoke/VarHandle" ∧ (parseMethodDescriptor yL_setKind.desc).map (fun d => d.parameters.length) = some 4 := by decide +kernel
theorem hcL_setKind : Cond.static yL_setKind ∈ UW ∧ Cond.initialized yL_setKind.cls ∈ UW ∧ (Cond.codeWith yL_setKind cL_setKind 5 (some .int) [(0, 10, 13, 22), (0, 10, 17, 13)]) ∈ UW := ⟨mw_5_35, mw_1_0, mw_5_36⟩
theorem hdL_see : yL_see.cls ≠ "java/lang/invoke/MethodHandle" ∧ yL_see.cls ≠ "java/lang/invoke/VarHandle" ∧ (parseMethodDescriptor yL_see.desc).map (fun d => d.parameters.length) = some 5 := by decide +kernel
theorem hcL_see : Cond.static yL_see ∈ UW ∧ Cond.initialized yL_see.cls ∈ UW ∧ (Cond.codeWith yL_see cL_see 6 (some .int) [(0, 12, 15, 22), (0, 12, 19, 13)]) ∈ UW := ⟨mw_5_46, mw_1_0, mw_5_47⟩
section
variable {p : Program} {l : Launch} {e : Env} {R : Room} {s : State} {m : MethodId} {args : Array Value} {below : List Frame} {meth : Method} {c : Code} {H : Heap} {locs : List Loc} {cells slots : Nat} {Q : State → Prop} {g : Gx} {A : Nat → Prop}
theorem k_vdQ {cc : ByteArray} {nL : Nat} {Ts : List Cond} {own : String} (S : CallFix p m c cc nL s args Ts own) {ws wc wr w1 w2 : va_W} (hK : va_K g.1 vwCl (tyL g) s) (hP : va_P g.1 vwCl ws H) (hD : va_D A ws) (hS : va_S A s.heap H locs) (hA : ∀ q, s.heap.size ≤ q → A q) (hG : BG g A s s.heap) {y : MethodName} {wy : List Cond} {rm : Room} {As : List Value} {a : Nat} {r : UInt64} {mc ms : Nat} (hM : CtD l y wy rm g (.ref a :: As) wc w1 r mc ms) {C : String} {index : Nat} {bytes : ByteArray} {maxL : Nat} {ret : Option FieldType} {n : Nat} (cw : CallW R s args own C index y bytes maxL ret wy rm mc ms n) {q0 ci : Nat} {fs : List Value} {q : vw_C} (hc : vwCl[ci]? = some q) (he : ws[q0]? = some (a, .inr (ci, fs))) (hq : q.1 = C) (hp : ws.Perm (wc ++ wr)) (hqp : (w1 ++ wr).Perm w2) {pc : Nat} {ls : Array Slot} {st rest : List Value} (hst : st = As.reverse ++ .ref a :: rest) (hn : As.length = n) (hsz : ls.size = nL) (hW : (rest.map fun v => v.category).sum ≤ 8) (hdg : decode cc pc = .ok (.invokevirtual index, 3)) {k1 n1 : Nat} (hk : cells + mc = k1) (hns : slots + ms = n1) (hf : k1 ≤ R.cells ∧ n1 ≤ R.slots) (kk : ∀ (H1 : Heap) (locs1 : List Loc), va_P g.1 vwCl w2 H1 → va_D A w2 → va_S A s.heap H1 locs1 → W p l e R s m args below meth c H1 locs1 k1 n1 Q (F0 m (pc + 3) ls (.double r :: rest))) : W p l e R s m args below meth c H locs cells slots Q (F0 m pc ls st) := by
  subst hst; subst hk; subst hns
  subst hq
  have hFc : ∀ q, va_A wc H.size q → A q := fun q h => (k_free (hD.perm hp) hS hA) q (h.elim (fun ⟨k, e, h⟩ => Or.inl ⟨k, e, by rw [List.getElem?_append_left (List.getElem?_eq_some_iff.mp h).1]; exact h⟩) Or.inr)
  have hPc : va_P g.1 vwCl wc H := fun k q hk => (hP.perm hp) k q (by rw [List.getElem?_append_left (List.getElem?_eq_some_iff.mp hk).1]; exact hk)
  have hDc : va_D (fun _ => True) wc := by
    obtain ⟨h1, h2⟩ := va_D.iff.mp (hD.perm hp)
    rw [List.map_append] at h1
    exact va_D.iff.mpr ⟨(List.nodup_append.mp h1).1, fun _ _ => trivial⟩
  refine va_calld (va_runV (As := As) (rest := rest) S (hM H.size) cw ⟨k_blind, va_recv hK hP hc he, fun U hU hW => ⟨rfl, by rw [hU], by rw [hU]; exact hPc, va_K.moved hW.alike hK, hDc, by rw [hU]; exact BG.warm hW ((hG.kept hS.2.1).narrow hFc)⟩⟩ rfl hn hsz rfl (lv_room hW) hdg hf) hS (fun q _ h => hFc q h) hFc (fun r1 u t H1 locs1 ht hvm hw hB hz1 hk1 hS1 => ?_)
  obtain ⟨hP1, _, hD1⟩ := hB
  rw [ht] at hP1
  subst hw
  obtain ⟨hP2, hD2⟩ := k_joinQ hP hD hp hqp hk1 hFc hP1 hD1
  exact kk H1 locs1 hP2 hD2 hS1
end
