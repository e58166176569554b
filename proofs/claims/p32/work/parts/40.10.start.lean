/-! the start: what lies outside -/
theorem L_el : ∀ j, j < 6 → NRW[9 + j]? = some (Cond.eq (.elem (.static "FaultTests" "LANES_WITH_BIT" "[J") (.int (Int32.ofNat j))) (.long (lanesJ j))) := by decide +kernel
theorem L_at : NRW[7]? = some (Cond.arrayOf (.static "FaultTests" "LANES_WITH_BIT" "[J") .long) ∧ NRW[8]? = some (Cond.eq (.length (.static "FaultTests" "LANES_WITH_BIT" "[J")) (.int 6)) := by decide +kernel
theorem F_el : ∀ j, j < 9 → NRW[35 + j]? = some (Cond.eq (.elem (.static "FaultTests" "FEWEST_OPERANDS" "[I") (.int (Int32.ofNat j))) (.int (fewI j))) := by decide +kernel
theorem F_at : NRW[33]? = some (Cond.arrayOf (.static "FaultTests" "FEWEST_OPERANDS" "[I") .int) ∧ NRW[34]? = some (Cond.eq (.length (.static "FaultTests" "FEWEST_OPERANDS" "[I")) (.int 9)) := by decide +kernel
theorem M_el : ∀ j, j < 9 → NRW[23 + j]? = some (Cond.eq (.elem (.static "FaultTests" "MOST_OPERANDS" "[I") (.int (Int32.ofNat j))) (.int (mostI j))) := by decide +kernel
theorem M_at : NRW[21]? = some (Cond.arrayOf (.static "FaultTests" "MOST_OPERANDS" "[I") .int) ∧ NRW[22]? = some (Cond.eq (.length (.static "FaultTests" "MOST_OPERANDS" "[I")) (.int 9)) := by decide +kernel
theorem D_el : ∀ j, j < 100 → NRW[47 + j]? = some (Cond.eq (.elem (.static "java/lang/Integer" "DigitOnes" "[B") (.int (Int32.ofNat j))) (.int (digI j))) := by decide +kernel
theorem D_at : NRW[45]? = some (Cond.arrayOf (.static "java/lang/Integer" "DigitOnes" "[B") .byte) ∧ NRW[46]? = some (Cond.eq (.length (.static "java/lang/Integer" "DigitOnes" "[B")) (.int 100)) := by decide +kernel
theorem Nm_el : ∀ j, j < 9 → NRW[253 + j]? = some (Cond.eq (.elem (.static "FaultTestsLaw" "NAMES" "[Ljava/lang/String;") (.int (Int32.ofNat j))) (tmS (nmS j))) := by decide +kernel
theorem Nm_at : NRW[251]? = some (Cond.arrayOf (.static "FaultTestsLaw" "NAMES" "[Ljava/lang/String;") (.object "java/lang/String")) ∧ NRW[252]? = some (Cond.eq (.length (.static "FaultTestsLaw" "NAMES" "[Ljava/lang/String;")) (.int 9)) := by decide +kernel
theorem B_at : NRW[15]? = some (Cond.eq (.static "java/lang/String" "COMPACT_STRINGS" "Z") (.int 1)) ∧ NRW[16]? = some (Cond.isRef (.static "jdk/internal/util/Preconditions" "SIOOBE_FORMATTER" "Ljava/util/function/BiFunction;")) := by decide +kernel
theorem T_st : Cond.laysStatic "FaultTests" "LANES_WITH_BIT" "[J" ∈ tables_1 ∧ Cond.laysStatic "java/lang/String" "COMPACT_STRINGS" "Z" ∈ tables_1 ∧ Cond.laysStatic "jdk/internal/util/Preconditions" "SIOOBE_FORMATTER" "Ljava/util/function/BiFunction;" ∈ tables_1 ∧ Cond.laysStatic "FaultTests" "MOST_OPERANDS" "[I" ∈ tables_1 ∧ Cond.laysStatic "FaultTests" "FEWEST_OPERANDS" "[I" ∈ tables_1 ∧ Cond.laysStatic "FaultTestsLaw" "NAMES" "[Ljava/lang/String;" ∈ tables_1 ∧ Cond.laysStatic "java/lang/Integer" "DigitOnes" "[B" ∈ tables_1 := by decide +kernel
theorem T_in : Cond.initialized "FaultTests" ∈ tables_1 ∧ Cond.initialized "java/lang/String" ∈ tables_1 ∧ Cond.initialized "jdk/internal/util/Preconditions" ∈ tables_1 ∧ Cond.initialized "FaultTestsLaw" ∈ tables_1 ∧ Cond.initialized "java/lang/Integer" ∈ tables_1 ∧ Cond.arrayOver (.object "FaultTests$Setup") ∈ tables_1 ∧ Cond.arrayOver (.array .int) ∈ tables_1 ∧ Cond.castable "[B" "java/lang/Cloneable" ∈ tables_1 := by decide +kernel
theorem T_sr : ∀ q ∈ stT, Cond.stringRef q.1 q.2.1 q.2.2.1 ∈ tables_1 := by decide +kernel
theorem T_nf : ∀ q ∈ nfT, Cond.fieldLinkNest q.1 q.2.1 q.2.2.1 q.2.2.2.1 q.2.2.2.2.1 q.2.2.2.2.2 ∈ tables_1 := by decide +kernel
theorem T_nm : ∀ q ∈ nmT, Cond.methodLinkNest q.1 q.2.1 q.2.2.1 q.2.2.2 ∈ tables_1 := by decide +kernel
theorem N_st : ∀ q ∈ stT, q.2.2.2 < 27 ∧ ((Term.string q.1 q.2.1) = tmS q.2.2.2 ∨ Cond.eq (.string q.1 q.2.1) (tmS q.2.2.2) ∈ NRW) := by decide +kernel
theorem st_AA {args : Array Value} {s : State} (h : (Cond.arrayOver (.array .int)).before args s = true) : va_AA s := h
theorem st_BV {args : Array Value} {s : State} (hts : ∀ w ∈ tables_1, w.before args s = true) (hn : ∀ w ∈ NRW, w.before args s = true) (g : Gx) (hev : ∀ i : Nat, i < 27 → (tmS i).eval args s none [] s = some (.ref (adK g i))) : BV g s := by
  refine ⟨fun q hq => ?_, fun q hq => va_Nw.of rfl (hts _ (T_nf q hq)), fun q hq => va_Nw.of rfl (hts _ (T_nm q hq)), va_AO.of (hts _ T_in.2.2.2.2.2.1), va_Nw.of rfl (hts _ T_in.2.2.2.2.2.2.2), st_AA (hts _ T_in.2.2.2.2.2.2.1)⟩
  obtain ⟨h26, h⟩ := N_st q hq
  refine vk_R.of (A := args) (hts _ (T_sr q hq)) ?_
  rcases h with h | h
  · rw [h]
    exact hev _ h26
  · exact Cond.eq_plain (hn _ h) (hev _ h26) (Or.inr (Or.inr rfl))
theorem nmS_27 : ∀ j, j < 9 → nmS j < 27 := by decide
theorem st_BG {args : Array Value} {s : State} {A : Nat → Prop} (hts : ∀ w ∈ tables_1, w.before args s = true) (hn : ∀ w ∈ NRW, w.before args s = true) (hA : ∀ a : Nat, a < s.heap.size → ¬ A a) {b L : Nat} {X : Nat → Int32} (hb : va_T .int b L (fun j => .int (X j)) A s s.heap) : ∃ aK aV aS : Nat → Nat, aS 5 = b ∧ ∀ (D : va_G) (cI cJ cB cS cY cR : ClassId), BG (D, cI, cJ, cB, cS, aK, aV, aS, cY, cR, L, X) A s s.heap := by
  obtain ⟨aK, aV, hS, hev⟩ := st_S hn hA
  obtain ⟨l1, l4, l5, l6, l7, l8, l9⟩ := T_st
  obtain ⟨i1, i3, i4, i5, i6, -⟩ := T_in
  obtain ⟨b3, b4⟩ := B_at
  obtain ⟨t0, e0, h0⟩ := va_Tof (N := 6) (f := fun j => .long (lanesJ j)) (A := A) (by decide) (NRW_at hn L_at.1) (va_eqt (NRW_at hn L_at.2)) (fun j hj => va_eqtl (NRW_at hn (L_el j hj))) hA
  obtain ⟨t1, e1, h1⟩ := va_Tof (N := 9) (f := fun j => .int (fewI j)) (A := A) (by decide) (NRW_at hn F_at.1) (va_eqt (NRW_at hn F_at.2)) (fun j hj => va_eqt (NRW_at hn (F_el j hj))) hA
  obtain ⟨t2, e2, h2⟩ := va_Tof (N := 9) (f := fun j => .int (mostI j)) (A := A) (by decide) (NRW_at hn M_at.1) (va_eqt (NRW_at hn M_at.2)) (fun j hj => va_eqt (NRW_at hn (M_el j hj))) hA
  obtain ⟨t3, e3, h3⟩ := va_Tof (N := 9) (f := fun j => .ref (aK (nmS j))) (A := A) (by decide) (NRW_at hn Nm_at.1) (va_eqt (NRW_at hn Nm_at.2)) (fun j hj => Cond.eq_plain (NRW_at hn (Nm_el j hj)) (hev _ (nmS_27 j hj)) (Or.inr (Or.inr rfl))) hA
  obtain ⟨t4, e4, h4⟩ := va_Tof (N := 100) (f := fun j => .int (digI j)) (A := A) (by decide) (NRW_at hn D_at.1) (va_eqt (NRW_at hn D_at.2)) (fun j hj => va_eqt (NRW_at hn (D_el j hj))) hA
  exact ⟨aK, aV, fun k => if k = 0 then t0 else if k = 1 then t1 else if k = 2 then t2 else if k = 3 then t3 else if k = 4 then t4 else b, rfl, fun D cI cJ cB cS cY cR => ⟨st_BV hts hn _ hev, ⟨⟨va_Zof (hts _ l8) (hts _ i5) e3 hA, h3⟩, ⟨va_Zof (hts _ l9) (hts _ i6) e4 hA, h4⟩, hb⟩, hS, ⟨va_Zof (hts _ l4) (hts _ i3) (va_eqt (NRW_at hn b3)) hA, va_Zqof (hts _ l5) (hts _ i4) (NRW_at hn b4) hA⟩, ⟨va_Zof (hts _ l1) (hts _ i1) e0 hA, h0⟩, ⟨va_Zof (hts _ l7) (hts _ i1) e1 hA, h1⟩, ⟨va_Zof (hts _ l6) (hts _ i1) e2 hA, h2⟩⟩⟩
