/-! the start: what lies outside -/
theorem L_el : ∀ j, j < 6 → NRW[7 + j]? = some (Cond.eq (.elem (.static "FaultTests" "LANES_WITH_BIT" "[J") (.int (Int32.ofNat j))) (.long (lanesJ j))) := by decide +kernel
theorem F_el : ∀ j, j < 9 → NRW[35 + j]? = some (Cond.eq (.elem (.static "FaultTests" "FEWEST_OPERANDS" "[I") (.int (Int32.ofNat j))) (.int (fewI j))) := by decide +kernel
theorem M_el : ∀ j, j < 9 → NRW[23 + j]? = some (Cond.eq (.elem (.static "FaultTests" "MOST_OPERANDS" "[I") (.int (Int32.ofNat j))) (.int (mostI j))) := by decide +kernel
theorem L_at : NRW[5]? = some (Cond.arrayOf (.static "FaultTests" "LANES_WITH_BIT" "[J") .long) ∧ NRW[6]? = some (Cond.eq (.length (.static "FaultTests" "LANES_WITH_BIT" "[J")) (.int 6)) := by decide +kernel
theorem F_at : NRW[33]? = some (Cond.arrayOf (.static "FaultTests" "FEWEST_OPERANDS" "[I") .int) ∧ NRW[34]? = some (Cond.eq (.length (.static "FaultTests" "FEWEST_OPERANDS" "[I")) (.int 9)) := by decide +kernel
theorem M_at : NRW[21]? = some (Cond.arrayOf (.static "FaultTests" "MOST_OPERANDS" "[I") .int) ∧ NRW[22]? = some (Cond.eq (.length (.static "FaultTests" "MOST_OPERANDS" "[I")) (.int 9)) := by decide +kernel
theorem B_at : NRW[13]? = some (Cond.isRef (.static Bundle.tN "UNASSIGNED_STACK" Bundle.steD)) ∧ NRW[14]? = some (Cond.isRef (.static Bundle.tN "SUPPRESSED_SENTINEL" Bundle.listD)) ∧ NRW[15]? = some (Cond.eq (.static "java/lang/String" "COMPACT_STRINGS" "Z") (.int 1)) ∧ NRW[16]? = some (Cond.isRef (.static "jdk/internal/util/Preconditions" "SIOOBE_FORMATTER" "Ljava/util/function/BiFunction;")) := by decide +kernel
theorem T_st : tables_1[324]? = some (Cond.laysStatic "FaultTests" "LANES_WITH_BIT" "[J") ∧ tables_1[559]? = some (Cond.laysStatic Bundle.tN "UNASSIGNED_STACK" Bundle.steD) ∧ tables_1[561]? = some (Cond.laysStatic Bundle.tN "SUPPRESSED_SENTINEL" Bundle.listD) ∧ tables_1[700]? = some (Cond.laysStatic "java/lang/String" "COMPACT_STRINGS" "Z") ∧ tables_1[716]? = some (Cond.laysStatic "jdk/internal/util/Preconditions" "SIOOBE_FORMATTER" "Ljava/util/function/BiFunction;") ∧ tables_1[778]? = some (Cond.laysStatic "FaultTests" "MOST_OPERANDS" "[I") ∧ tables_1[784]? = some (Cond.laysStatic "FaultTests" "FEWEST_OPERANDS" "[I") := by decide +kernel
theorem T_in : tables_1[1]? = some (Cond.initialized "FaultTests") ∧ tables_1[10]? = some (Cond.initialized Bundle.tN) ∧ tables_1[15]? = some (Cond.initialized "java/lang/String") ∧ tables_1[17]? = some (Cond.initialized "jdk/internal/util/Preconditions") ∧ tables_1[203]? = some (Cond.arrayOver (.object "FaultTests$Setup")) := by decide +kernel
theorem T_sr : ∀ q ∈ stT, Cond.stringRef q.1 q.2.1 q.2.2.1 ∈ tables_1 := by decide +kernel
theorem T_nf : ∀ q ∈ nfT, Cond.fieldLinkNest q.1 q.2.1 q.2.2.1 q.2.2.2.1 q.2.2.2.2.1 q.2.2.2.2.2 ∈ tables_1 := by decide +kernel
theorem T_nm : ∀ q ∈ nmT, Cond.methodLinkNest q.1 q.2.1 q.2.2.1 q.2.2.2 ∈ tables_1 := by decide +kernel
theorem T_dc : ∀ x ∈ dcT, Cond.declares x ∈ tables_1 := by decide +kernel
theorem T_ex : ∀ x ∈ exT, Cond.castable x x ∈ tables_1 := by decide +kernel
theorem N_nc : ∀ q ∈ ncT, Cond.not (.castable q.1 q.2) ∈ NRW := by decide +kernel
theorem N_st : ∀ q ∈ stT, q.2.2.2 < 26 ∧ ((Term.string q.1 q.2.1) = tmS q.2.2.2 ∨ Cond.eq (.string q.1 q.2.1) (tmS q.2.2.2) ∈ NRW) := by decide +kernel
theorem st_BV {args : Array Value} {s : State} (hts : ∀ w ∈ tables_1, w.before args s = true) (hn : ∀ w ∈ NRW, w.before args s = true) (g : Gx) (hev : ∀ i : Nat, i < 26 → (tmS i).eval args s none [] s = some (.ref (adK g i))) : BV g s := by
  refine ⟨fun q hq => ?_, fun q hq => va_Nw.of rfl (hts _ (T_nf q hq)), fun q hq => va_Nw.of rfl (hts _ (T_nm q hq)), va_AO.of (hts _ (List.mem_of_getElem? T_in.2.2.2.2)), fun x hx => va_Nw.of rfl (hts _ (T_dc x hx)), fun x hx => va_Nw.of rfl (hts _ (T_ex x hx)), fun q hq => va_Nc.of (hn _ (N_nc q hq))⟩
  obtain ⟨h26, h⟩ := N_st q hq
  refine vk_R.of (A := args) (hts _ (T_sr q hq)) ?_
  rcases h with h | h
  · rw [h]
    exact hev _ h26
  · exact Cond.eq_plain (hn _ h) (hev _ h26) (Or.inr (Or.inr rfl))
theorem st_BG {args : Array Value} {s : State} {A : Nat → Prop} (hts : ∀ w ∈ tables_1, w.before args s = true) (hn : ∀ w ∈ NRW, w.before args s = true) (hA : ∀ a : Nat, a < s.heap.size → ¬ A a) : ∃ aK aV aS : Nat → Nat, ∀ (D : va_G) (cI cJ cB cS : ClassId), BG (D, cI, cJ, cB, cS, aK, aV, aS) A s s.heap := by
  have tin : ∀ {k : Nat} {w : Cond}, tables_1[k]? = some w → w.before args s = true := fun e => hts _ (List.mem_of_getElem? e)
  obtain ⟨aK, aV, hS, hev⟩ := st_S hn hA
  obtain ⟨l1, l2, l3, l4, l5, l6, l7⟩ := T_st
  obtain ⟨i1, i2, i3, i4, -⟩ := T_in
  obtain ⟨b1, b2, b3, b4⟩ := B_at
  obtain ⟨t0, e0, h0⟩ := va_Tof (N := 6) (f := fun j => .long (lanesJ j)) (A := A) (by decide) (NRW_at hn L_at.1) (va_eqt (NRW_at hn L_at.2)) (fun j hj => va_eqtl (NRW_at hn (L_el j hj))) hA
  obtain ⟨t1, e1, h1⟩ := va_Tof (N := 9) (f := fun j => .int (fewI j)) (A := A) (by decide) (NRW_at hn F_at.1) (va_eqt (NRW_at hn F_at.2)) (fun j hj => va_eqt (NRW_at hn (F_el j hj))) hA
  obtain ⟨t2, e2, h2⟩ := va_Tof (N := 9) (f := fun j => .int (mostI j)) (A := A) (by decide) (NRW_at hn M_at.1) (va_eqt (NRW_at hn M_at.2)) (fun j hj => va_eqt (NRW_at hn (M_el j hj))) hA
  exact ⟨aK, aV, fun k => if k = 0 then t0 else if k = 1 then t1 else t2, fun D cI cJ cB cS => ⟨st_BV hts hn _ hev, ⟨vx_Zqof (tin l2) (tin i2) (NRW_at hn b1) hA, vx_Zqof (tin l3) (tin i2) (NRW_at hn b2) hA⟩, hS, ⟨va_Zof (tin l4) (tin i3) (va_eqt (NRW_at hn b3)) hA, va_Zqof (tin l5) (tin i4) (NRW_at hn b4) hA⟩, ⟨va_Zof (tin l1) (tin i1) e0 hA, h0⟩, ⟨va_Zof (tin l7) (tin i1) e1 hA, h1⟩, ⟨va_Zof (tin l6) (tin i1) e2 hA, h2⟩⟩⟩
