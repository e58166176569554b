/-! words of the law's side -/
theorem hinJ0 : ∀ w ∈ u_ws RJ0 TJ0 4, w ∈ UW := by
  intro w hw
  obtain ⟨k, hk, rfl⟩ := List.mem_map.mp hw
  have hk := List.mem_range.mp hk
  match k, hk with
  | 0, _ => exact mw_5_150
  | 1, _ => exact mw_5_152
  | 2, _ => exact mw_5_154
  | 3, _ => exact mw_5_156
  | k + 4, h => exact absurd h (by omega)
theorem hinJ4 : ∀ w ∈ u_ws RJ4 TJ4 4, w ∈ UW := by
  intro w hw
  obtain ⟨k, hk, rfl⟩ := List.mem_map.mp hw
  have hk := List.mem_range.mp hk
  match k, hk with
  | 0, _ => exact mw_4_187
  | 1, _ => exact mw_4_189
  | 2, _ => exact mw_4_191
  | 3, _ => exact mw_4_193
  | k + 4, h => exact absurd h (by omega)
theorem hdL_bound : yL_bound.cls ≠ "java/lang/invoke/MethodHandle" ∧ yL_bound.cls ≠ "java/lang/invoke/VarHandle" ∧ (parseMethodDescriptor yL_bound.desc).map (fun d => d.parameters.length) = some 2 := by decide +kernel
theorem hcL_bound : Cond.static yL_bound ∈ UW ∧ Cond.initialized yL_bound.cls ∈ UW ∧ Cond.code yL_bound cL_bound 2 (some .int) ∈ UW := ⟨mw_3_147, mw_1_0, mw_3_148⟩
theorem hdL_cell : yL_cell.cls ≠ "java/lang/invoke/MethodHandle" ∧ yL_cell.cls ≠ "java/lang/invoke/VarHandle" ∧ (parseMethodDescriptor yL_cell.desc).map (fun d => d.parameters.length) = some 2 := by decide +kernel
theorem hcL_cell : Cond.static yL_cell ∈ UW ∧ Cond.initialized yL_cell.cls ∈ UW ∧ Cond.code yL_cell cL_cell 2 (some .int) ∈ UW := ⟨mw_3_144, mw_1_0, mw_3_145⟩
theorem hdL_isTest : yL_isTest.cls ≠ "java/lang/invoke/MethodHandle" ∧ yL_isTest.cls ≠ "java/lang/invoke/VarHandle" ∧ (parseMethodDescriptor yL_isTest.desc).map (fun d => d.parameters.length) = some 4 := by decide +kernel
theorem hcL_isTest : Cond.static yL_isTest ∈ UW ∧ Cond.initialized yL_isTest.cls ∈ UW ∧ Cond.code yL_isTest cL_isTest 10 (some .boolean) ∈ UW := ⟨mw_4_120, mw_1_0, mw_4_121⟩
theorem hdL_plain : yL_plain.cls ≠ "java/lang/invoke/MethodHandle" ∧ yL_plain.cls ≠ "java/lang/invoke/VarHandle" ∧ (parseMethodDescriptor yL_plain.desc).map (fun d => d.parameters.length) = some 3 := by decide +kernel
theorem hcL_plain : Cond.static yL_plain ∈ UW ∧ Cond.initialized yL_plain.cls ∈ UW ∧ Cond.code yL_plain cL_plain 5 (some .int) ∈ UW := ⟨mw_3_131, mw_1_0, mw_3_132⟩
theorem hdL_read : yL_read.cls ≠ "java/lang/invoke/MethodHandle" ∧ yL_read.cls ≠ "java/lang/invoke/VarHandle" ∧ (parseMethodDescriptor yL_read.desc).map (fun d => d.parameters.length) = some 2 := by decide +kernel
theorem hcL_read : Cond.static yL_read ∈ UW ∧ Cond.initialized yL_read.cls ∈ UW ∧ Cond.code yL_read cL_read 5 (some .int) ∈ UW := ⟨mw_3_151, mw_1_0, mw_3_152⟩
theorem hdL_sets : yL_sets.cls ≠ "java/lang/invoke/MethodHandle" ∧ yL_sets.cls ≠ "java/lang/invoke/VarHandle" ∧ (parseMethodDescriptor yL_sets.desc).map (fun d => d.parameters.length) = some 2 := by decide +kernel
theorem hcL_sets : Cond.static yL_sets ∈ UW ∧ Cond.initialized yL_sets.cls ∈ UW ∧ Cond.code yL_sets cL_sets 6 (some .int) ∈ UW := ⟨mw_3_128, mw_1_0, mw_3_129⟩
theorem hdL_toldOf : yL_toldOf.cls ≠ "java/lang/invoke/MethodHandle" ∧ yL_toldOf.cls ≠ "java/lang/invoke/VarHandle" ∧ (parseMethodDescriptor yL_toldOf.desc).map (fun d => d.parameters.length) = some 1 := by decide +kernel
theorem hcL_toldOf : Cond.static yL_toldOf ∈ UW ∧ Cond.initialized yL_toldOf.cls ∈ UW ∧ Cond.code yL_toldOf cL_toldOf 1 (some .int) ∈ UW := ⟨mw_4_145, mw_1_0, mw_4_146⟩
