/-! the start: what the tables and the premises say of it -/
def flA : Cond → List Cond → List Cond
  | .and a b, l => flA a (flA b l)
  | c, l => c :: l
theorem flA_e (T : Cond) : ∀ l, flA T l = flatC T ++ l := by
  induction T with
  | and a b iha ihb =>
    intro l
    show flA a (flA b l) = (flatC a ++ flatC b) ++ l
    rw [ihb, iha, List.append_assoc]
  | _ => intro l; rfl
def NRW : List Cond := flA (Cond.and given_1 narrow_1) []
theorem NRW_b {args : Array Value} {s : State} (h : (Cond.and given_1 narrow_1).before args s = true) : ∀ w ∈ NRW, w.before args s = true := fun w hw => flat_of_before _ h w (by
  have e : NRW = flatC (Cond.and given_1 narrow_1) ++ [] := flA_e _ []
  rw [e, List.append_nil] at hw
  exact hw)
theorem NRW_at {args : Array Value} {s : State} (h : ∀ w ∈ NRW, w.before args s = true) {k : Nat} {w : Cond} (e : NRW[k]? = some w) : w.before args s = true := h w (List.mem_of_getElem? e)
def srcS : List (String × Nat) := [("FaultTests", 245), ("FaultTestsModel", 194), ("FaultTestsModel", 243), ("FaultTestsModel", 212), ("FaultTestsModel", 256), ("FaultTests", 312), ("FaultTestsModel", 234), ("FaultTests", 75), ("FaultTestsModel", 214), ("FaultTestsModel", 202), ("FaultTests", 255), ("FaultTestsModel", 204), ("FaultTestsModel", 210), ("FaultTests", 241), ("FaultTests", 169), ("FaultTests", 263), ("FaultTestsModel", 200), ("FaultTestsModel", 238), ("FaultTests", 232), ("FaultTestsModel", 248), ("FaultTests", 270), ("FaultTests", 147), ("FaultTests", 309), ("FaultTestsModel", 232), ("FaultTestsModel", 208), ("FaultTestsModel", 206)]
def tmS (i : Nat) : Term := .string (srcS.getD i ("", 0)).1 (srcS.getD i ("", 0)).2
def pexS : List Nat := [294, 381, 466, 438, 360, 254, 372, 108, 446, 396, 306, 405, 430, 274, 234, 328, 389, 454, 263, 477, 351, 92, 100, 487, 421, 413]
def pcoS : List Nat := [295, 382, 467, 439, 361, 255, 373, 109, 447, 397, 307, 406, 431, 275, 235, 329, 390, 455, 264, 478, 352, 93, 101, 488, 422, 414]
def parS : List Nat := [296, 383, 468, 440, 362, 256, 374, 110, 448, 398, 308, 407, 432, 276, 236, 330, 391, 456, 265, 479, 353, 94, 102, 489, 423, 415]
def pleS : List Nat := [297, 384, 469, 441, 363, 257, 375, 111, 449, 399, 309, 408, 433, 277, 237, 331, 392, 457, 266, 480, 354, 95, 103, 490, 424, 416]
def pelS : List Nat := [298, 385, 470, 442, 364, 258, 376, 112, 450, 400, 310, 409, 434, 278, 238, 332, 393, 458, 267, 481, 355, 96, 104, 491, 425, 417]
theorem S_ex : ∀ i, i < 26 → NRW[pexS.getD i 0]? = some (Cond.exactly (tmS i) "java/lang/String") := by decide +kernel
theorem S_co : ∀ i, i < 26 → NRW[pcoS.getD i 0]? = some (Cond.eq (.field (tmS i) "java/lang/String" "coder" "B") (.int 0)) := by decide +kernel
theorem S_ar : ∀ i, i < 26 → NRW[parS.getD i 0]? = some (Cond.arrayOf (.field (tmS i) "java/lang/String" "value" "[B") .byte) := by decide +kernel
theorem S_le : ∀ i, i < 26 → NRW[pleS.getD i 0]? = some (Cond.eq (.length (.field (tmS i) "java/lang/String" "value" "[B")) (.int (Int32.ofNat (lenS.getD i 0)))) := by decide +kernel
theorem S_el : ∀ i, i < 26 → ∀ j, j < lenS.getD i 0 → NRW[pelS.getD i 0 + j]? = some (Cond.eq (.elem (.field (tmS i) "java/lang/String" "value" "[B") (.int (Int32.ofNat j))) (.int ((bytS.getD i []).getD j 0))) := by decide +kernel
theorem S_ne : ∀ i, i < 26 → ∀ j, j < 26 → i ≠ j → Int32.ofNat (lenS.getD i 0) ≠ Int32.ofNat (lenS.getD j 0) ∨ ∃ k, k < lenS.getD i 0 ∧ k < lenS.getD j 0 ∧ (bytS.getD i []).getD k 0 ≠ (bytS.getD j []).getD k 0 := by decide +kernel
theorem S_31 : ∀ i, i < 26 → lenS.getD i 0 < 2 ^ 31 := by decide +kernel
theorem te_len {args : Array Value} {s : State} {u v : Term} (h : u.eval args s none [] s = v.eval args s none [] s) : (Term.length u).eval args s none [] s = (Term.length v).eval args s none [] s := by simp only [Term.eval, h]
theorem te_elem {args : Array Value} {s : State} {u v : Term} (k : Term) (h : u.eval args s none [] s = v.eval args s none [] s) : (Term.elem u k).eval args s none [] s = (Term.elem v k).eval args s none [] s := by simp only [Term.eval, h]
theorem st_S {args : Array Value} {s : State} {A : Nat → Prop} (hn : ∀ w ∈ NRW, w.before args s = true) (hA : ∀ a : Nat, a < s.heap.size → ¬ A a) : ∃ adK adV : Nat → Nat, vk_S 26 lenS bytS adK adV A s s.heap ∧ ∀ i : Nat, i < 26 → (tmS i).eval args s none [] s = some (.ref (adK i)) := by
  have hle := fun i hi => va_eqt (NRW_at hn (S_le i hi))
  have hel := fun i hi j hj => va_eqt (NRW_at hn (S_el i hi j hj))
  refine vk_Sof S_31 (fun i hi => NRW_at hn (S_ex i hi)) (fun i hi => NRW_at hn (S_co i hi)) (fun i hi => NRW_at hn (S_ar i hi)) (fun i hi => NRW_at hn (S_le i hi)) (fun i hi j hj => NRW_at hn (S_el i hi j hj)) (fun i j hi hj hij => Or.inl ?_) hA
  obtain ⟨a, -, -, -, qi, -⟩ := Cond.exactly_spec (args := args) (first := s) (o := none) (s := s) (idx := []) (t := tmS i) (cls := "java/lang/String") (NRW_at hn (S_ex i hi))
  obtain ⟨b, -, -, -, qj, -⟩ := Cond.exactly_spec (args := args) (first := s) (o := none) (s := s) (idx := []) (t := tmS j) (cls := "java/lang/String") (NRW_at hn (S_ex j hj))
  have hne : a ≠ b := by
    intro e
    rw [← e] at qj
    have hf : (Term.field (tmS i) "java/lang/String" "value" "[B").eval args s none [] s = (Term.field (tmS j) "java/lang/String" "value" "[B").eval args s none [] s := (va_fe qi).trans (va_fe qj).symm
    rcases S_ne i hi j hj hij with h | ⟨k, k1, k2, h⟩
    · have e2 := (hle i hi).symm.trans ((te_len hf).trans (hle j hj))
      exact h (Value.int.inj (Option.some.inj e2))
    · have e2 := (hel i hi k k1).symm.trans ((te_elem _ hf).trans (hel j hj k k2))
      exact h (Value.int.inj (Option.some.inj e2))
  simp [Cond.before, Cond.holds, Cond.value, qi, qj, hne]
