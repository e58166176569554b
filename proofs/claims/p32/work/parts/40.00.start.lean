/-! the start: what the tables and the premises say of it -/
def flA : Cond → List Cond → List Cond
  | .and a b, l => flA a (flA b l)
  | c, l => c :: l
theorem flA_e (T : Cond) : ∀ l, flA T l = flatC T ++ l := by
  induction T with
  | and a b iha ihb =>
    intro l
    show flA a (flA b l) = (flatC a ++ flatC b) ++ l
    rw [ihb, iha, List.append_assoc]
  | _ => intro l; rfl
def NRW : List Cond := flA (Cond.and given_1 narrow_1) []
theorem NRW_b {args : Array Value} {s : State} (h : (Cond.and given_1 narrow_1).before args s = true) : ∀ w ∈ NRW, w.before args s = true := fun w hw => flat_of_before _ h w (by
  have e : NRW = flatC (Cond.and given_1 narrow_1) ++ [] := flA_e _ []
  rw [e, List.append_nil] at hw
  exact hw)
theorem NRW_at {args : Array Value} {s : State} (h : ∀ w ∈ NRW, w.before args s = true) {k : Nat} {w : Cond} (e : NRW[k]? = some w) : w.before args s = true := h w (List.mem_of_getElem? e)
def srcS : List (String × Nat) := [("FaultTestsLaw", 125), ("FaultTests", 245), ("FaultTestsLaw", 86), ("FaultTestsLaw", 162), ("FaultTests$SetupReader", 90), ("FaultTestsLaw", 123), ("FaultTestsLaw", 176), ("FaultTests$SetupReader", 67), ("FaultTestsLaw", 78), ("FaultTests", 312), ("FaultTests$SetupReader", 80), ("FaultTestsLaw", 103), ("FaultTests", 75), ("FaultTestsLaw", 178), ("FaultTestsLaw", 166), ("FaultTestsLaw", 168), ("FaultTestsLaw", 174), ("FaultTests", 241), ("FaultTestsLaw", 164), ("FaultTests$SetupReader", 85), ("FaultTestsLaw", 115), ("FaultTests", 310), ("FaultTests", 147), ("FaultTests", 309), ("FaultTests$SetupReader", 166), ("FaultTestsLaw", 172), ("FaultTestsLaw", 170)]
def tmS (i : Nat) : Term := .string (srcS.getD i ("", 0)).1 (srcS.getD i ("", 0)).2
def pexS : List Nat := [502, 299, 466, 511, 414, 491, 568, 321, 454, 270, 332, 471, 311, 576, 526, 535, 560, 279, 519, 404, 480, 437, 262, 446, 432, 551, 543]
def pcoS : List Nat := [503, 300, 467, 512, 415, 492, 569, 322, 455, 271, 333, 472, 312, 577, 527, 536, 561, 280, 520, 405, 481, 438, 263, 447, 433, 552, 544]
def parS : List Nat := [504, 301, 468, 513, 416, 493, 570, 323, 456, 272, 334, 473, 313, 578, 528, 537, 562, 281, 521, 406, 482, 439, 264, 448, 434, 553, 545]
def pleS : List Nat := [505, 302, 469, 514, 417, 494, 571, 324, 457, 273, 335, 474, 314, 579, 529, 538, 563, 282, 522, 407, 483, 440, 265, 449, 435, 554, 546]
def pelS : List Nat := [506, 303, 470, 515, 418, 495, 572, 325, 458, 274, 336, 475, 315, 580, 530, 539, 564, 283, 523, 408, 484, 441, 266, 450, 436, 555, 547]
theorem S_ex : ∀ i, i < 27 → NRW[pexS.getD i 0]? = some (Cond.exactly (tmS i) "java/lang/String") := by decide +kernel
theorem S_co : ∀ i, i < 27 → NRW[pcoS.getD i 0]? = some (Cond.eq (.field (tmS i) "java/lang/String" "coder" "B") (.int 0)) := by decide +kernel
theorem S_ar : ∀ i, i < 27 → NRW[parS.getD i 0]? = some (Cond.arrayOf (.field (tmS i) "java/lang/String" "value" "[B") .byte) := by decide +kernel
theorem S_le : ∀ i, i < 27 → NRW[pleS.getD i 0]? = some (Cond.eq (.length (.field (tmS i) "java/lang/String" "value" "[B")) (.int (Int32.ofNat (lenS.getD i 0)))) := by decide +kernel
theorem S_el : ∀ i, i < 27 → ∀ j, j < lenS.getD i 0 → NRW[pelS.getD i 0 + j]? = some (Cond.eq (.elem (.field (tmS i) "java/lang/String" "value" "[B") (.int (Int32.ofNat j))) (.int ((bytS.getD i []).getD j 0))) := by decide +kernel
theorem S_ne : ∀ i, i < 27 → ∀ j, j < 27 → i ≠ j → Int32.ofNat (lenS.getD i 0) ≠ Int32.ofNat (lenS.getD j 0) ∨ ∃ k, k < lenS.getD i 0 ∧ k < lenS.getD j 0 ∧ (bytS.getD i []).getD k 0 ≠ (bytS.getD j []).getD k 0 := by decide +kernel
theorem S_31 : ∀ i, i < 27 → lenS.getD i 0 < 2 ^ 31 := by decide +kernel
theorem te_len {args : Array Value} {s : State} {u v : Term} (h : u.eval args s none [] s = v.eval args s none [] s) : (Term.length u).eval args s none [] s = (Term.length v).eval args s none [] s := by simp only [Term.eval, h]
theorem te_elem {args : Array Value} {s : State} {u v : Term} (k : Term) (h : u.eval args s none [] s = v.eval args s none [] s) : (Term.elem u k).eval args s none [] s = (Term.elem v k).eval args s none [] s := by simp only [Term.eval, h]
theorem st_S {args : Array Value} {s : State} {A : Nat → Prop} (hn : ∀ w ∈ NRW, w.before args s = true) (hA : ∀ a : Nat, a < s.heap.size → ¬ A a) : ∃ adK adV : Nat → Nat, vk_S 27 lenS bytS adK adV A s s.heap ∧ ∀ i : Nat, i < 27 → (tmS i).eval args s none [] s = some (.ref (adK i)) := by
  have hle := fun i hi => va_eqt (NRW_at hn (S_le i hi))
  have hel := fun i hi j hj => va_eqt (NRW_at hn (S_el i hi j hj))
  refine vk_Sof S_31 (fun i hi => NRW_at hn (S_ex i hi)) (fun i hi => NRW_at hn (S_co i hi)) (fun i hi => NRW_at hn (S_ar i hi)) (fun i hi => NRW_at hn (S_le i hi)) (fun i hi j hj => NRW_at hn (S_el i hi j hj)) (fun i j hi hj hij => Or.inl ?_) hA
  obtain ⟨a, -, -, -, qi, -⟩ := Cond.exactly_spec (args := args) (first := s) (o := none) (s := s) (idx := []) (t := tmS i) (cls := "java/lang/String") (NRW_at hn (S_ex i hi))
  obtain ⟨b, -, -, -, qj, -⟩ := Cond.exactly_spec (args := args) (first := s) (o := none) (s := s) (idx := []) (t := tmS j) (cls := "java/lang/String") (NRW_at hn (S_ex j hj))
  have hne : a ≠ b := by
    intro e
    rw [← e] at qj
    have hf : (Term.field (tmS i) "java/lang/String" "value" "[B").eval args s none [] s = (Term.field (tmS j) "java/lang/String" "value" "[B").eval args s none [] s := (va_fe qi).trans (va_fe qj).symm
    rcases S_ne i hi j hj hij with h | ⟨k, k1, k2, h⟩
    · have e2 := (hle i hi).symm.trans ((te_len hf).trans (hle j hj))
      exact h (Value.int.inj (Option.some.inj e2))
    · have e2 := (hel i hi k k1).symm.trans ((te_elem _ hf).trans (hel j hj k k2))
      exact h (Value.int.inj (Option.some.inj e2))
  simp [Cond.before, Cond.holds, Cond.value, qi, qj, hne]
