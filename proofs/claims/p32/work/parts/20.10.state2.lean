/-! the law's side: arrays, strings, builders, the model; contracts whose answer may be a new cell -/
def aV (n : Int32) (f : Nat → Int32) : Vs := (fun _ => n, fun _ => f, fun _ _ => 0)
def cA (g : Gx) (q : Nat) (v : Vs) : va_W := [(q, .inl (g.2.1, (v.1 9).toNatClampNeg, .inl (v.2.1 0)))]
def cB (g : Gx) (q : Nat) (v : Vs) : va_W := [(q, .inl (gBy g, (v.1 9).toNatClampNeg, .inl (v.2.1 0)))]
def fcU (x : Value) (v : Vs) : List Value := [x, .int (v.1 1), .int (v.1 2), .int (v.1 3)]
def cU (_ : Gx) (a : Nat) (x : Value) (v : Vs) : va_W := [(a, .inr (10, fcU x v))]
def cZ (_ : Gx) (a : Nat) (x : Value) (v : Vs) : va_W := [(a, .inr (9, fcU x v))]
def fcM (x2 x3 x4 : Value) (v : Vs) : List Value := [.int (v.1 0), .int (v.1 1), x2, x3, x4, .int (v.1 5), .int (v.1 6), .int (v.1 7)]
def cM (_ : Gx) (a : Nat) (x2 x3 x4 : Value) (v : Vs) : va_W := [(a, .inr (8, fcM x2 x3 x4 v))]
def rfQ (b : Nat → Nat) (n : Nat) : Nat → Option Nat := fun j => if j < n then some (b j) else none
def rowQ (g : Gx) (b : Nat → Nat) (v : Vs) (j : Nat) : Nat × va_E := (b j, .inl (g.2.1, (v.1 (20 + j)).toNatClampNeg, .inl (v.2.1 j)))
def cQ (g : Gx) (q : Nat) (b : Nat → Nat) (v : Vs) : va_W := (q, .inl (gAr g, (v.1 8).toNatClampNeg, .inr (.inr (.inr (.inr (rfQ b (v.1 9).toNatClampNeg)))))) :: (List.range (v.1 9).toNatClampNeg).map (rowQ g b v)
theorem q_row (g : Gx) (q : Nat) (b : Nat → Nat) (v : Vs) {j : Nat} (hj : j < (v.1 9).toNatClampNeg) : (cQ g q b v)[j + 1]? = some (rowQ g b v j) := by
  unfold cQ
  rw [List.getElem?_cons_succ, List.getElem?_map, List.getElem?_range hj]
  rfl
theorem rfQ_at {b : Nat → Nat} {n j : Nat} (h : j < n) : va_rf (rfQ b n j) = .ref (b j) := by
  unfold rfQ
  rw [if_pos h]
  rfl
def qV0 (n : Int32) : Vs := (fun k => if k = 8 then n else 0, fun _ _ => 0, fun _ _ => 0)
theorem q_new (g : Gx) (q : Nat) (b : Nat → Nat) (n : Int32) : cQ g q b (qV0 n) = [(q, .inl (gAr g, n.toNatClampNeg, .inr (.inr (.inr (.inr (fun _ => none))))))] := by
  have e : rfQ b ((qV0 n).1 9).toNatClampNeg = fun _ => none := by
    funext j
    show (if j < (0 : Int32).toNatClampNeg then some (b j) else none) = none
    rw [if_neg (by show ¬ j < 0; omega)]
  unfold cQ
  rw [e]
  rfl
def qAdd (v w : Vs) : Vs := (fun k => if k = 9 then v.1 9 + 1 else if k = 20 + (v.1 9).toNatClampNeg then w.1 9 else v.1 k, fun j => if j = (v.1 9).toNatClampNeg then w.2.1 0 else v.2.1 j, v.2.2)
def bAdd (b : Nat → Nat) (n a : Nat) : Nat → Nat := fun j => if j = n then a else b j
/-- the rows' block behind the store of one more row, the row itself still apart -/
def cQx (g : Gx) (q : Nat) (b : Nat → Nat) (v : Vs) (a : Nat) : va_W := (q, .inl (gAr g, (v.1 8).toNatClampNeg, .inr (.inr (.inr (.inr (va_up (rfQ b (v.1 9).toNatClampNeg) (v.1 9).toNatClampNeg (some a))))))) :: (List.range (v.1 9).toNatClampNeg).map (rowQ g b v)
theorem q_grow (g : Gx) (q : Nat) (b : Nat → Nat) (v : Vs) (a : Nat) (w : Vs) (h : (v.1 9 + 1).toNatClampNeg = (v.1 9).toNatClampNeg + 1) : cQx g q b v a ++ cA g a w = cQ g q (bAdd b (v.1 9).toNatClampNeg a) (qAdd v w) := by
  have h9 : ((qAdd v w).1 9).toNatClampNeg = (v.1 9).toNatClampNeg + 1 := h
  generalize hn : (v.1 9).toNatClampNeg = n at h9
  have e1 : va_up (rfQ b n) n (some a) = rfQ (bAdd b n a) (n + 1) := by
    funext j
    by_cases hj : j = n
    · subst hj
      simp [va_up, rfQ, bAdd]
    · by_cases hl : j < n
      · have : j < n + 1 := by omega
        simp [va_up, rfQ, bAdd, hj, hl, this]
      · have : ¬ j < n + 1 := by omega
        simp [va_up, rfQ, bAdd, hj, hl, this]
  have e2 : (List.range n).map (rowQ g b v) = (List.range n).map (rowQ g (bAdd b n a) (qAdd v w)) := by
    refine List.map_congr_left (fun j hj => ?_)
    have hj := List.mem_range.mp hj
    have h1 : j ≠ n := by omega
    have h2 : 20 + j ≠ 9 := by omega
    have h3 : 20 + j ≠ 20 + n := by omega
    simp only [rowQ, bAdd, qAdd, hn, if_neg h1, if_neg h2, if_neg h3]
  have e3 : rowQ g (bAdd b n a) (qAdd v w) n = (a, .inl (g.2.1, (w.1 9).toNatClampNeg, .inl (w.2.1 0))) := by
    have h2 : 20 + n ≠ 9 := by omega
    simp only [rowQ, bAdd, qAdd, hn, if_true, if_neg h2]
  have e8 : ((qAdd v w).1 8).toNatClampNeg = (v.1 8).toNatClampNeg := by
    have : (8 : Nat) ≠ 20 + (v.1 9).toNatClampNeg := by omega
    simp [qAdd, this]
  unfold cQx cQ cA
  rw [hn, h9, e1, e2, e8, List.range_succ, List.map_append, List.map_singleton, e3]
  rfl
theorem q_set (g : Gx) (q : Nat) (b : Nat → Nat) (v : Vs) (E i : Nat) (x : Int32) : (cQ g q b v).set (E + 1) (b E, .inl (g.2.1, (v.1 (20 + E)).toNatClampNeg, .inl (upd (v.2.1 E) i x))) = cQ g q b (sI v E i x) := by
  unfold cQ
  rw [List.set_cons_succ]
  show _ :: _ = _ :: _
  congr 1
  refine List.ext_getElem? (fun j => ?_)
  rw [List.getElem?_set, List.getElem?_map, List.getElem?_map]
  by_cases hj : E = j
  · subst hj
    by_cases hl : E < (v.1 9).toNatClampNeg
    · have hr := List.getElem?_range hl
      have h2 : E < ((sI v E i x).1 9).toNatClampNeg := hl
      rw [List.getElem?_range h2]
      simp [rowQ, sI, hl]
    · have h2 : ¬ E < ((sI v E i x).1 9).toNatClampNeg := hl
      simp [hl, h2]
  · rw [if_neg hj]
    by_cases hl : j < (v.1 9).toNatClampNeg
    · have h2 : j < ((sI v E i x).1 9).toNatClampNeg := hl
      have h3 : ¬ j = E := fun q => hj q.symm
      rw [List.getElem?_range hl, List.getElem?_range h2]
      simp [rowQ, sI, h3]
    · have h2 : ¬ j < ((sI v E i x).1 9).toNatClampNeg := hl
      simp [hl, h2]
def cF0 (_ : Gx) (a : Nat) : va_W := [(a, .inr (7, [.null, .null, .null, .null, .null, .int 0, .int 0, .null, .null, .null, .null, .null]))]
theorem vp_lt {i : Int32} {n : Nat} (h : vp_in i n) : i.toNatClampNeg < n := Nat.lt_of_not_le (fun q => h (Or.inr q))
theorem nmS_lt {j : Nat} (h : j < 9) : nmS j < 27 := by
  have h9 : j = 0 ∨ j = 1 ∨ j = 2 ∨ j = 3 ∨ j = 4 ∨ j = 5 ∨ j = 6 ∨ j = 7 ∨ j = 8 := by omega
  rcases h9 with rfl | rfl | rfl | rfl | rfl | rfl | rfl | rfl | rfl <;> decide
def fitA (f : Nat → Int32) (a n : Nat) : Bool := (List.range n).all (fun i => fits .byte (.int (f (a + i))))
theorem fitA_at {f : Nat → Int32} {a n : Nat} (h : fitA f a n = true) : ∀ i : Nat, i < n → fits .byte (.int (f (a + i))) = true := fun i hi => List.all_eq_true.mp h i (List.mem_range.mpr hi)
theorem narY {x : Int32} (h : isY x = true) : narrow .byte (.int x) = .int x := congrArg Value.int (of_decide_eq_true h)
theorem fitY {x : Int32} (h : isY x = true) : fits .byte (.int x) = true := by
  have e : x.toInt8.toInt32 = x := of_decide_eq_true h
  rw [← e]
  generalize x.toInt8 = y
  show (decide (-128 ≤ y.toInt32) && decide (y.toInt32 ≤ 127)) = true
  rw [Bool.and_eq_true, decide_eq_true_eq, decide_eq_true_eq, Int32.le_iff_toInt_le, Int32.le_iff_toInt_le, Int8.toInt_toInt32]
  have h1 := Int8.le_toInt y
  have h2 := Int8.toInt_lt y
  have e1 : (-128 : Int32).toInt = -128 := by decide
  have e2 : (127 : Int32).toInt = 127 := by decide
  omega
theorem fitC {cA : ClassId} {f : Nat → Int32} {n : Nat} (h : fitA f 0 n = true) : ∀ (i : Nat) (v : Value), (vp_cell cA (n, .inl f)).slots[i]? = some v → fits .byte v = true := fun i v hv => va_fit (cA := cA) (n := n) (F := fun j => .int (f j)) (fun j hj => by have := fitA_at h j hj; rwa [Nat.zero_add] at this) i v hv
def qG (g : Gx) (A : Nat → Prop) (w1 : (Nat → Nat) → va_W) (rv : (Nat → Nat) → Option Value) : Array Value → State → Outcome → State → Prop := fun _ st oc t => (∃ u, oc = .returned (rv u) ∧ wE g A (w1 u) t) ∧ va_F A st t
def CtG (l : Launch) (y : MethodName) (wy : List Cond) (rm : Room) (g : Gx) (av : List Value) (w0 : va_W) (w1 : (Nat → Nat) → va_W) (rv : (Nat → Nat) → Option Value) (mc ms : Nat) : Prop :=
  ∀ sz, Met l y wy rm (va_Pc av (wB g w0 sz)) (qG g (va_A w0 sz) w1 rv) mc ms (va_A w0 sz)
theorem k_dropP {D : va_G} {cl : List vw_C} {ws w2 w3 : va_W} {H : Heap} (hP : va_P D cl ws H) (hp : ws.Perm (w2 ++ w3)) : va_P D cl w2 H := fun k q hk => (hP.perm hp) k q (by rw [List.getElem?_append_left (List.getElem?_eq_some_iff.mp hk).1]; exact hk)
theorem k_dropD {A : Nat → Prop} {ws w2 w3 : va_W} (hD : va_D A ws) (hp : ws.Perm (w2 ++ w3)) : va_D A w2 := by
  obtain ⟨h1, h2⟩ := va_D.iff.mp (hD.perm hp)
  rw [List.map_append] at h1
  exact va_D.iff.mpr ⟨(List.nodup_append.mp h1).1, fun q hq => h2 q (List.mem_append_left _ hq)⟩
theorem gU_SU {own : String} {idx : Nat} {y : MethodName} {bytes : ByteArray} {maxL : Nat} {ret : Option FieldType} (h1 : Cond.methodLink own idx y ∈ UW) (h2 : Cond.sameMethod y.cls y.cls y.name y.desc ∈ UW) (h3 : Cond.superclass own y.cls ∈ UW) (h4 : Cond.instanceMethod y ∈ UW) (h5 : Cond.initialized y.cls ∈ UW) (h6 : Cond.code y bytes maxL ret ∈ UW) : GoodIn UW (va_wsSU own idx y (Cond.code y bytes maxL ret :: UW)) := by
  intro w hw
  simp only [va_wsSU, List.mem_append, List.mem_cons, List.not_mem_nil, or_false] at hw
  rcases hw with (rfl | rfl | rfl | rfl | rfl) | rfl | hw
  all_goals exact ⟨by assumption, good_of_word (UW_good (by assumption)).2⟩
theorem gU_U {own : String} {idx : Nat} {C owner : String} {x y : MethodName} {bytes : ByteArray} {maxL : Nat} {ret : Option FieldType} (h : ∀ w ∈ va_wsU own idx C owner x y [], w ∈ UW) (h6 : Cond.code y bytes maxL ret ∈ UW) : GoodIn UW (va_wsU own idx C owner x y (Cond.code y bytes maxL ret :: UW)) := by
  intro w hw
  unfold va_wsU at hw h
  rcases List.mem_append.mp hw with hw | hw
  · have h7 := h w (List.mem_append_left _ hw)
    exact ⟨h7, good_of_word (UW_good h7).2⟩
  · rcases List.mem_cons.mp hw with rfl | hw
    · exact ⟨h6, good_of_word (UW_good h6).2⟩
    · exact ⟨hw, good_of_word (UW_good hw).2⟩
theorem gU_O {own : String} {idx : Nat} {C owner : String} {x y : MethodName} {bytes : ByteArray} {maxL : Nat} {ret : Option FieldType} (h : ∀ w ∈ va_wsO own idx C owner x y [], w ∈ UW) (h6 : Cond.code y bytes maxL ret ∈ UW) : GoodIn UW (va_wsO own idx C owner x y (Cond.code y bytes maxL ret :: UW)) := by
  intro w hw
  unfold va_wsO at hw h
  rcases List.mem_append.mp hw with hw | hw
  · have h7 := h w (List.mem_append_left _ hw)
    exact ⟨h7, good_of_word (UW_good h7).2⟩
  · rcases List.mem_cons.mp hw with rfl | hw
    · exact ⟨h6, good_of_word (UW_good h6).2⟩
    · exact ⟨hw, good_of_word (UW_good hw).2⟩
section
variable {p : Program} {l : Launch} {e : Env} {R : Room} {s : State} {m : MethodId} {args : Array Value} {below : List Frame} {meth : Method} {c : Code} {H : Heap} {locs : List Loc} {cells slots : Nat} {Q : State → Prop} {g : Gx} {A : Nat → Prop}
theorem k_fc {ws wc wr : va_W} (hD : va_D A ws) (hS : va_S A s.heap H locs) (hA : ∀ q, s.heap.size ≤ q → A q) (hp : ws.Perm (wc ++ wr)) : ∀ q, va_A wc H.size q → A q := fun q h => (k_free (hD.perm hp) hS hA) q (h.elim (fun ⟨k, e, h⟩ => Or.inl ⟨k, e, by rw [List.getElem?_append_left (List.getElem?_eq_some_iff.mp h).1]; exact h⟩) Or.inr)
theorem k_gw {ws wc wr : va_W} (hK : va_K g.1 vwCl (tyL g) s) (hP : va_P g.1 vwCl ws H) (hD : va_D A ws) (hS : va_S A s.heap H locs) (hA : ∀ q, s.heap.size ≤ q → A q) (hG : BG g A s s.heap) (hp : ws.Perm (wc ++ wr)) {U : State} (hU : U.heap = H) (hW : s.WarmedH U.vm) : wB g wc H.size U :=
  ⟨by rw [hU], by rw [hU]; exact k_dropP hP hp, va_K.moved hW.alike hK, (k_dropD hD hp).weaken (fun _ _ _ _ => trivial), by rw [hU]; exact BG.warm hW ((hG.kept hS.2.1).narrow (k_fc hD hS hA hp))⟩
theorem k_preS {ws wc wr : va_W} {As : List Value} (hK : va_K g.1 vwCl (tyL g) s) (hP : va_P g.1 vwCl ws H) (hD : va_D A ws) (hS : va_S A s.heap H locs) (hA : ∀ q, s.heap.size ≤ q → A q) (hG : BG g A s s.heap) (hp : ws.Perm (wc ++ wr)) : PreS s H (va_Pc As (wB g wc H.size)) As := ⟨k_blind, fun _ hU hW => ⟨rfl, k_gw hK hP hD hS hA hG hp hU hW⟩⟩
theorem k_preV {ws wc wr : va_W} {As : List Value} {C : String} {b : Nat} (hK : va_K g.1 vwCl (tyL g) s) (hP : va_P g.1 vwCl ws H) (hD : va_D A ws) (hS : va_S A s.heap H locs) (hA : ∀ q, s.heap.size ≤ q → A q) (hG : BG g A s s.heap) (hp : ws.Perm (wc ++ wr)) (hrc : ∃ cellB : Cell, H[b]? = some cellB ∧ cellB.vm.isStatics = false ∧ s.vm.findClass C = some cellB.cls) : PreV s H C b (va_Pc (.ref b :: As) (wB g wc H.size)) As := ⟨k_blind, hrc, fun _ hU hW => ⟨rfl, k_gw hK hP hD hS hA hG hp hU hW⟩⟩
theorem k_G {Qa : State → Outcome → State → Prop} {ws wc wr : va_W} {w1 : (Nat → Nat) → va_W} {rv : (Nat → Nat) → Option Value} {mc ms pc : Nat} {ls : Array Slot} {st rest : List Value} (hP : va_P g.1 vwCl ws H) (hD : va_D A ws) (hS : va_S A s.heap H locs) (hA : ∀ q, s.heap.size ≤ q → A q) (hp : ws.Perm (wc ++ wr))
    (run : va_Run p l e R s m args below meth c H locs cells slots mc ms (F0 m pc ls st) rest Qa (va_A wc H.size))
    (hQ : ∀ st oc t, Qa st oc t → (∃ u, oc = .returned (rv u) ∧ wE g (va_A wc H.size) (w1 u) t) ∧ va_F (va_A wc H.size) st t)
    (kk : ∀ (u : Nat → Nat) (H1 : Heap) (locs1 : List Loc), va_P g.1 vwCl (w1 u ++ wr) H1 → va_D A (w1 u ++ wr) → va_S A s.heap H1 locs1 → W p l e R s m args below meth c H1 locs1 (cells + mc) (slots + ms) Q (F0 m (pc + 3) ls ((rv u).toList ++ rest))) : W p l e R s m args below meth c H locs cells slots Q (F0 m pc ls st) := by
  intro T hT X
  obtain ⟨v, st₀, t, T', L, h0, X', hL, e1, e2, hq, hst⟩ := run T hT X
  obtain ⟨⟨u, hv, hB⟩, hz, hk⟩ := hQ _ _ _ hq
  cases hv
  rw [h0] at hz hk
  have hFc := k_fc hD hS hA hp
  obtain ⟨hP1, _, hD1⟩ := hB
  rw [← e1] at hP1 hz hk
  obtain ⟨hP2, hD2⟩ := k_joinQ hP hD hp (w1 := w1 u) (w2 := w1 u ++ wr) (List.Perm.refl _) hk hFc hP1 hD1
  obtain ⟨t2, a1, b1⟩ := kk u T'.heap (locs ++ L) hP2 hD2 ⟨Nat.le_trans hS.1 hz, fun q h1 h2 => by rw [hk q (Nat.lt_of_lt_of_le h1 hS.1) (fun z => h2 (hFc q z))]; exact hS.2.1 q h1 h2, fun q hq => by
      rcases List.mem_append.mp hq with h | h
      · exact hS.2.2 q h
      · exact hFc _ (hL q h)⟩ T' rfl X'
  exact ⟨t2, hst t2 a1, b1⟩
theorem hQ_G {w1 : (Nat → Nat) → va_W} {rv : (Nat → Nat) → Option Value} {A1 : Nat → Prop} {av : Array Value} : ∀ st oc t, qG g A1 w1 rv av st oc t → (∃ u, oc = .returned (rv u) ∧ wE g A1 (w1 u) t) ∧ va_F A1 st t := fun _ _ _ h => h
theorem hQ_I {w1 : va_W} {r : Int32} {A1 : Nat → Prop} {av : Array Value} : ∀ st oc t, qI g A1 w1 r av st oc t → (∃ u : Nat → Nat, oc = .returned ((fun _ => some (Value.int r)) u) ∧ wE g A1 ((fun _ => w1) u) t) ∧ va_F A1 st t := by
  rintro st oc t ⟨⟨r0, u, h1, h2, h3⟩, h4⟩
  exact ⟨⟨fun _ => 0, by rw [h1, h2], h3⟩, h4⟩
theorem hQ_J {w1 : va_W} {r : Int64} {A1 : Nat → Prop} {av : Array Value} : ∀ st oc t, qJ g A1 w1 r av st oc t → (∃ u : Nat → Nat, oc = .returned ((fun _ => some (Value.long r)) u) ∧ wE g A1 ((fun _ => w1) u) t) ∧ va_F A1 st t := by
  rintro st oc t ⟨⟨r0, u, h1, h2, h3⟩, h4⟩
  exact ⟨⟨fun _ => 0, by rw [h1, h2], h3⟩, h4⟩
theorem hQ_V {w1 : va_W} {A1 : Nat → Prop} {av : Array Value} : ∀ st oc t, qV g A1 w1 av st oc t → (∃ u : Nat → Nat, oc = .returned ((fun _ => (none : Option Value)) u) ∧ wE g A1 ((fun _ => w1) u) t) ∧ va_F A1 st t := by
  rintro st oc t ⟨⟨u, h1, h2, h3⟩, h4⟩
  exact ⟨⟨fun _ => 0, h1, h3⟩, h4⟩
theorem k_Giret {cc : ByteArray} {x r : Int32} {w1 : (Nat → Nat) → va_W} {rv : (Nat → Nat) → Option Value} {u : Nat → Nat} (hx : p.tables.exec = Jvm.exec) (hb : c.code = cc) (hr : meth.sig.returnType = some .int) (hlocks : meth.locks = false) (hK : va_K g.1 vwCl (tyL g) s) (hP : va_P g.1 vwCl (w1 u) H) (hD : va_D A (w1 u)) (hS : va_S A s.heap H locs) (hrv : rv u = some (.int r)) (hxr : x = r) {pc : Nat} {ls : Array Slot} (hdg : decode cc pc = .ok (.ireturn, 1)) : W p l e R s m args below meth c H locs cells slots (MQ below (qG g A w1 rv) args s cells slots A) (F0 m pc ls [.int x]) :=
  W.iret hx hb hr (fun t ht hW => ⟨⟨u, by rw [hrv, hxr], by rw [ht]; exact hP, va_K.moved hW.alike hK, hD⟩, hS.F ht⟩) hS.2.2 hdg (hlocks := hlocks)
theorem k_Gnret {cc : ByteArray} {x r : Int32} {ty : FieldType} {w1 : (Nat → Nat) → va_W} {rv : (Nat → Nat) → Option Value} {u : Nat → Nat} (hx : p.tables.exec = Jvm.exec) (hb : c.code = cc) (hr : meth.sig.returnType = some ty) (hlocks : meth.locks = false) (hK : va_K g.1 vwCl (tyL g) s) (hP : va_P g.1 vwCl (w1 u) H) (hD : va_D A (w1 u)) (hS : va_S A s.heap H locs) (hrv : rv u = some (.int r)) (hxr : x = r) (hn : narrow ty (.int x) = .int x) {pc : Nat} {ls : Array Slot} (hdg : decode cc pc = .ok (.ireturn, 1)) : W p l e R s m args below meth c H locs cells slots (MQ below (qG g A w1 rv) args s cells slots A) (F0 m pc ls [.int x]) :=
  W.zret hx hb hr hn (fun t ht hW => ⟨⟨u, by rw [hrv, hxr], by rw [ht]; exact hP, va_K.moved hW.alike hK, hD⟩, hS.F ht⟩) hS.2.2 hdg (hlocks := hlocks)
theorem nar01 {x : Int32} (h01 : x = 0 ∨ x = 1) : narrow .boolean (.int x) = .int x := by rcases h01 with h | h <;> rw [h] <;> rfl
theorem k_Gvret {cc : ByteArray} {w1 : (Nat → Nat) → va_W} {rv : (Nat → Nat) → Option Value} {u : Nat → Nat} (hx : p.tables.exec = Jvm.exec) (hb : c.code = cc) (hr : meth.sig.returnType = none) (hlocks : meth.locks = false) (hK : va_K g.1 vwCl (tyL g) s) (hP : va_P g.1 vwCl (w1 u) H) (hD : va_D A (w1 u)) (hS : va_S A s.heap H locs) (hrv : rv u = none) {pc : Nat} {ls : Array Slot} (hdg : decode cc pc = .ok (.return_, 1)) : W p l e R s m args below meth c H locs cells slots (MQ below (qG g A w1 rv) args s cells slots A) (F0 m pc ls []) :=
  W.vret hx hb hr (fun t ht hW => ⟨⟨u, by rw [hrv], by rw [ht]; exact hP, va_K.moved hW.alike hK, hD⟩, hS.F ht⟩) hS.2.2 hdg (hlocks := hlocks)
theorem k_Garet {cc : ByteArray} {a : Nat} {rt : FieldType} {w1 : (Nat → Nat) → va_W} {rv : (Nat → Nat) → Option Value} {u : Nat → Nat} (hx : p.tables.exec = Jvm.exec) (hb : c.code = cc) (hr : meth.sig.returnType = some rt) (hrt : (∃ n, rt = .object n) ∨ ∃ t, rt = .array t) (hlocks : meth.locks = false) (hK : va_K g.1 vwCl (tyL g) s) (hP : va_P g.1 vwCl (w1 u) H) (hD : va_D A (w1 u)) (hS : va_S A s.heap H locs) (hrv : rv u = some (.ref a)) {pc : Nat} {ls : Array Slot} (hdg : decode cc pc = .ok (.areturn, 1)) : W p l e R s m args below meth c H locs cells slots (MQ below (qG g A w1 rv) args s cells slots A) (F0 m pc ls [.ref a]) :=
  W.aret hx hb hr hrt (Or.inr ⟨a, rfl⟩) (fun t ht hW => ⟨⟨u, by rw [hrv], by rw [ht]; exact hP, va_K.moved hW.alike hK, hD⟩, hS.F ht⟩) hS.2.2 hdg (hlocks := hlocks)
theorem k_newB {cc : ByteArray} (hx : p.tables.exec = Jvm.exec) (hb : c.code = cc) (harr : (Cond.arrayClass .byte).before args s = true) {ws : va_W} (hK : va_K g.1 vwCl (tyL g) s) (hP : va_P g.1 vwCl ws H) (hD : va_D A ws) (hS : va_S A s.heap H locs) (hA : ∀ q, s.heap.size ≤ q → A q)
    {n : Int32} {N' : Nat} (hn : ¬ n < 0) (hN : n.toNatClampNeg = N') (hbytes : N' * componentBytes .byte ≤ 536870912) (hcells : cells + 1 ≤ R.cells) (hslots : slots + N' ≤ R.slots) {pc : Nat} {ls : Array Slot} {rest : List Value} (hdg : decode cc pc = .ok (.newarray .byte, 2))
    (kk : ∀ (q : Nat) (H1 : Heap), va_P g.1 vwCl (ws ++ [(q, .inl (gBy g, N', .inl (fun _ => 0)))]) H1 → va_D A (ws ++ [(q, .inl (gBy g, N', .inl (fun _ => 0)))]) → va_S A s.heap H1 locs → W p l e R s m args below meth c H1 locs (cells + 1) (slots + N') Q (F0 m (pc + 2) ls (.ref q :: rest))) : W p l e R s m args below meth c H locs cells slots Q (F0 m pc ls (.int n :: rest)) := by
  refine va_newa (atype := .byte) (ty := .byte) (a0 := (N', .inl (fun _ => 0))) hx hb harr rfl hK hP hD hS hA (fun cA => rfl) hn hN hbytes hcells hslots hdg (fun q cA H1 hK1 hP1 hD1 hS1 => ?_)
  have h1 : s.vm.findClass ("[" ++ FieldType.toString .byte) = some cA := (hK1.2 6 (cA, .byte) rfl).2
  have h2 : s.vm.findClass ("[" ++ FieldType.toString .byte) = some (gBy g) := (hK.2 4 (gBy g, .byte) rfl).2
  have h3 : cA = gBy g := Option.some.inj (h1.symm.trans h2)
  rw [h3] at hP1 hD1
  exact kk q H1 hP1 hD1 hS1
theorem va_aldA {cc : ByteArray} (hexec : p.tables.exec = Jvm.exec) (hb : c.code = cc) {tys : List (ClassId × FieldType)} {D : va_G} {cl : List vw_C} {ws : va_W} {a : Nat} (hK : va_K D cl tys s) (hP : va_P D cl ws H) (q0 t0 : Nat) {cA : ClassId} {ty : FieldType} {n : Nat} {f : Nat → Option Nat} (ha : ws[q0]? = some (a, .inl (cA, n, .inr (.inr (.inr (.inr f)))))) (ht : tys[t0]? = some (cA, .array ty)) {i : Int32} (hin : vp_in i n) {pc : Nat} {ls : Array Slot} {rest : List Value} (hdg : decode cc pc = .ok (.aaload, 1))
    (kk : W p l e R s m args below meth c H locs cells slots Q (F0 m (pc + 1) ls (va_rf (f i.toNatClampNeg) :: rest))) : W p l e R s m args below meth c H locs cells slots Q (F0 m pc ls (.int i :: .ref a :: rest)) := by
  have hlt : i.toNatClampNeg < n := Nat.not_le.mp fun q => hin (Or.inr q)
  exact W.aald (v := va_rf (f i.toNatClampNeg)) (ty := .array ty) hexec hb (hP q0 _ ha) ((hK.2 t0 _ ht).1 n (fun j => va_rf (f j))) rfl (fun q => by cases q) (by show ¬ (i < 0 ∨ (arrV _ _ _).slots.size ≤ _); rw [arrV_size]; exact hin) (by show (arrV _ _ _).slots[_]? = _; rw [arrV_read _ _ hlt]) rfl rfl hdg kk
theorem va_AA.use {args : Array Value} {s : State} (h : va_AA s) : (Cond.arrayOver (.array .int)).before args s = true := h
theorem k_newQ {cc : ByteArray} {own : String} {index : Nat} (hexec : p.tables.exec = Jvm.exec) (hb : c.code = cc) (hown : s.vm.findClass own = some m.cls) (hclink : (Cond.classLink own index "[I").before args s = true) (hover : va_AA s) {ws : va_W} (hK : va_K g.1 vwCl (tyL g) s) (hP : va_P g.1 vwCl ws H) (hD : va_D A ws) (hS : va_S A s.heap H locs) (hA : ∀ q, s.heap.size ≤ q → A q)
    {n : Int32} {N' : Nat} (hn : ¬ n < 0) (hN : n.toNatClampNeg = N') (hbytes : N' * 4 ≤ 536870912) (hcells : cells + 1 ≤ R.cells) (hslots : slots + N' ≤ R.slots) {pc : Nat} {ls : Array Slot} {rest : List Value} (hdg : decode cc pc = .ok (.anewarray index, 3))
    (kk : ∀ (q : Nat) (H1 : Heap), va_P g.1 vwCl (ws ++ cQ g q (fun _ => 0) (qV0 n)) H1 → va_D A (ws ++ cQ g q (fun _ => 0) (qV0 n)) → va_S A s.heap H1 locs →
      W p l e R s m args below meth c H1 locs (cells + 1) (slots + N') Q (F0 m (pc + 3) ls (.ref q :: rest))) : W p l e R s m args below meth c H locs cells slots Q (F0 m pc ls (.int n :: rest)) := by
  subst hN
  have e5 : (FieldType.array .int).toString = "[I" := by decide +kernel
  refine W.anewA (t := .int) hexec hb hown (by rw [e5]; exact hclink) (va_AA.use hover) rfl hdg rfl hn hbytes hcells hslots fun cA kA comp f1 f2 f3 f4 => ?_
  have h2 : s.vm.findClass ("[" ++ FieldType.toString (.array .int)) = some (gAr g) := (hK.2 5 (gAr g, .array .int) rfl).2
  have h3 : cA = gAr g := Option.some.inj (f1.symm.trans h2)
  generalize hH1 : H.push ({ cls := cA, slots := Array.replicate n.toNatClampNeg .null, vm := .none } : Cell) = H1
  have z1 : H1.size = H.size + 1 := by rw [← hH1, Array.size_push]
  have e1 : H1[H.size]? = some (arrV cA n.toNatClampNeg (fun _ => .null)) := by rw [← hH1, Array.getElem?_push_size, ← arrV_new]
  have o1 : ∀ q : Nat, q < H.size → H1[q]? = H[q]? := fun q hq => by rw [← hH1, Array.getElem?_push, if_neg (Nat.ne_of_lt hq)]
  have hk : ∀ (k : Nat) (x : Nat × va_E), ws[k]? = some x → H1[x.1]? = H[x.1]? := fun k x hx => o1 x.1 ((hP k x hx).lt)
  refine kk H.size H1 ?_ ?_ ⟨Nat.le_trans hS.1 (by omega), fun x h1 h2 => (o1 x (Nat.lt_of_lt_of_le h1 hS.1)).trans (hS.2.1 x h1 h2), hS.2.2⟩
  · rw [q_new]
    refine (hP.kept hk).app (fun k x hx => ?_)
    have hz : k < 1 := (List.getElem?_eq_some_iff.mp hx).1
    rw [show k = 0 by omega] at hx
    cases hx
    show H1[H.size]? = some (vp_cell _ _)
    rw [vp_cell_q, ← h3]
    exact e1
  · rw [q_new]
    exact hD.push hP rfl (hA _ hS.1)
theorem va_astA {cc : ByteArray} (hexec : p.tables.exec = Jvm.exec) (hb : c.code = cc) {tys : List (ClassId × FieldType)} {D : va_G} {cl : List vw_C} {ws : va_W} {a : Nat} (hover : va_AA s) (hK : va_K D cl tys s) (hP : va_P D cl ws H) (hD : va_D A ws) (hS : va_S A s.heap H locs) (q0 t0 qk tk : Nat) {cA cv : ClassId} {n av nv : Nat} {fv : Nat → Int32} {f : Nat → Option Nat} (ha : ws[q0]? = some (a, .inl (cA, n, .inr (.inr (.inr (.inr f)))))) (ht : tys[t0]? = some (cA, .array .int)) (hv : ws[qk]? = some (av, .inl (cv, nv, .inl fv))) (htv : tys[tk]? = some (cv, .int)) {i : Int32} (hin : vp_in i n) {pc : Nat} {ls : Array Slot} {rest : List Value} (hdg : decode cc pc = .ok (.aastore, 1))
    (kk : ∀ (H1 : Heap) (locs1 : List Loc), va_P D cl (ws.set q0 (a, .inl (cA, n, .inr (.inr (.inr (.inr (va_up f i.toNatClampNeg (some av)))))))) H1 → va_D A (ws.set q0 (a, .inl (cA, n, .inr (.inr (.inr (.inr (va_up f i.toNatClampNeg (some av)))))))) → va_S A s.heap H1 locs1 → W p l e R s m args below meth c H1 locs1 cells slots Q (F0 m (pc + 1) ls rest)) : W p l e R s m args below meth c H locs cells slots Q (F0 m pc ls (.ref av :: .int i :: .ref a :: rest)) := by
  have hlt : i.toNatClampNeg < n := Nat.not_le.mp fun q => hin (Or.inr q)
  have h0 : ¬ i < 0 := fun q => hin (Or.inl q)
  obtain ⟨comp, cA', kA, f1, -, k1, k2, k3⟩ := arrayOverA_spec (show (Cond.arrayOver (.array .int)).before #[] s = true from hover)
  have hA' : cA' = cA := Option.some.inj (k3.symm.trans (hK.2 t0 _ ht).2)
  subst hA'
  have e5 : (FieldType.array .int).toString = "[" ++ FieldType.toString .int := by decide +kernel
  rw [e5] at f1
  have hcv : comp = cv := Option.some.inj (f1.symm.trans (hK.2 tk _ htv).2)
  subst hcv
  obtain ⟨-, kV, v1, -⟩ := (hK.2 tk _ htv).1 0 (fun _ => .null)
  refine W.aast hexec hb (hP q0 _ ha) (fun q h => by cases h) (fun h => by cases h) k1 k2 rfl v1 ⟨h0, by show _ < (arrV _ _ _).slots.size; rw [arrV_size]; exact hlt⟩ (hP qk _ hv) (fun q h => by cases h) v1 (va_asg _ _) rfl rfl hdg fun H1 e z oq => ?_
  refine kk H1 _ (hP.set hD ha ?_ oq) (hD.set ha) (hS.put z oq (hD.2 q0 _ ha))
  show H1[a]? = some (vp_cell _ _)
  rw [e]
  rw [vp_cell_q, vp_cell_q, arrV_store]
  congr 2
  funext q
  by_cases hq : q = i.toNatClampNeg
  · subst hq
    simp [updV, va_up, va_rf]
  · simp [updV, va_up, hq]
end
