/-! The history: a ring of eight setups. Worlds up to the order of their cells. -/
abbrev Hv : Type := Vs × (Nat → Vs) × (Nat → Vs)
def upH (f : Nat → Vs) (k : Nat) (v : Vs) : Nat → Vs := fun j => if j = k then v else f j
def rfH (b : Nat → Nat → Nat) : Nat → Option Nat := fun j => if j < 8 then some (b (1 + 3 * j) 0) else none
def fcH (b : Nat → Nat → Nat) (h : Hv) : List Value := [.int (h.1.1 0), .int (h.1.1 1), .ref (b 0 3)]
def blk (g : Gx) (b : Nat → Nat → Nat) (h : Hv) (j : Nat) : va_W := cS g (b (1 + 3 * j)) (b (2 + 3 * j) 0) (b (3 + 3 * j) 0) ++ (cC g (b (2 + 3 * j)) (h.2.1 j) ++ cT g (b (3 + 3 * j)) (h.2.2 j))
def hd2 (g : Gx) (b : Nat → Nat → Nat) (h : Hv) : va_W := [(b 0 0, .inr (1, fcH b h)), (b 0 3, .inl (g.2.2.2.2.1, 8, .inr (.inr (.inr (.inr (rfH b))))))]
def cH (g : Gx) (b : Nat → Nat → Nat) (h : Hv) : va_W := hd2 g b h ++ (List.range 8).flatMap (blk g b h)
def rsH (g : Gx) (b : Nat → Nat → Nat) (h : Hv) (k : Nat) : va_W := hd2 g b h ++ ((List.range 8).erase k).flatMap (blk g b h)
theorem va_P.perm {D : va_G} {cl : List vw_C} {ws ws' : va_W} {H : Heap} (hP : va_P D cl ws H) (h : ws.Perm ws') : va_P D cl ws' H := fun k q hk => by
  obtain ⟨i, hi⟩ := List.getElem?_of_mem (h.mem_iff.mpr (List.mem_of_getElem? hk))
  exact hP i q hi
theorem dOK_at {r : UInt64} (h : dOK r = true) : vf_n64 r := (of_decide_eq_true (p := r &&& 0x7fffffffffffffff ≤ 0x7ff0000000000000) h)
theorem kpc {a b : va_W} (h : ∀ P : Nat × va_E → Bool, a.countP P = b.countP P) : a.Perm b := by
  letI dq : DecidableEq (Nat × va_E) := fun x y => Classical.propDecidable (x = y)
  exact (@List.perm_iff_count (Nat × va_E) (@instBEqOfDecidableEq _ dq) inferInstance a b).mpr (fun x => h _)
theorem va_D.iff {A : Nat → Prop} {ws : va_W} : va_D A ws ↔ (ws.map (fun q => q.1)).Nodup ∧ ∀ q ∈ ws, A q.1 := by
  constructor
  · intro h
    refine ⟨List.pairwise_iff_getElem.mpr (fun i j hi hj hij e => ?_), fun q hq => ?_⟩
    · simp only [List.length_map] at hi hj
      simp only [List.getElem_map] at e
      exact absurd (h.1 i j _ _ (List.getElem?_eq_getElem hi) (List.getElem?_eq_getElem hj) e) (Nat.ne_of_lt hij)
    · obtain ⟨k, hk⟩ := List.getElem?_of_mem hq
      exact h.2 k q hk
  · intro h
    refine ⟨fun i j p q hi hj e => ?_, fun k q hk => h.2 q (List.mem_of_getElem? hk)⟩
    obtain ⟨hi1, hi2⟩ := List.getElem?_eq_some_iff.mp hi
    obtain ⟨hj1, hj2⟩ := List.getElem?_eq_some_iff.mp hj
    have hp := List.pairwise_iff_getElem.mp h.1
    rcases Nat.lt_trichotomy i j with q1 | q1 | q1
    · exact (hp i j (by simpa using hi1) (by simpa using hj1) q1 (by rw [List.getElem_map, List.getElem_map, hi2, hj2]; exact e)).elim
    · exact q1
    · exact (hp j i (by simpa using hj1) (by simpa using hi1) q1 (by rw [List.getElem_map, List.getElem_map, hi2, hj2]; exact e.symm)).elim
theorem va_D.perm {A : Nat → Prop} {ws ws' : va_W} (hD : va_D A ws) (h : ws.Perm ws') : va_D A ws' := by
  obtain ⟨h1, h2⟩ := va_D.iff.mp hD
  exact va_D.iff.mpr ⟨(h.map _).nodup_iff.mp h1, fun q hq => h2 q (h.mem_iff.mpr hq)⟩
theorem flat_erase {f f2 : Nat → va_W} {L : List Nat} {k : Nat} (hn : L.Nodup) (h : ∀ j, j ≠ k → f j = f2 j) : (L.erase k).flatMap f = (L.erase k).flatMap f2 := by
  have hq : ∀ j ∈ L.erase k, f j = f2 j := fun j hj => h j (fun e => by rw [e] at hj; exact (hn.not_mem_erase) hj)
  generalize L.erase k = M at hq
  induction M with
  | nil => rfl
  | cons a t ih =>
    rw [List.flatMap_cons, List.flatMap_cons, hq a List.mem_cons_self, ih (fun j hj => hq j (List.mem_cons_of_mem _ hj))]
theorem flat_perm {f : Nat → va_W} {L : List Nat} {k : Nat} (h : k ∈ L) : (L.flatMap f).Perm (f k ++ (L.erase k).flatMap f) := by
  have := (List.perm_cons_erase h).flatMap_right f
  rwa [List.flatMap_cons] at this
theorem cH_perm (g : Gx) (b : Nat → Nat → Nat) (h : Hv) {k : Nat} (hk : k < 8) : (cH g b h).Perm (blk g b h k ++ rsH g b h k) := by
  have h1 := (flat_perm (f := blk g b h) (List.mem_range.mpr hk))
  have h2 := (List.Perm.append_left (hd2 g b h) h1)
  refine h2.trans ?_
  show (hd2 g b h ++ (blk g b h k ++ _)).Perm (blk g b h k ++ (hd2 g b h ++ _))
  rw [← List.append_assoc, ← List.append_assoc]
  exact List.Perm.append_right _ List.perm_append_comm
theorem rsH_eq (g : Gx) (b : Nat → Nat → Nat) (h : Hv) (k : Nat) (x y : Vs) : rsH g b (h.1, upH h.2.1 k x, upH h.2.2 k y) k = rsH g b h k := by
  unfold rsH
  rw [flat_erase (f2 := blk g b h) List.nodup_range (fun j hj => by simp only [blk, upH, if_neg hj])]
  rfl
theorem blk_eq (g : Gx) (b : Nat → Nat → Nat) (h : Hv) (k : Nat) (x y : Vs) : blk g b (h.1, upH h.2.1 k x, upH h.2.2 k y) k = cS g (b (1 + 3 * k)) (b (2 + 3 * k) 0) (b (3 + 3 * k) 0) ++ (cC g (b (2 + 3 * k)) x ++ cT g (b (3 + 3 * k)) y) := by
  simp only [blk, upH, if_true]
theorem rf_at (b : Nat → Nat → Nat) {k : Nat} (h : k < 8) : rfH b k = some (b (1 + 3 * k) 0) := by simp only [rfH, if_pos h]
theorem in8 {i : Int32} (h : vp_in i 8) : i.toNatClampNeg < 8 := Nat.lt_of_not_le (fun q => h (Or.inr q))
theorem rf_is (b : Nat → Nat → Nat) {k : Nat} (h : k < 8) : va_rf (rfH b k) = .ref (b (1 + 3 * k) 0) := by rw [rf_at b h]; rfl
section
variable {p : Program} {l : Launch} {e : Env} {R : Room} {s : State} {m : MethodId} {args : Array Value} {below : List Frame} {meth : Method} {c : Code} {H : Heap} {locs : List Loc} {cells slots : Nat} {Q : State → Prop} {g : Gx} {A : Nat → Prop}
theorem k_joinQ {ws wc wr w1 w2 : va_W} {H1 : Heap} (hP : va_P g.1 vwCl ws H) (hD : va_D A ws) (hp : ws.Perm (wc ++ wr)) (hq : (w1 ++ wr).Perm w2) (hk : ∀ q : Nat, q < H.size → ¬ va_A wc H.size q → H1[q]? = H[q]?) (hF : ∀ q, va_A wc H.size q → A q) (hP1 : va_P g.1 vwCl w1 H1) (hD1 : va_D (va_A wc H.size) w1) : va_P g.1 vwCl w2 H1 ∧ va_D A w2 := by
  have hP' := hP.perm hp
  have hD' := hD.perm hp
  have hap : ∀ (k : Nat) (q : Nat × va_E), wr[k]? = some q → q.1 < H.size ∧ ¬ va_A wc H.size q.1 := by
    intro k q hk
    have h1 : (wc ++ wr)[wc.length + k]? = some q := by rw [List.getElem?_append_right (by omega)]; simpa using hk
    have hlt := k_lt hP' h1
    refine ⟨hlt, fun h => ?_⟩
    rcases h with ⟨k2, e, h⟩ | h
    · have hk2 : k2 < wc.length := (List.getElem?_eq_some_iff.mp h).1
      have h2 : (wc ++ wr)[k2]? = some (q.1, e) := by rw [List.getElem?_append_left hk2]; exact h
      have := hD'.1 _ _ _ _ h1 h2 rfl
      omega
    · omega
  have hPr : va_P g.1 vwCl wr H1 := fun k q hq1 => by
    have h1 : (wc ++ wr)[wc.length + k]? = some q := by rw [List.getElem?_append_right (by omega)]; simpa using hq1
    obtain ⟨a1, a2⟩ := hap k q hq1
    exact (hP' _ q h1).kept (hk q.1 a1 a2)
  have hDr : va_D A wr := by
    obtain ⟨h1, h2⟩ := va_D.iff.mp hD'
    rw [List.map_append] at h1
    exact va_D.iff.mpr ⟨(List.nodup_append.mp h1).2.1, fun q hq1 => h2 q (List.mem_append_right _ hq1)⟩
  have hD1' := hD1.weaken (fun _ q _ h => hF q.1 h)
  refine ⟨(hP1.app hPr).perm hq, (va_D.app hD1' hDr (fun i j x y hx hy e => ?_)).perm hq⟩
  exact (hap j y hy).2 (by rw [← e]; exact hD1.2 i x hx)
theorem k_vvQ {cc : ByteArray} {nL : Nat} {Ts : List Cond} {own : String} (S : CallFix p m c cc nL s args Ts own) {ws wc wr w1 w2 : va_W} (hK : va_K g.1 vwCl (tyL g) s) (hP : va_P g.1 vwCl ws H) (hD : va_D A ws) (hS : va_S A s.heap H locs) (hA : ∀ q, s.heap.size ≤ q → A q) (hG : BG g A s s.heap) {y : MethodName} {wy : List Cond} {rm : Room} {As : List Value} {a : Nat} {mc ms : Nat} (hM : CtV l y wy rm g (.ref a :: As) wc w1 mc ms) {C : String} {index : Nat} {bytes : ByteArray} {maxL : Nat} {ret : Option FieldType} {n : Nat} (cw : CallW R s args own C index y bytes maxL ret wy rm mc ms n) {q0 ci : Nat} {fs : List Value} {q : vw_C} (hc : vwCl[ci]? = some q) (he : ws[q0]? = some (a, .inr (ci, fs))) (hq : q.1 = C) (hp : ws.Perm (wc ++ wr)) (hqp : (w1 ++ wr).Perm w2) {pc : Nat} {ls : Array Slot} {st rest : List Value} (hst : st = As.reverse ++ .ref a :: rest) (hn : As.length = n) (hsz : ls.size = nL) (hW : (rest.map fun v => v.category).sum ≤ 8) (hdg : decode cc pc = .ok (.invokevirtual index, 3)) {k1 n1 : Nat} (hk : cells + mc = k1) (hns : slots + ms = n1) (hf : k1 ≤ R.cells ∧ n1 ≤ R.slots) (kk : ∀ (H1 : Heap) (locs1 : List Loc), va_P g.1 vwCl w2 H1 → va_D A w2 → va_S A s.heap H1 locs1 → W p l e R s m args below meth c H1 locs1 k1 n1 Q (F0 m (pc + 3) ls rest)) : W p l e R s m args below meth c H locs cells slots Q (F0 m pc ls st) := by
  subst hst; subst hk; subst hns
  subst hq
  have hFc : ∀ q, va_A wc H.size q → A q := fun q h => (k_free (hD.perm hp) hS hA) q (h.elim (fun ⟨k, e, h⟩ => Or.inl ⟨k, e, by rw [List.getElem?_append_left (List.getElem?_eq_some_iff.mp h).1]; exact h⟩) Or.inr)
  have hPc : va_P g.1 vwCl wc H := fun k q hk => (hP.perm hp) k q (by rw [List.getElem?_append_left (List.getElem?_eq_some_iff.mp hk).1]; exact hk)
  have hDc : va_D (fun _ => True) wc := by
    obtain ⟨h1, h2⟩ := va_D.iff.mp (hD.perm hp)
    rw [List.map_append] at h1
    exact va_D.iff.mpr ⟨(List.nodup_append.mp h1).1, fun _ _ => trivial⟩
  refine va_callv (va_runV (As := As) (rest := rest) S (hM H.size) cw ⟨k_blind, va_recv hK hP hc he, fun U hU hW => ⟨rfl, by rw [hU], by rw [hU]; exact hPc, va_K.moved hW.alike hK, hDc, by rw [hU]; exact BG.warm hW ((hG.kept hS.2.1).narrow hFc)⟩⟩ rfl hn hsz rfl (lv_room hW) hdg hf) hS (fun q _ h => hFc q h) hFc (fun u t H1 locs1 ht hvm hw hB hz1 hk1 hS1 => ?_)
  obtain ⟨hP1, _, hD1⟩ := hB
  rw [ht] at hP1
  obtain ⟨hP2, hD2⟩ := k_joinQ hP hD hp hqp hk1 hFc hP1 hD1
  exact kk H1 locs1 hP2 hD2 hS1
theorem k_viQ {cc : ByteArray} {nL : Nat} {Ts : List Cond} {own : String} (S : CallFix p m c cc nL s args Ts own) {ws wc wr w1 w2 : va_W} (hK : va_K g.1 vwCl (tyL g) s) (hP : va_P g.1 vwCl ws H) (hD : va_D A ws) (hS : va_S A s.heap H locs) (hA : ∀ q, s.heap.size ≤ q → A q) (hG : BG g A s s.heap) {y : MethodName} {wy : List Cond} {rm : Room} {As : List Value} {a : Nat} {r : Int32} {mc ms : Nat} (hM : CtI l y wy rm g (.ref a :: As) wc w1 r mc ms) {C : String} {index : Nat} {bytes : ByteArray} {maxL : Nat} {ret : Option FieldType} {n : Nat} (cw : CallW R s args own C index y bytes maxL ret wy rm mc ms n) {q0 ci : Nat} {fs : List Value} {q : vw_C} (hc : vwCl[ci]? = some q) (he : ws[q0]? = some (a, .inr (ci, fs))) (hq : q.1 = C) (hp : ws.Perm (wc ++ wr)) (hqp : (w1 ++ wr).Perm w2) {pc : Nat} {ls : Array Slot} {st rest : List Value} (hst : st = As.reverse ++ .ref a :: rest) (hn : As.length = n) (hsz : ls.size = nL) (hW : (rest.map fun v => v.category).sum ≤ 8) (hdg : decode cc pc = .ok (.invokevirtual index, 3)) {k1 n1 : Nat} (hk : cells + mc = k1) (hns : slots + ms = n1) (hf : k1 ≤ R.cells ∧ n1 ≤ R.slots) (kk : ∀ (H1 : Heap) (locs1 : List Loc), va_P g.1 vwCl w2 H1 → va_D A w2 → va_S A s.heap H1 locs1 → W p l e R s m args below meth c H1 locs1 k1 n1 Q (F0 m (pc + 3) ls (.int r :: rest))) : W p l e R s m args below meth c H locs cells slots Q (F0 m pc ls st) := by
  subst hst; subst hk; subst hns
  subst hq
  have hFc : ∀ q, va_A wc H.size q → A q := fun q h => (k_free (hD.perm hp) hS hA) q (h.elim (fun ⟨k, e, h⟩ => Or.inl ⟨k, e, by rw [List.getElem?_append_left (List.getElem?_eq_some_iff.mp h).1]; exact h⟩) Or.inr)
  have hPc : va_P g.1 vwCl wc H := fun k q hk => (hP.perm hp) k q (by rw [List.getElem?_append_left (List.getElem?_eq_some_iff.mp hk).1]; exact hk)
  have hDc : va_D (fun _ => True) wc := by
    obtain ⟨h1, h2⟩ := va_D.iff.mp (hD.perm hp)
    rw [List.map_append] at h1
    exact va_D.iff.mpr ⟨(List.nodup_append.mp h1).1, fun _ _ => trivial⟩
  refine va_calli (va_runV (As := As) (rest := rest) S (hM H.size) cw ⟨k_blind, va_recv hK hP hc he, fun U hU hW => ⟨rfl, by rw [hU], by rw [hU]; exact hPc, va_K.moved hW.alike hK, hDc, by rw [hU]; exact BG.warm hW ((hG.kept hS.2.1).narrow hFc)⟩⟩ rfl hn hsz rfl (lv_room hW) hdg hf) hS (fun q _ h => hFc q h) hFc (fun r1 u t H1 locs1 ht hvm hw hB hz1 hk1 hS1 => ?_)
  obtain ⟨hP1, _, hD1⟩ := hB
  rw [ht] at hP1
  subst hw
  obtain ⟨hP2, hD2⟩ := k_joinQ hP hD hp hqp hk1 hFc hP1 hD1
  exact kk H1 locs1 hP2 hD2 hS1
theorem k_vlQ {cc : ByteArray} {nL : Nat} {Ts : List Cond} {own : String} (S : CallFix p m c cc nL s args Ts own) {ws wc wr w1 w2 : va_W} (hK : va_K g.1 vwCl (tyL g) s) (hP : va_P g.1 vwCl ws H) (hD : va_D A ws) (hS : va_S A s.heap H locs) (hA : ∀ q, s.heap.size ≤ q → A q) (hG : BG g A s s.heap) {y : MethodName} {wy : List Cond} {rm : Room} {As : List Value} {a : Nat} {r : Int64} {mc ms : Nat} (hM : CtJ l y wy rm g (.ref a :: As) wc w1 r mc ms) {C : String} {index : Nat} {bytes : ByteArray} {maxL : Nat} {ret : Option FieldType} {n : Nat} (cw : CallW R s args own C index y bytes maxL ret wy rm mc ms n) {q0 ci : Nat} {fs : List Value} {q : vw_C} (hc : vwCl[ci]? = some q) (he : ws[q0]? = some (a, .inr (ci, fs))) (hq : q.1 = C) (hp : ws.Perm (wc ++ wr)) (hqp : (w1 ++ wr).Perm w2) {pc : Nat} {ls : Array Slot} {st rest : List Value} (hst : st = As.reverse ++ .ref a :: rest) (hn : As.length = n) (hsz : ls.size = nL) (hW : (rest.map fun v => v.category).sum ≤ 8) (hdg : decode cc pc = .ok (.invokevirtual index, 3)) {k1 n1 : Nat} (hk : cells + mc = k1) (hns : slots + ms = n1) (hf : k1 ≤ R.cells ∧ n1 ≤ R.slots) (kk : ∀ (H1 : Heap) (locs1 : List Loc), va_P g.1 vwCl w2 H1 → va_D A w2 → va_S A s.heap H1 locs1 → W p l e R s m args below meth c H1 locs1 k1 n1 Q (F0 m (pc + 3) ls (.long r :: rest))) : W p l e R s m args below meth c H locs cells slots Q (F0 m pc ls st) := by
  subst hst; subst hk; subst hns
  subst hq
  have hFc : ∀ q, va_A wc H.size q → A q := fun q h => (k_free (hD.perm hp) hS hA) q (h.elim (fun ⟨k, e, h⟩ => Or.inl ⟨k, e, by rw [List.getElem?_append_left (List.getElem?_eq_some_iff.mp h).1]; exact h⟩) Or.inr)
  have hPc : va_P g.1 vwCl wc H := fun k q hk => (hP.perm hp) k q (by rw [List.getElem?_append_left (List.getElem?_eq_some_iff.mp hk).1]; exact hk)
  have hDc : va_D (fun _ => True) wc := by
    obtain ⟨h1, h2⟩ := va_D.iff.mp (hD.perm hp)
    rw [List.map_append] at h1
    exact va_D.iff.mpr ⟨(List.nodup_append.mp h1).1, fun _ _ => trivial⟩
  refine va_calll (va_runV (As := As) (rest := rest) S (hM H.size) cw ⟨k_blind, va_recv hK hP hc he, fun U hU hW => ⟨rfl, by rw [hU], by rw [hU]; exact hPc, va_K.moved hW.alike hK, hDc, by rw [hU]; exact BG.warm hW ((hG.kept hS.2.1).narrow hFc)⟩⟩ rfl hn hsz rfl (lv_room hW) hdg hf) hS (fun q _ h => hFc q h) hFc (fun r1 u t H1 locs1 ht hvm hw hB hz1 hk1 hS1 => ?_)
  obtain ⟨hP1, _, hD1⟩ := hB
  rw [ht] at hP1
  subst hw
  obtain ⟨hP2, hD2⟩ := k_joinQ hP hD hp hqp hk1 hFc hP1 hD1
  exact kk H1 locs1 hP2 hD2 hS1
end
