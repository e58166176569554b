/-! the law, from its entry -/
theorem st_arr {args : Array Value} {s : State} {ty : FieldType} (h : (Cond.arrayClass ty).before args s = true) : ∃ c : ClassId, ArrOfT s c ty ∧ s.vm.findClass ("[" ++ ty.toString) = some c := by
  obtain ⟨c, k, comp, h1, h2, h3⟩ := Cond.arrayClass_spec (first := s) (o := none) (idx := []) h
  exact ⟨c, fun n z => ⟨fun k h => (by cases h), k, h2, comp, h3⟩, h1⟩
theorem st_K {args : Array Value} {s : State} (htu : ∀ w ∈ UW, w.before args s = true) (hao : (Cond.arrayOver (.object "FaultTests$Setup")).before args s = true) (haa : (Cond.arrayOver (.array .int)).before args s = true) : ∃ (D : va_G) (cI cJ cS cY cR : ClassId), va_K D vwCl [(cI, .int), (cJ, .long), (cI, .int), (cS, .object "FaultTests$Setup"), (cY, .byte), (cR, .array .int)] s := by
  obtain ⟨c0, i0, h0⟩ := u_known (C := RX0) (T := TX0) (N := 14) (n := 14) htu hinX0 (htu _ mw_1_50)
  obtain ⟨c1, i1, h1⟩ := u_known (C := RX1) (T := TX1) (N := 3) (n := 3) htu hinX1 (htu _ mw_1_193)
  obtain ⟨c2, i2, h2⟩ := u_known (C := RX2) (T := TX2) (N := 2) (n := 2) htu hinX2 (htu _ mw_1_218)
  obtain ⟨c3, i3, h3⟩ := u_known (C := RX3) (T := TX3) (N := 5) (n := 5) htu hinX3 (htu _ mw_1_212)
  obtain ⟨c4, i4, h4⟩ := u_known (C := RX4) (T := TX4) (N := 2) (n := 2) htu hinX4 (htu _ mw_1_44)
  obtain ⟨c5, i5, h5⟩ := u_known (C := RX5) (T := TX5) (N := 10) (n := 10) htu hinX5 (htu _ mw_1_38)
  obtain ⟨c6, i6, h6⟩ := u_known (C := RX6) (T := TX6) (N := 5) (n := 5) htu hinX6 (htu _ mw_1_121)
  obtain ⟨c7, i7, h7⟩ := u_known (C := RX7) (T := TX7) (N := 12) (n := 12) htu hinX7 (htu _ mw_1_30)
  obtain ⟨c8, i8, h8⟩ := u_known (C := RX8) (T := TX8) (N := 8) (n := 8) htu hinX8 (htu _ mw_3_76)
  obtain ⟨c9, i9, h9⟩ := u_known (C := RJ0) (T := TJ0) (N := 4) (n := 4) htu hinJ0 (htu _ mw_5_107)
  obtain ⟨c10, i10, h10⟩ := u_known (C := RJ4) (T := TJ4) (N := 4) (n := 4) htu hinJ4 (htu _ mw_4_167)
  obtain ⟨cI, aI, fI⟩ := st_arr (htu _ mw_1_119)
  obtain ⟨cJ, aJ, fJ⟩ := st_arr (htu _ mw_1_232)
  obtain ⟨cY, aY, fY⟩ := st_arr (htu _ mw_2_202)
  obtain ⟨comp, cS, kS, s1, s2, s3, s4, s5⟩ := Cond.arrayOver_spec (first := s) (o := none) (idx := []) hao
  obtain ⟨comq, cR, kR, r1, r2, r3, r4⟩ := Cond.arrayOver_specA (first := s) (o := none) (idx := []) haa
  refine ⟨(fun k => if k = 0 then c0 else if k = 1 then c1 else if k = 2 then c2 else if k = 3 then c3 else if k = 4 then c4 else if k = 5 then c5 else if k = 6 then c6 else if k = 7 then c7 else if k = 8 then c8 else if k = 9 then c9 else c10, fun k => if k = 0 then i0 else if k = 1 then i1 else if k = 2 then i2 else if k = 3 then i3 else if k = 4 then i4 else if k = 5 then i5 else if k = 6 then i6 else if k = 7 then i7 else if k = 8 then i8 else if k = 9 then i9 else i10), cI, cJ, cS, cY, cR, fun k q hq => ?_, fun k q hq => ?_⟩
  · match k, hq with
    | 0, hq => cases hq; exact h0
    | 1, hq => cases hq; exact h1
    | 2, hq => cases hq; exact h2
    | 3, hq => cases hq; exact h3
    | 4, hq => cases hq; exact h4
    | 5, hq => cases hq; exact h5
    | 6, hq => cases hq; exact h6
    | 7, hq => cases hq; exact h7
    | 8, hq => cases hq; exact h8
    | 9, hq => cases hq; exact h9
    | 10, hq => cases hq; exact h10
    | k + 11, hq => simp [vwCl] at hq
  · match k, hq with
    | 0, hq => cases hq; exact ⟨aI, fI⟩
    | 1, hq => cases hq; exact ⟨aJ, fJ⟩
    | 2, hq => cases hq; exact ⟨aI, fI⟩
    | 3, hq => cases hq; exact ⟨fun n z => ⟨fun k h => (by cases h), kS, s3, comp, s4⟩, kS, comp, s3, s4, s1, s5⟩
    | 4, hq => cases hq; exact ⟨aY, fY⟩
    | 5, hq => cases hq; exact ⟨fun n z => ⟨fun k h => (by cases h), kR, r2, comq, r3⟩, r4⟩
    | k + 6, hq => simp at hq
theorem va_XT {b L : Nat} {xs : Nat → Int32} {A : Nat → Prop} {U : State} {H : Heap} (h : va_X b L xs U H) (hb : ¬ A b) : va_T .int b L (fun j => .int (xs j)) A U H := by
  obtain ⟨scr, h1, h2, h3, h4, h5⟩ := h
  exact ⟨scr, h1, h2, h3, Nat.le_of_eq h4.symm, by rw [h4], h5, hb⟩
set_option maxHeartbeats 4000000 in
set_option maxRecDepth 100000 in
theorem whole_start0 {p : Program} {e : Env} {s : State} {m : MethodId} {below : List Frame} {meth : Method} {c : Code} (l : Launch) {b L : Nat} {xs : Nat → Int32} (hf : f_L_law L xs = some ()) (C0 : lw_At p s m meth c b L xs) : W p l e room_1 s m #[Value.ref b] below meth c s.heap [] 0 0 (lw_Z below #[Value.ref b] s) (entryFrame m ([Value.ref b] : List Value).toArray 13) := by
  obtain ⟨hx, hb, hr, hml, hown, hts, hX, hbl, hlocks, hgv⟩ := id C0
  have htu : ∀ w ∈ UW, w.before #[Value.ref b] s = true := fun w h => tbl2_hts hts w (UW_good h).1
  have htt : ∀ w ∈ tables_1, w.before #[Value.ref b] s = true := fun w h => hts w (lw_in1 h)
  have hA : ∀ q : Nat, s.heap.size ≤ q → (fun q : Nat => s.heap.size ≤ q) q := fun _ h => h
  have hbA : ¬ (fun q : Nat => s.heap.size ≤ q) b := Nat.not_le.mpr hbl
  obtain ⟨aK, aV, aS, h5, hBG⟩ := st_BG (A := fun q : Nat => s.heap.size ≤ q) htt (NRW_b hgv) (fun a h => Nat.not_le.mpr h) (va_XT hX hbA)
  obtain ⟨D, kI, kJ, kS, kY, kR, hK⟩ := st_K htu (htt _ T_in.2.2.2.2.2.1) (htt _ T_in.2.2.2.2.2.2.1)
  have hG := hBG D kI kJ kI kS kY kR
  obtain ⟨g, hg⟩ : ∃ g : Gx, g = (D, kI, kJ, kI, kS, aK, aV, aS, kY, kR, L, xs) := ⟨_, rfl⟩
  rw [← hg] at hG
  have hK : va_K g.1 vwCl (tyL g) s := by rw [hg]; exact hK
  have hf : f_L_law (scL g) (scX g) = some () := by rw [hg]; exact hf
  have hb5 : adS g 5 = b := by rw [hg]; exact h5
  obtain ⟨A, hAe⟩ : ∃ A : Nat → Prop, A = fun q : Nat => s.heap.size ≤ q := ⟨_, rfl⟩
  rw [← hAe] at hG
  have hA : ∀ q : Nat, s.heap.size ≤ q → A q := fun q h => by rw [hAe]; exact h
  have hAs : ∀ q : Nat, A q → s.heap.size ≤ q := fun q h => by rw [hAe] at h; exact h
  have hS : va_S A s.heap s.heap [] := va_S.rf
  have hP : va_P g.1 vwCl [] s.heap := fun k q h => by simp at h
  have hD : va_D A [] := ⟨fun i j p q h => by simp at h, fun k q h => by simp at h⟩
  have hl := lv_entry ([.ref b]) (n := 13) (Nat.le_of_ble_eq_true rfl)
  rw [lg_entry_eq]
  generalize (lg_sl ([.ref b]) ++ List.replicate (13 - (lg_sl ([.ref b])).length) Slot.unset).toArray = ls at hl ⊢
  have hl : lv_has ls 13 [(0, .ref (adS g 5))] := by rw [hb5]; exact hl
  exact law_all (e := e) (below := below) l g hx hb hml hr hlocks hown htu hK hG hA hAs hf s.heap [] hP hD hS ls hl
