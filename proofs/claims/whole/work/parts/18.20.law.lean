/-! the law, from its entry -/
theorem st_arr {args : Array Value} {s : State} {ty : FieldType} (h : (Cond.arrayClass ty).before args s = true) : ∃ c : ClassId, ArrOfT s c ty ∧ s.vm.findClass ("[" ++ ty.toString) = some c := by
  obtain ⟨c, k, comp, h1, h2, h3⟩ := Cond.arrayClass_spec (first := s) (o := none) (idx := []) h
  exact ⟨c, fun n z => ⟨fun k h => (by cases h), k, h2, comp, h3⟩, h1⟩
theorem st_K {args : Array Value} {s : State} (htu : ∀ w ∈ UW, w.before args s = true) (hao : (Cond.arrayOver (.object "FaultTests$Setup")).before args s = true) : ∃ (D : va_G) (cI cJ cB cS : ClassId), va_K D vwCl [(cI, .int), (cJ, .long), (cB, .boolean), (cS, .object "FaultTests$Setup")] s := by
  obtain ⟨c0, i0, h0⟩ := u_known (C := RX0) (T := TX0) (N := 14) (n := 14) htu hinX0 (htu _ mw_1_46)
  obtain ⟨c1, i1, h1⟩ := u_known (C := RX1) (T := TX1) (N := 3) (n := 3) htu hinX1 (htu _ mw_1_197)
  obtain ⟨c2, i2, h2⟩ := u_known (C := RX2) (T := TX2) (N := 2) (n := 2) htu hinX2 (htu _ mw_1_223)
  obtain ⟨c3, i3, h3⟩ := u_known (C := RX3) (T := TX3) (N := 5) (n := 5) htu hinX3 (htu _ mw_1_217)
  obtain ⟨c4, i4, h4⟩ := u_known (C := RX4) (T := TX4) (N := 2) (n := 2) htu hinX4 (htu _ mw_1_40)
  obtain ⟨c5, i5, h5⟩ := u_known (C := RX5) (T := TX5) (N := 10) (n := 10) htu hinX5 (htu _ mw_1_34)
  obtain ⟨c6, i6, h6⟩ := u_known (C := RX6) (T := TX6) (N := 5) (n := 5) htu hinX6 (htu _ mw_1_122)
  obtain ⟨c7, i7, h7⟩ := u_known (C := RX7) (T := TX7) (N := 12) (n := 12) htu hinX7 (htu _ mw_1_26)
  obtain ⟨c8, i8, h8⟩ := u_known (C := RX8) (T := TX8) (N := 23) (n := 23) htu hinX8 (htu _ mw_5_59)
  obtain ⟨cI, aI, fI⟩ := st_arr (htu _ mw_1_120)
  obtain ⟨cJ, aJ, fJ⟩ := st_arr (htu _ mw_1_237)
  obtain ⟨cB, aB, fB⟩ := st_arr (htu _ mw_5_142)
  obtain ⟨comp, cS, kS, s1, s2, s3, s4, s5⟩ := Cond.arrayOver_spec (first := s) (o := none) (idx := []) hao
  refine ⟨(fun k => if k = 0 then c0 else if k = 1 then c1 else if k = 2 then c2 else if k = 3 then c3 else if k = 4 then c4 else if k = 5 then c5 else if k = 6 then c6 else if k = 7 then c7 else c8, fun k => if k = 0 then i0 else if k = 1 then i1 else if k = 2 then i2 else if k = 3 then i3 else if k = 4 then i4 else if k = 5 then i5 else if k = 6 then i6 else if k = 7 then i7 else i8), cI, cJ, cB, cS, fun k q hq => ?_, fun k q hq => ?_⟩
  · match k, hq with
    | 0, hq => cases hq; exact h0
    | 1, hq => cases hq; exact h1
    | 2, hq => cases hq; exact h2
    | 3, hq => cases hq; exact h3
    | 4, hq => cases hq; exact h4
    | 5, hq => cases hq; exact h5
    | 6, hq => cases hq; exact h6
    | 7, hq => cases hq; exact h7
    | 8, hq => cases hq; exact h8
    | k + 9, hq => simp [vwCl] at hq
  · match k, hq with
    | 0, hq => cases hq; exact ⟨aI, fI⟩
    | 1, hq => cases hq; exact ⟨aJ, fJ⟩
    | 2, hq => cases hq; exact ⟨aB, fB⟩
    | 3, hq => cases hq; exact ⟨fun n z => ⟨fun k h => (by cases h), kS, s3, comp, s4⟩, kS, comp, s3, s4, s1, s5⟩
    | k + 4, hq => simp at hq
theorem lp_gt {L P : Nat} (hL : L ≤ 3072) (hP : P ≤ 4000) : (nI P > nI L - (6 : Int32)) ↔ L < P + 6 := by
  show nI L - (6 : Int32) < nI P ↔ _
  rw [Int32.lt_iff_toInt_lt, Int32.toInt_sub, nI_toInt (by omega), nI_toInt (by omega)]
  have e1 : (6 : Int32).toInt = 6 := rfl
  rw [e1, Int.bmod_eq_of_le (by omega) (by omega)]
  omega
/-- right where the state keeps INV and the place is P -/
noncomputable def selfN (P : Nat) : Vs → Vs → Vs → Vs → Vs → Vs → Vs → Vs → Vs → Vs → Vs → Vs → Vs → Vs → Hv → Int32 → Option Unit := fun vM vO vF vC vT vRT vG vB vRF vGF vBF vD vE vU vH x4 => @ite (Option Unit) (INV vM vF vC vT vRT vG vRF vD vH ∧ x4 = nI P) (Classical.propDecidable _) (some ()) none
theorem selfN_LG (P : Nat) : LG (selfN P) (nI P) := fun vM vO vF vC vT vRT vG vB vRF vGF vBF vD vE vU vH h => if_pos ⟨h, rfl⟩
theorem selfN_in {P : Nat} {vM vO vF vC vT vRT vG vB vRF vGF vBF vD vE vU : Vs} {vH : Hv} {x4 : Int32} (h : selfN P vM vO vF vC vT vRT vG vB vRF vGF vBF vD vE vU vH x4 = some ()) : INV vM vF vC vT vRT vG vRF vD vH ∧ x4 = nI P := by
  unfold selfN at h
  split at h
  · assumption
  · cases h
set_option maxHeartbeats 4000000 in
set_option maxRecDepth 100000 in
theorem law_turns {p : Program} {e : Env} {s : State} {m : MethodId} {below : List Frame} {meth : Method} {c : Code} (l : Launch) (hst : l.stackTraces = false) (g : Gx) {A : Nat → Prop} {b L : Nat} {xs : Nat → Int32} (hL : L ≤ 3072) (hx : p.tables.exec = Jvm.exec) (hb : c.code = cL_law) (hml : c.maxLocals = 9) (hr : meth.sig.returnType = ret) (hlocks : meth.locks = false) (hown : s.vm.findClass RL = some m.cls) (htu : ∀ w ∈ UW, w.before #[Value.ref b] s = true) (hK : va_K g.1 vwCl (tyL g) s) (hG : BG g A s s.heap) (hA : ∀ q, s.heap.size ≤ q → A q) (hAs : ∀ q, A q → s.heap.size ≤ q) (hX : va_X b L xs s s.heap) (hbl : b < s.heap.size) (hbA : ¬ A b) (bM : Nat → Nat) (bO : Nat → Nat) (bF : Nat → Nat) (bS : Nat → Nat) (bC : Nat → Nat) (bT : Nat → Nat) (bRT : Nat → Nat) (bG : Nat → Nat) (bB : Nat → Nat) (bRF : Nat → Nat) (bGF : Nat → Nat) (bBF : Nat → Nat) (bD : Nat → Nat) (bS2 : Nat → Nat) (bE : Nat → Nat) (bU : Nat → Nat) (bH : Nat → Nat → Nat) : ∀ (n P cells slots : Nat) (vM : Vs) (vO : Vs) (vF : Vs) (vC : Vs) (vT : Vs) (vRT : Vs) (vG : Vs) (vB : Vs) (vRF : Vs) (vGF : Vs) (vBF : Vs) (vD : Vs) (vE : Vs) (vU : Vs) (vH : Hv), INV vM vF vC vT vRT vG vRF vD vH → L < P + n → P ≤ L + 6 → cells + n ≤ 600000 → slots + 6 * n ≤ 7000000 → ∀ (H : Heap) (locs : List Loc), va_P g.1 vwCl (cM g bM vM ++ (cO g bO vO ++ (cF g bF (bD 0) (bS 0) (bH 0 0) (bRF 0) (bRT 0) vF ++ (cS g bS (bC 0) (bT 0) ++ (cC g bC vC ++ (cT g bT vT ++ (cR g bRT 342 (bG 0) (bB 0) vRT ++ (cL g bG vG ++ (cL g bB vB ++ (cR g bRF 1368 (bGF 0) (bBF 0) vRF ++ (cL g bGF vGF ++ (cL g bBF vBF ++ (cD g bD (bS2 0) vD ++ (cS g bS2 (bE 0) (bU 0) ++ (cC g bE vE ++ (cT g bU vU ++ (cH g bH vH))))))))))))))))) H → va_D A (cM g bM vM ++ (cO g bO vO ++ (cF g bF (bD 0) (bS 0) (bH 0 0) (bRF 0) (bRT 0) vF ++ (cS g bS (bC 0) (bT 0) ++ (cC g bC vC ++ (cT g bT vT ++ (cR g bRT 342 (bG 0) (bB 0) vRT ++ (cL g bG vG ++ (cL g bB vB ++ (cR g bRF 1368 (bGF 0) (bBF 0) vRF ++ (cL g bGF vGF ++ (cL g bBF vBF ++ (cD g bD (bS2 0) vD ++ (cS g bS2 (bE 0) (bU 0) ++ (cC g bE vE ++ (cT g bU vU ++ (cH g bH vH))))))))))))))))) → va_S A s.heap H locs → ∀ ls : Array Slot, lv_has ls 9 [(0, .ref b), (1, .ref (bF 0)), (2, .ref (bM 0)), (3, .ref (bO 1)), (4, .int (nI P))] → W p l e room_1 s m #[Value.ref b] below meth c H locs cells slots (lw_Z below #[Value.ref b] s) (F0 m 23 ls []) := by
  intro n
  induction n with
  | zero =>
    intro P cells slots vM vO vF vC vT vRT vG vB vRF vGF vBF vD vE vU vH hI h1 h2 h3 h4 H locs hP hD hS ls hl
    refine lv_iload hx hb dL_law_23 (lv_at hl 4 rfl) ?_
    refine lv_aload_n hx hb dL_law_25 rfl (lv_at hl 0 rfl) ?_
    refine va_slen hx hb hX hbl hbA hS dL_law_26 ?_
    refine lv_bipush (v := (6 : Int32)) hx hb dL_law_27 (by decide) ?_
    refine lv_isub hx hb dL_law_29 ?_
    refine lv_icmp_gt (tgt := 1538) hx hb dL_law_30 (by decide) (fun h => ?_) (fun h => absurd ((lp_gt hL (by omega)).mpr (by omega)) h)
    refine lv_iconst (v := 1) hx hb dL_law_1538 (by decide) ?_
    refine va_forget (fun q hq => hAs _ (hS.2.2 q hq)) ?_
    refine W.widen (k := 601024) (n := 7293034) (by omega) (by omega) ?_
    exact lw_ret (Drawn.sameBut.refl s.drawn lw_cs) hx hb hr hlocks dL_law_1539
  | succ n ih =>
    intro P cells slots vM vO vF vC vT vRT vG vB vRF vGF vBF vD vE vU vH hI h1 h2 h3 h4 H locs hP hD hS ls hl
    refine lv_iload hx hb dL_law_23 (lv_at hl 4 rfl) ?_
    refine lv_aload_n hx hb dL_law_25 rfl (lv_at hl 0 rfl) ?_
    refine va_slen hx hb hX hbl hbA hS dL_law_26 ?_
    refine lv_bipush (v := (6 : Int32)) hx hb dL_law_27 (by decide) ?_
    refine lv_isub hx hb dL_law_29 ?_
    refine lv_icmp_gt (tgt := 1538) hx hb dL_law_30 (by decide) (fun h => ?_) (fun h => ?_)
    · refine lv_iconst (v := 1) hx hb dL_law_1538 (by decide) ?_
      refine va_forget (fun q hq => hAs _ (hS.2.2 q hq)) ?_
      refine W.widen (k := 601024) (n := 7293034) (by omega) (by omega) ?_
      exact lw_ret (Drawn.sameBut.refl s.drawn lw_cs) hx hb hr hlocks dL_law_1539
    · have hle : P + 6 ≤ L := by
        refine Nat.le_of_not_lt (fun z => h ((lp_gt hL (by omega)).mpr z))
      refine law_body l hst g hx hb hml hown htu hK hG hA hX hbl hbA bM bO bF bS bC bT bRT bG bB bRF bGF bBF bD bS2 bE bU bH 342 1368 cells slots ⟨Nat.le_trans (show cells + 1 ≤ 600001 by omega) (Nat.le_of_ble_eq_true rfl), Nat.le_trans (show slots + 6 ≤ 7000006 by omega) (Nat.le_of_ble_eq_true rfl)⟩ (selfN (P + 6)) (fun vM vO vF vC vT vRT vG vB vRF vGF vBF vD vE vU vH x4 hf H locs hP hD hS ls hl => ?_) vM vO vF vC vT vRT vG vB vRF vGF vBF vD vE vU vH (nI P) (s_body hle (by omega) (selfN_LG (P + 6)) hI) H locs hP hD hS ls hl
      obtain ⟨hI', hx4⟩ := selfN_in hf
      rw [hx4] at hl
      exact ih (P + 6) (cells + 1) (slots + 6) vM vO vF vC vT vRT vG vB vRF vGF vBF vD vE vU vH hI' (by omega) (by omega) (by omega) (by omega) H locs hP hD hS ls hl
set_option maxHeartbeats 4000000 in
set_option maxRecDepth 100000 in
theorem whole_start {p : Program} {e : Env} {s : State} {m : MethodId} {below : List Frame} {meth : Method} {c : Code} (l : Launch) (hflags : l.flags = flags0) {b L : Nat} {xs : Nat → Int32} (hL : L ≤ 3072) (C0 : lw_At p s m meth c b L xs) : W p l e room_1 s m #[Value.ref b] below meth c s.heap [] 0 0 (lw_Z below #[Value.ref b] s) (entryFrame m ([Value.ref b] : List Value).toArray 9) := by
  obtain ⟨hx, hb, hr, hml, hown, hts, hX, hbl, hlocks, hgv⟩ := id C0
  have hst : l.stackTraces = false := by
    have e : l.flags = flags0 := hflags
    unfold Launch.stackTraces
    rw [e]
    rfl
  have htu : ∀ w ∈ UW, w.before #[Value.ref b] s = true := fun w h => hts w (UW_good h).1
  have htt : ∀ w ∈ tables_1, w.before #[Value.ref b] s = true := fun w h => hts w (lw_in1 h)
  have hA : ∀ q : Nat, s.heap.size ≤ q → (fun q : Nat => s.heap.size ≤ q) q := fun _ h => h
  have hbA : ¬ (fun q : Nat => s.heap.size ≤ q) b := Nat.not_le.mpr hbl
  obtain ⟨aK, aV, aS, hBG⟩ := st_BG (A := fun q : Nat => s.heap.size ≤ q) htt (NRW_b hgv) (fun a h => Nat.not_le.mpr h)
  obtain ⟨D, kI, kJ, kB, kS, hK⟩ := st_K htu (htt _ (List.mem_of_getElem? T_in.2.2.2.2))
  have hG := hBG D kI kJ kB kS
  obtain ⟨g, hg⟩ : ∃ g : Gx, g = (D, kI, kJ, kB, kS, aK, aV, aS) := ⟨_, rfl⟩
  rw [← hg] at hG
  have hK : va_K g.1 vwCl (tyL g) s := by rw [hg]; exact hK
  obtain ⟨A, hAe⟩ : ∃ A : Nat → Prop, A = fun q : Nat => s.heap.size ≤ q := ⟨_, rfl⟩
  rw [← hAe] at hG
  have hA : ∀ q : Nat, s.heap.size ≤ q → A q := fun q h => by rw [hAe]; exact h
  have hAs : ∀ q : Nat, A q → s.heap.size ≤ q := fun q h => by rw [hAe] at h; exact h
  have hbA : ¬ A b := by rw [hAe]; exact hbA
  have hS : va_S A s.heap s.heap [] := va_S.rf
  have hP : va_P g.1 vwCl [] s.heap := fun k q h => by simp at h
  have hD : va_D A [] := ⟨fun i j p q h => by simp at h, fun k q h => by simp at h⟩
  have hl := lv_entry ([.ref b]) (n := 9) (Nat.le_of_ble_eq_true rfl)
  rw [lg_entry_eq]
  generalize (lg_sl ([.ref b]) ++ List.replicate (9 - (lg_sl ([.ref b])).length) Slot.unset).toArray = ls at hl ⊢
  have hl : lv_has ls 9 [(0, .ref b)] := hl
  refine va_new (D := g.1) (ci := 7) (fs := [.null, .null, .null, .null, .null, .int 0, .int 0, .null, .null, .null, .null, .null]) (C := RX7) (T := TX7) (N := 12) hx hb htu hinX7 tyX7 tyX7_ok hown (htu _ mw_1_25) (htu _ mw_1_26) (htu _ mw_1_1) hK hP hD hS hA rfl (fun j hj => by rcases (show j = 0 ∨ j = 1 ∨ j = 2 ∨ j = 3 ∨ j = 4 ∨ j = 5 ∨ j = 6 ∨ j = 7 ∨ j = 8 ∨ j = 9 ∨ j = 10 ∨ j = 11 by omega) with rfl | rfl | rfl | rfl | rfl | rfl | rfl | rfl | rfl | rfl | rfl | rfl <;> rfl) (Nat.le_of_ble_eq_true rfl) (Nat.le_of_ble_eq_true rfl) dL_law_0 (fun q0 H hP hD hS => ?_)
  have hP : va_P g.1 vwCl ([(q0, .inr (7, [.null, .null, .null, .null, .null, .int 0, .int 0, .null, .null, .null, .null, .null]))]) H := hP
  have hD : va_D A ([(q0, .inr (7, [.null, .null, .null, .null, .null, .int 0, .int 0, .null, .null, .null, .null, .null]))]) := hD
  refine W.widen (k := 1) (n := 12) (by omega) (by omega) ?_
  refine lv_dup hx hb dL_law_3 rfl ?_
  refine k_ctor ⟨hx, hb, hml, hown, htu⟩ hK hP hD hS hA hG (c_X7_init l g q0) (Or.inl (cwI 0 htu (gU_0 mw_1_29) rfl rfl rfl (htu _ mw_1_1) (htu _ mw_1_27) (htu _ mw_1_28) rfl hdX7_init ⟨Nat.le_of_ble_eq_true rfl, Nat.le_of_ble_eq_true rfl⟩)) (host := "FaultTests") (wr := []) (e0 := .inr (7, [.null, .null, .null, .null, .null, .int 0, .int 0, .null, .null, .null, .null, .null])) rfl (As := []) (rest := [.ref q0]) rfl rfl hl.1 (Nat.le_of_ble_eq_true rfl) dL_law_4 (k1 := 198) (n1 := 8647) rfl rfl ⟨Nat.le_of_ble_eq_true rfl, Nat.le_of_ble_eq_true rfl⟩ (fun u H locs hu hP9 hD9 hS9 => ?_)
  subst hu
  have hP : va_P g.1 vwCl (cF g (u.1 0) (u.1 10 0) (u.1 1 0) (u.2 0 0) (u.1 7 0) (u.1 4 0) zV ++ (cS g (u.1 1) (u.1 2 0) (u.1 3 0) ++ (cC g (u.1 2) cV1 ++ (cT g (u.1 3) zV ++ (cR g (u.1 4) 342 (u.1 5 0) (u.1 6 0) (sF zV 4 1) ++ (cL g (u.1 5) zV ++ (cL g (u.1 6) zV ++ (cR g (u.1 7) 1368 (u.1 8 0) (u.1 9 0) (sF zV 4 4) ++ (cL g (u.1 8) zV ++ (cL g (u.1 9) zV ++ (cD g (u.1 10) (u.1 11 0) (sF zV 2 (-1)) ++ (cS g (u.1 11) (u.1 12 0) (u.1 13 0) ++ (cC g (u.1 12) cV1 ++ (cT g (u.1 13) zV ++ (cH g u.2 hV0))))))))))))))) H := hP9
  have hD : va_D A (cF g (u.1 0) (u.1 10 0) (u.1 1 0) (u.2 0 0) (u.1 7 0) (u.1 4 0) zV ++ (cS g (u.1 1) (u.1 2 0) (u.1 3 0) ++ (cC g (u.1 2) cV1 ++ (cT g (u.1 3) zV ++ (cR g (u.1 4) 342 (u.1 5 0) (u.1 6 0) (sF zV 4 1) ++ (cL g (u.1 5) zV ++ (cL g (u.1 6) zV ++ (cR g (u.1 7) 1368 (u.1 8 0) (u.1 9 0) (sF zV 4 4) ++ (cL g (u.1 8) zV ++ (cL g (u.1 9) zV ++ (cD g (u.1 10) (u.1 11 0) (sF zV 2 (-1)) ++ (cS g (u.1 11) (u.1 12 0) (u.1 13 0) ++ (cC g (u.1 12) cV1 ++ (cT g (u.1 13) zV ++ (cH g u.2 hV0))))))))))))))) := hD9
  have hS := hS9
  refine lv_astore_n (lv' := [(1, .ref (u.1 0 0)), (0, .ref b)]) hx hb dL_law_7 rfl hl (by decide) rfl (fun ls hl => ?_)
  refine va_new (D := g.1) (ci := 8) (fs := [.int 0, .null, .null, .int 0, .int 0, .null, .null, .null, .null, .null, .null, .null, .int 0, .int 0, .int 0, .int 0, .int 0, .int 0, .int 0, .null, .null, .null, .null]) (C := RX8) (T := TX8) (N := 23) hx hb htu hinX8 tyX8 tyX8_ok hown (htu _ mw_5_58) (htu _ mw_5_59) (htu _ mw_1_9) hK hP hD hS hA rfl (fun j hj => by rcases (show j = 0 ∨ j = 1 ∨ j = 2 ∨ j = 3 ∨ j = 4 ∨ j = 5 ∨ j = 6 ∨ j = 7 ∨ j = 8 ∨ j = 9 ∨ j = 10 ∨ j = 11 ∨ j = 12 ∨ j = 13 ∨ j = 14 ∨ j = 15 ∨ j = 16 ∨ j = 17 ∨ j = 18 ∨ j = 19 ∨ j = 20 ∨ j = 21 ∨ j = 22 by omega) with rfl | rfl | rfl | rfl | rfl | rfl | rfl | rfl | rfl | rfl | rfl | rfl | rfl | rfl | rfl | rfl | rfl | rfl | rfl | rfl | rfl | rfl | rfl <;> rfl) (Nat.le_of_ble_eq_true rfl) (Nat.le_of_ble_eq_true rfl) dL_law_8 (fun q1 H hP hD hS => ?_)
  refine W.widen (k := 199) (n := 8670) (by omega) (by omega) ?_
  refine lv_dup hx hb dL_law_11 rfl ?_
  refine k_ctor ⟨hx, hb, hml, hown, htu⟩ hK hP hD hS hA hG (c_X8_init l g q1) (Or.inl (cwI 0 htu (gU_0 mw_5_62) rfl rfl rfl (htu _ mw_1_9) (htu _ mw_5_60) (htu _ mw_5_61) rfl hdX8_init ⟨Nat.le_of_ble_eq_true rfl, Nat.le_of_ble_eq_true rfl⟩)) (host := "FaultTestsModel") (wr := (cF g (u.1 0) (u.1 10 0) (u.1 1 0) (u.2 0 0) (u.1 7 0) (u.1 4 0) zV ++ (cS g (u.1 1) (u.1 2 0) (u.1 3 0) ++ (cC g (u.1 2) cV1 ++ (cT g (u.1 3) zV ++ (cR g (u.1 4) 342 (u.1 5 0) (u.1 6 0) (sF zV 4 1) ++ (cL g (u.1 5) zV ++ (cL g (u.1 6) zV ++ (cR g (u.1 7) 1368 (u.1 8 0) (u.1 9 0) (sF zV 4 4) ++ (cL g (u.1 8) zV ++ (cL g (u.1 9) zV ++ (cD g (u.1 10) (u.1 11 0) (sF zV 2 (-1)) ++ (cS g (u.1 11) (u.1 12 0) (u.1 13 0) ++ (cC g (u.1 12) cV1 ++ (cT g (u.1 13) zV ++ (cH g u.2 hV0)))))))))))))))) (e0 := .inr (8, [.int 0, .null, .null, .int 0, .int 0, .null, .null, .null, .null, .null, .null, .null, .int 0, .int 0, .int 0, .int 0, .int 0, .int 0, .int 0, .null, .null, .null, .null])) rfl (As := []) (rest := [.ref q1]) rfl rfl hl.1 (Nat.le_of_ble_eq_true rfl) dL_law_12 (k1 := 212) (n1 := 29414) rfl rfl ⟨Nat.le_of_ble_eq_true rfl, Nat.le_of_ble_eq_true rfl⟩ (fun bM H locs hbM hP9 hD9 hS9 => ?_)
  subst hbM
  have hP := hP9
  have hD := hD9
  have hS := hS9
  refine lv_astore_n (lv' := [(2, .ref (bM 0)), (1, .ref (u.1 0 0)), (0, .ref b)]) hx hb dL_law_15 rfl hl (by decide) rfl (fun ls hl => ?_)
  refine lv_iconst (v := 1) hx hb dL_law_16 (by decide) ?_
  refine k_newJ (N' := 1) hx hb (htu _ mw_1_237) hK hP hD hS hA (by decide) (by decide) (by decide) (Nat.le_of_ble_eq_true rfl) (Nat.le_of_ble_eq_true rfl) dL_law_17 (fun qO H hP hD hS => ?_)
  refine W.widen (k := 213) (n := 29415) (by omega) (by omega) ?_
  refine lv_astore_n (lv' := [(3, .ref qO), (2, .ref (bM 0)), (1, .ref (u.1 0 0)), (0, .ref b)]) hx hb dL_law_19 rfl hl (by decide) rfl (fun ls hl => ?_)
  refine lv_iconst (v := 0) hx hb dL_law_20 (by decide) ?_
  refine lv_istore (lv' := [(4, .int 0), (3, .ref qO), (2, .ref (bM 0)), (1, .ref (u.1 0 0)), (0, .ref b)]) hx hb dL_law_21 hl (by decide) rfl (fun ls hl => ?_)
  have hperm : (((cF g (u.1 0) (u.1 10 0) (u.1 1 0) (u.2 0 0) (u.1 7 0) (u.1 4 0) zV ++ (cS g (u.1 1) (u.1 2 0) (u.1 3 0) ++ (cC g (u.1 2) cV1 ++ (cT g (u.1 3) zV ++ (cR g (u.1 4) 342 (u.1 5 0) (u.1 6 0) (sF zV 4 1) ++ (cL g (u.1 5) zV ++ (cL g (u.1 6) zV ++ (cR g (u.1 7) 1368 (u.1 8 0) (u.1 9 0) (sF zV 4 4) ++ (cL g (u.1 8) zV ++ (cL g (u.1 9) zV ++ (cD g (u.1 10) (u.1 11 0) (sF zV 2 (-1)) ++ (cS g (u.1 11) (u.1 12 0) (u.1 13 0) ++ (cC g (u.1 12) cV1 ++ (cT g (u.1 13) zV ++ (cH g u.2 hV0))))))))))))))) ++ cM g bM mV1) ++ ([(qO, .inl (g.2.2.1, 1, .inr (.inl (fun _ => 0))))] : va_W)).Perm (cM g bM mV1 ++ (cO g (fun _ => qO) zV ++ (cF g (u.1 0) (u.1 10 0) (u.1 1 0) (u.2 0 0) (u.1 7 0) (u.1 4 0) zV ++ (cS g (u.1 1) (u.1 2 0) (u.1 3 0) ++ (cC g (u.1 2) cV1 ++ (cT g (u.1 3) zV ++ (cR g (u.1 4) 342 (u.1 5 0) (u.1 6 0) (sF zV 4 1) ++ (cL g (u.1 5) zV ++ (cL g (u.1 6) zV ++ (cR g (u.1 7) 1368 (u.1 8 0) (u.1 9 0) (sF zV 4 4) ++ (cL g (u.1 8) zV ++ (cL g (u.1 9) zV ++ (cD g (u.1 10) (u.1 11 0) (sF zV 2 (-1)) ++ (cS g (u.1 11) (u.1 12 0) (u.1 13 0) ++ (cC g (u.1 12) cV1 ++ (cT g (u.1 13) zV ++ (cH g u.2 hV0))))))))))))))))) := by
    refine (List.Perm.append_right _ List.perm_append_comm).trans ?_
    rw [List.append_assoc]
    exact List.Perm.append_left _ List.perm_append_comm
  exact law_turns l hst g hL hx hb hml hr hlocks hown htu hK hG hA hAs hX hbl hbA bM (fun _ => qO) (u.1 0) (u.1 1) (u.1 2) (u.1 3) (u.1 4) (u.1 5) (u.1 6) (u.1 7) (u.1 8) (u.1 9) (u.1 10) (u.1 11) (u.1 12) (u.1 13) u.2 (L + 1) 0 213 29415 mV1 zV zV cV1 zV (sF zV 4 1) zV zV (sF zV 4 4) zV zV (sF zV 2 (-1)) cV1 zV hV0 INV_0 (by omega) (by omega) (by omega) (by omega) H locs (hP.perm hperm) (hD.perm hperm) hS ls (lv_sub hl [4, 3, 2, 1, 0] rfl)
