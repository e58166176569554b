/-! the body of the law, one turn -/
theorem s_body {xs : Nat → Int32} {L p : Nat} (hp : p + 6 ≤ L) (hL : L < 2147483648) {self0 : Vs → Vs → Vs → Vs → Vs → Vs → Vs → Vs → Vs → Vs → Vs → Vs → Vs → Vs → Hv → Int32 → Option Unit} (hs0 : LG self0 (nI (p + 6))) {vM vO vF vC vT vRT vG vB vRF vGF vBF vD vE vU : Vs} {vH : Hv} (hI : INV vM vF vC vT vRT vG vRF vD vH) : f_L_body xs L 342 1368 self0 vM vO vF vC vT vRT vG vB vRF vGF vBF vD vE vU vH (nI p) = some () := by
  have hs : LG (fun vM vO vF vC vT vRT vG vB vRF vGF vBF vD vE vU vH x4 => self0 vM vO vF vC vT vRT vG vB vRF vGF vBF vD vE vU vH (x4 + (6 : Int32))) (nI p) := fun vM vO vF vC vT vRT vG vB vRF vGF vBF vD vE vU vH h => by
    show self0 vM vO vF vC vT vRT vG vB vRF vGF vBF vD vE vU vH (nI p + (6 : Int32)) = some ()
    rw [z_l6, nI_add]
    exact hs0 vM vO vF vC vT vRT vG vB vRF vGF vBF vD vE vU vH h
  unfold f_L_body
  rw [z_inb (show p < L by omega) hL, z_gt, z_cl (by omega)]
  by_cases h0 : (xs p &&& (31 : Int32)) = (0 : Int32)
  · rw [if_pos h0]
    exact s_c0 hp hL hs hI
  rw [if_neg h0]
  by_cases h1 : (xs p &&& (31 : Int32)) = (1 : Int32)
  · rw [if_pos h1]
    exact s_c1 hp hL hs hI
  rw [if_neg h1]
  by_cases h2 : (xs p &&& (31 : Int32)) = (2 : Int32)
  · rw [if_pos h2]
    exact s_c2 hp hL hs hI
  rw [if_neg h2]
  by_cases h3 : (xs p &&& (31 : Int32)) = (3 : Int32)
  · rw [if_pos h3]
    exact s_c3 hp hL hs hI
  rw [if_neg h3]
  by_cases h4 : (xs p &&& (31 : Int32)) = (4 : Int32)
  · rw [if_pos h4]
    exact s_c4 hp hL hs hI
  rw [if_neg h4]
  by_cases h5 : (xs p &&& (31 : Int32)) = (5 : Int32)
  · rw [if_pos h5]
    exact s_c5 hp hL hs hI
  rw [if_neg h5]
  by_cases h6 : (xs p &&& (31 : Int32)) = (6 : Int32)
  · rw [if_pos h6]
    exact s_c6 hp hL hs hI
  rw [if_neg h6]
  by_cases h7 : (xs p &&& (31 : Int32)) = (7 : Int32)
  · rw [if_pos h7]
    exact s_c7 hp hL hs hI
  rw [if_neg h7]
  by_cases h8 : (xs p &&& (31 : Int32)) = (8 : Int32)
  · rw [if_pos h8]
    exact s_c8 hp hL hs hI
  rw [if_neg h8]
  by_cases h9 : (xs p &&& (31 : Int32)) = (9 : Int32)
  · rw [if_pos h9]
    exact s_c9 hp hL hs hI
  rw [if_neg h9]
  by_cases h10 : (xs p &&& (31 : Int32)) = (10 : Int32)
  · rw [if_pos h10]
    exact s_c10 hp hL hs hI
  rw [if_neg h10]
  by_cases h11 : (xs p &&& (31 : Int32)) = (11 : Int32)
  · rw [if_pos h11]
    exact s_c11 hp hL hs hI
  rw [if_neg h11]
  by_cases h12 : (xs p &&& (31 : Int32)) = (12 : Int32)
  · rw [if_pos h12]
    exact s_c12 hp hL hs hI
  rw [if_neg h12]
  by_cases h13 : (xs p &&& (31 : Int32)) = (13 : Int32)
  · rw [if_pos h13]
    exact s_c13 hp hL hs hI
  rw [if_neg h13]
  by_cases h14 : (xs p &&& (31 : Int32)) = (14 : Int32)
  · rw [if_pos h14]
    exact s_c14 hp hL hs hI
  rw [if_neg h14]
  by_cases h15 : (xs p &&& (31 : Int32)) = (15 : Int32)
  · rw [if_pos h15]
    exact s_c15 hp hL hs hI
  rw [if_neg h15]
  by_cases h16 : (xs p &&& (31 : Int32)) = (16 : Int32)
  · rw [if_pos h16]
    exact s_c16 hp hL hs hI
  rw [if_neg h16]
  by_cases h17 : (xs p &&& (31 : Int32)) = (17 : Int32)
  · rw [if_pos h17]
    exact s_c17 hp hL hs hI
  rw [if_neg h17]
  by_cases h18 : (xs p &&& (31 : Int32)) = (18 : Int32)
  · rw [if_pos h18]
    exact s_c18 hp hL hs hI
  rw [if_neg h18]
  by_cases h19 : (xs p &&& (31 : Int32)) = (19 : Int32)
  · rw [if_pos h19]
    exact s_c19 hp hL hs hI
  rw [if_neg h19]
  by_cases h20 : (xs p &&& (31 : Int32)) = (20 : Int32)
  · rw [if_pos h20]
    exact s_c20 hp hL hs hI
  rw [if_neg h20]
  by_cases h21 : (xs p &&& (31 : Int32)) = (21 : Int32)
  · rw [if_pos h21]
    exact s_c21 hp hL hs hI
  rw [if_neg h21]
  by_cases h22 : (xs p &&& (31 : Int32)) = (22 : Int32)
  · rw [if_pos h22]
    exact s_c22 hp hL hs hI
  rw [if_neg h22]
  by_cases h23 : (xs p &&& (31 : Int32)) = (23 : Int32)
  · rw [if_pos h23]
    exact s_c23 hp hL hs hI
  rw [if_neg h23]
  by_cases h24 : (xs p &&& (31 : Int32)) = (24 : Int32)
  · rw [if_pos h24]
    exact s_c24 hp hL hs hI
  rw [if_neg h24]
  by_cases h25 : (xs p &&& (31 : Int32)) = (25 : Int32)
  · rw [if_pos h25]
    exact s_c25 hp hL hs hI
  rw [if_neg h25]
  by_cases h26 : (xs p &&& (31 : Int32)) = (26 : Int32)
  · rw [if_pos h26]
    exact s_c26 hp hL hs hI
  rw [if_neg h26]
  by_cases h27 : (xs p &&& (31 : Int32)) = (27 : Int32)
  · rw [if_pos h27]
    exact s_c27 hp hL hs hI
  rw [if_neg h27]
  by_cases h28 : (xs p &&& (31 : Int32)) = (28 : Int32)
  · rw [if_pos h28]
    exact s_c28 hp hL hs hI
  rw [if_neg h28]
  exact hs vM vO vF vC vT vRT vG vB vRF vGF vBF vD vE vU vH hI
