def f_X8_initT_L138 (self9 : Int32 → Vs → Option (Vs)) (x1_7 : Int32) (vM_8 : Vs) : Option (Vs) :=
  if (440 : Int32) ≤ x1_7 then some (vM_8) else gd (inb x1_7 440) (o1 (f_X8_put vM_8 x1_7 (vM_8.2.1 2 (x1_7).toNatClampNeg)) (fun (vM_15 : Vs) => self9 (x1_7 + (1 : Int32)) vM_15))
