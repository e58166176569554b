def f_X8_initT (vM : Vs) : Option Vs :=
  o1 (f_X8_plain vM) (fun (vM_1 : Vs) => gd (inb (0 : Int32) 440) (bn (sI vM_1 2 ((0 : Int32)).toNatClampNeg (1 : Int32)) (fun (vM_4 : Vs) => gd (inb (1 : Int32) 440) (bn (sI vM_4 2 ((1 : Int32)).toNatClampNeg (1 : Int32)) (fun (vM_6 : Vs) => lp f_X8_initT_L138 (fun _ _ => none) FU (0 : Int32) vM_6)))))
def mV0 : Vs := sF zV 16 (-1)
theorem mV_some : (f_X8_initT mV0).isSome = true := by decide +kernel
def mV1 : Vs := (f_X8_initT mV0).get mV_some
theorem mV_eq : f_X8_initT mV0 = some mV1 := (Option.some_get _).symm
