theorem cl_some : (f_X0_clear zV 1).isSome = true := by decide +kernel
def cV1 : Vs := (f_X0_clear zV 1).get cl_some
theorem cl_eq : f_X0_clear zV 1 = some cV1 := (Option.some_get _).symm
