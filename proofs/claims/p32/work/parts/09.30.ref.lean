/-! the reference: all wires' values, without and with a fault; questions; what is found -/
def fI (p : Nat) : Int32 := if p = 0 then im1 else nI (p - 1)
theorem fI_0 : fI 0 = im1 := rfl
theorem fI_s (f : Nat) : fI (f + 1) = nI f := rfl
