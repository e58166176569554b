/-! throw new NoSuchElementException("text"): its constructor links RuntimeException's at another place than the kit's rows for a throw know -/
section
variable {p : Program} {l : Launch} {e : Env} {R : Room} {s : State} {m : MethodId} {args : Array Value} {below : List Frame} {meth : Method} {c : Code} {H : Heap} {locs : List Loc} {cells slots : Nat} {Q : State → Prop} {g : Gx} {A : Nat → Prop}
theorem k_throwN {cc : ByteArray} {pc : Nat} (hexec : p.tables.exec = Jvm.exec) (hb : c.code = cc) (hl : l.stackTraces = false) {text : String} {is sa : Nat} {ls : Array Slot} {rest : List Value} {w1 : va_W} {Qc : Array Value → State → Outcome → State → Prop}
    (hown : s.vm.findClass RX7 = some m.cls) (htu : ∀ w ∈ UW, w.before args s = true) (hG : BG g A s s.heap) (hK : va_K g.1 vwCl (tyL g) s) (hP : va_P g.1 vwCl w1 H) (hD : va_D A w1)
    (hstr : vk_R RX7 is text sa s) (hS : va_S A s.heap H locs) (hsize : ls.size = c.maxLocals)
    (d0 : decode cc pc = .ok (.new 167, 3)) (d3 : decode cc (pc + 3) = .ok (.dup, 1)) (d4 : decode cc (pc + 4) = .ok (.ldc is, 2)) (d6 : decode cc (pc + 6) = .ok (.invokespecial 171, 3)) (d9 : decode cc (pc + 9) = .ok (.athrow, 1))
    (hout : ∀ x ∈ c.exceptionTable.toList, covers x (pc + 9) = false)
    (hRframes : 5 < R.frames) (hRlocals : (rest.map fun v => v.category).sum + 82 ≤ R.locals) (hRcells : cells + 1 ≤ R.cells) (hRslots : slots + 6 ≤ R.slots) (hlocks : meth.locks = false) :
    W p l e R s m args below meth c H locs cells slots (vx_MQ below Qc (xE g A w1 (exN 3)) args s (cells + 1) (slots + 6) A) (F0 m pc ls rest) := by
  sorry
end
