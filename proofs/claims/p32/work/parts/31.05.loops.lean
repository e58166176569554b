/-! loops of more parameters -/
theorem zl5 {a0 a1 a2 a3 a4 β : Type} {body : (a0 → a1 → a2 → a3 → a4 → Option β) → a0 → a1 → a2 → a3 → a4 → Option β} {bot : a0 → a1 → a2 → a3 → a4 → Option β} {Q : β → Prop} (I : Nat → a0 → a1 → a2 → a3 → a4 → Prop) (hs : ∀ n x0 x1 x2 x3 x4 (self : a0 → a1 → a2 → a3 → a4 → Option β), I n x0 x1 x2 x3 x4 → (∀ m y0 y1 y2 y3 y4, m < n → I m y0 y1 y2 y3 y4 → Ok (self y0 y1 y2 y3 y4) Q) → Ok (body self x0 x1 x2 x3 x4) Q) : ∀ N n x0 x1 x2 x3 x4, n < N → I n x0 x1 x2 x3 x4 → Ok (lp body bot N x0 x1 x2 x3 x4) Q := by
  intro N
  induction N with
  | zero => intro n x0 x1 x2 x3 x4 h; omega
  | succ N ih => intro n x0 x1 x2 x3 x4 h hi; exact hs n x0 x1 x2 x3 x4 _ hi (fun m y0 y1 y2 y3 y4 hm hi' => ih m y0 y1 y2 y3 y4 (by omega) hi')
theorem zl7 {a0 a1 a2 a3 a4 a5 a6 β : Type} {body : (a0 → a1 → a2 → a3 → a4 → a5 → a6 → Option β) → a0 → a1 → a2 → a3 → a4 → a5 → a6 → Option β} {bot : a0 → a1 → a2 → a3 → a4 → a5 → a6 → Option β} {Q : β → Prop} (I : Nat → a0 → a1 → a2 → a3 → a4 → a5 → a6 → Prop) (hs : ∀ n x0 x1 x2 x3 x4 x5 x6 (self : a0 → a1 → a2 → a3 → a4 → a5 → a6 → Option β), I n x0 x1 x2 x3 x4 x5 x6 → (∀ m y0 y1 y2 y3 y4 y5 y6, m < n → I m y0 y1 y2 y3 y4 y5 y6 → Ok (self y0 y1 y2 y3 y4 y5 y6) Q) → Ok (body self x0 x1 x2 x3 x4 x5 x6) Q) : ∀ N n x0 x1 x2 x3 x4 x5 x6, n < N → I n x0 x1 x2 x3 x4 x5 x6 → Ok (lp body bot N x0 x1 x2 x3 x4 x5 x6) Q := by
  intro N
  induction N with
  | zero => intro n x0 x1 x2 x3 x4 x5 x6 h; omega
  | succ N ih => intro n x0 x1 x2 x3 x4 x5 x6 h hi; exact hs n x0 x1 x2 x3 x4 x5 x6 _ hi (fun m y0 y1 y2 y3 y4 y5 y6 hm hi' => ih m y0 y1 y2 y3 y4 y5 y6 (by omega) hi')
theorem zl8 {a0 a1 a2 a3 a4 a5 a6 a7 β : Type} {body : (a0 → a1 → a2 → a3 → a4 → a5 → a6 → a7 → Option β) → a0 → a1 → a2 → a3 → a4 → a5 → a6 → a7 → Option β} {bot : a0 → a1 → a2 → a3 → a4 → a5 → a6 → a7 → Option β} {Q : β → Prop} (I : Nat → a0 → a1 → a2 → a3 → a4 → a5 → a6 → a7 → Prop) (hs : ∀ n x0 x1 x2 x3 x4 x5 x6 x7 (self : a0 → a1 → a2 → a3 → a4 → a5 → a6 → a7 → Option β), I n x0 x1 x2 x3 x4 x5 x6 x7 → (∀ m y0 y1 y2 y3 y4 y5 y6 y7, m < n → I m y0 y1 y2 y3 y4 y5 y6 y7 → Ok (self y0 y1 y2 y3 y4 y5 y6 y7) Q) → Ok (body self x0 x1 x2 x3 x4 x5 x6 x7) Q) : ∀ N n x0 x1 x2 x3 x4 x5 x6 x7, n < N → I n x0 x1 x2 x3 x4 x5 x6 x7 → Ok (lp body bot N x0 x1 x2 x3 x4 x5 x6 x7) Q := by
  intro N
  induction N with
  | zero => intro n x0 x1 x2 x3 x4 x5 x6 x7 h; omega
  | succ N ih => intro n x0 x1 x2 x3 x4 x5 x6 x7 h hi; exact hs n x0 x1 x2 x3 x4 x5 x6 x7 _ hi (fun m y0 y1 y2 y3 y4 y5 y6 y7 hm hi' => ih m y0 y1 y2 y3 y4 y5 y6 y7 (by omega) hi')
theorem zl9 {a0 a1 a2 a3 a4 a5 a6 a7 a8 β : Type} {body : (a0 → a1 → a2 → a3 → a4 → a5 → a6 → a7 → a8 → Option β) → a0 → a1 → a2 → a3 → a4 → a5 → a6 → a7 → a8 → Option β} {bot : a0 → a1 → a2 → a3 → a4 → a5 → a6 → a7 → a8 → Option β} {Q : β → Prop} (I : Nat → a0 → a1 → a2 → a3 → a4 → a5 → a6 → a7 → a8 → Prop) (hs : ∀ n x0 x1 x2 x3 x4 x5 x6 x7 x8 (self : a0 → a1 → a2 → a3 → a4 → a5 → a6 → a7 → a8 → Option β), I n x0 x1 x2 x3 x4 x5 x6 x7 x8 → (∀ m y0 y1 y2 y3 y4 y5 y6 y7 y8, m < n → I m y0 y1 y2 y3 y4 y5 y6 y7 y8 → Ok (self y0 y1 y2 y3 y4 y5 y6 y7 y8) Q) → Ok (body self x0 x1 x2 x3 x4 x5 x6 x7 x8) Q) : ∀ N n x0 x1 x2 x3 x4 x5 x6 x7 x8, n < N → I n x0 x1 x2 x3 x4 x5 x6 x7 x8 → Ok (lp body bot N x0 x1 x2 x3 x4 x5 x6 x7 x8) Q := by
  intro N
  induction N with
  | zero => intro n x0 x1 x2 x3 x4 x5 x6 x7 x8 h; omega
  | succ N ih => intro n x0 x1 x2 x3 x4 x5 x6 x7 x8 h hi; exact hs n x0 x1 x2 x3 x4 x5 x6 x7 x8 _ hi (fun m y0 y1 y2 y3 y4 y5 y6 y7 y8 hm hi' => ih m y0 y1 y2 y3 y4 y5 y6 y7 y8 (by omega) hi')
theorem ok_o5e {a0 a1 a2 a3 a4 β : Type} {x : Option (a0 × a1 × a2 × a3 × a4)} {k : a0 → a1 → a2 → a3 → a4 → Option β} {x0 : a0} {x1 : a1} {x2 : a2} {x3 : a3} {x4 : a4} {Q : β → Prop} (e : x = some (x0, x1, x2, x3, x4)) (hk : Ok (k x0 x1 x2 x3 x4) Q) : Ok (o5 x k) Q := by rw [e]; exact hk
theorem ok_o6e {a0 a1 a2 a3 a4 a5 β : Type} {x : Option (a0 × a1 × a2 × a3 × a4 × a5)} {k : a0 → a1 → a2 → a3 → a4 → a5 → Option β} {x0 : a0} {x1 : a1} {x2 : a2} {x3 : a3} {x4 : a4} {x5 : a5} {Q : β → Prop} (e : x = some (x0, x1, x2, x3, x4, x5)) (hk : Ok (k x0 x1 x2 x3 x4 x5) Q) : Ok (o6 x k) Q := by rw [e]; exact hk
theorem ok_o8e {a0 a1 a2 a3 a4 a5 a6 a7 β : Type} {x : Option (a0 × a1 × a2 × a3 × a4 × a5 × a6 × a7)} {k : a0 → a1 → a2 → a3 → a4 → a5 → a6 → a7 → Option β} {x0 : a0} {x1 : a1} {x2 : a2} {x3 : a3} {x4 : a4} {x5 : a5} {x6 : a6} {x7 : a7} {Q : β → Prop} (e : x = some (x0, x1, x2, x3, x4, x5, x6, x7)) (hk : Ok (k x0 x1 x2 x3 x4 x5 x6 x7) Q) : Ok (o8 x k) Q := by rw [e]; exact hk
