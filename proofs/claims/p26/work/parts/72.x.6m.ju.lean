/-! ===== rings through one: how many there are; the class counts them ===== -/
section JUA
variable {X : pm_X} {k k2 : Nat} {w0 w w1 w2 w3 w4 w5 wj w' : pm_W} {r r2 q0 q1 q2 : Option Value} {p1 p2 p3 p4 p5 i1 i2 i3 i4 i5 i6 i7 i8 z z1 z2 x : Int32} {i v j m c m' c' u P t s a d p q M n : Nat} {e g y : Int} {f h : Nat → Int} {R : Nat → Nat → Int}
theorem su_shift : ∀ n, suI f (n + 1) = f 0 + suI (fun j => f (j + 1)) n
  | 0 => by show 0 + f 0 = f 0 + 0; omega
  | n + 1 => by
    show suI f (n + 1) + f (n + 1) = f 0 + (suI (fun j => f (j + 1)) n + f (n + 1))
    rw [su_shift n]
    omega
end JUA
