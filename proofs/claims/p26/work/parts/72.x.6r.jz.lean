/-! ===== state: sums over debts, rooms, couples ===== -/
section JZA
variable {X : pm_X} {k k2 : Nat} {w0 w w1 w2 w3 w4 w5 wj w' : pm_W} {r r2 q0 q1 q2 : Option Value} {p1 p2 p3 p4 p5 p i1 i2 i3 i4 i5 i6 i7 i8 z z1 z2 x n : Int32} {a i v j m c u P t s b d q N K : Nat} {y : Int} {D D' V V' E : Nat → Int32} {G G' G1 G2 : Nat → Int32} {g g' : Nat → Nat → Int32} {f h : Nat → Int} {s1 t1 t2 : SN} {M : Int32}
def f32 (D : Nat → Int32) : Nat → Int32
  | 0 => 0
  | n + 1 => f32 D n + D n
/-! nobody owes himself -/
/-! netted -/
end JZA
