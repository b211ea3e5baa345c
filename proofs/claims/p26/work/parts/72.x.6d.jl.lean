/-! ===== finds: the reference ===== -/
section JLA
variable {X : pm_X} {k k2 : Nat} {w0 w w1 w2 w3 w4 w5 wj w' : pm_W} {r r2 q0 q1 q2 : Option Value} {p1 p2 p3 p4 p5 i1 i2 i3 i4 i5 i6 i7 i8 i9 z z1 z2 so x : Int32} {i v j m c u P t s a b d p q fx Q I J K T W N κ bm n : Nat} {l l6 l10 : Int64} {e g y : Int} {fe rk : Nat → Int} {E : Nat → Nat} {u9 u10 u12 : Value} {V : Nat → Nat → Prop} {R : Nat → Nat → Int}
def SBr (w : pm_W) (P : Nat) (so : Int32) (fe rk : Nat → Int) (a b : Nat) (V : Nat → Nat → Prop) : Prop := ((gI w 147 23).toInt = 0 ∧ ∀ m c, ¬ V m c) ∨ ∃ m c : Nat, BSt (GR so fe rk a b) V m c ∧ (2 ≤ m ∧ m ≤ 6) ∧ (gI w 147 23).toInt = m ∧ ∀ i, i < m → ((gA w 159).getD i 0).toInt = elN a b m c i ∧ elN a b m c i < P
end JLA
