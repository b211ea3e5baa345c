/-! ===== consider ===== -/
section JGA
variable {X : pm_X} {k k2 : Nat} {w0 w w1 w2 w3 w4 w5 wj w' : pm_W} {r r2 q0 q1 q2 : Option Value} {p1 p2 p3 p4 p5 i1 i2 i3 i4 i5 i6 i7 i8 z z1 z2 so x : Int32} {i v j m c m' c' u P t s a b Q I J K T p W N κ bm n : Nat} {l : Int64} {e g y : Int} {f fe rk : Nat → Int} {V : Nat → Nat → Prop} {R : Nat → Nat → Int}
def cstN (fe : Nat → Int) (a b m c t : Nat) : Int := suI (fun i => if 2 ≤ i then fe (elN a b m c i) else 0) t
def prI (f : Nat → Int) : Nat → Int
  | 0 => 1
  | n + 1 => prI f n * f n
def chN (rk : Nat → Int) (a b m c t : Nat) : Int := prI (fun i => 100 - rk (elN a b m c i)) t
def GR (so : Int32) (fe rk : Nat → Int) (a b m c : Nat) : Int := GSv so (cstN fe a b m c m) (chN rk a b m c m) m
/-- the best of those seen -/
def SBw (w : pm_W) (P : Nat) (so : Int32) (fe rk : Nat → Int) (a b : Nat) (V : Nat → Nat → Prop) : Prop := ((gI w 55 6).toInt = 0 ∧ ∀ m c, ¬ V m c) ∨ ∃ m c : Nat, BSt (GR so fe rk a b) V m c ∧ (2 ≤ m ∧ m ≤ 6) ∧ (gI w 55 6).toInt = m ∧ (∀ i, i < m → ((gA w 67).getD i 0).toInt = elN a b m c i ∧ elN a b m c i < P) ∧ (gI w 55 7).toInt = cstN fe a b m c m ∧ (gL w 55 8).toInt = chN rk a b m c m
end JGA
