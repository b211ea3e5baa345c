/-! ===== long fields; allParts, isBetter ===== -/
section JFA
variable {X : pm_X} {k k2 : Nat} {w0 w w1 w2 w3 w4 w5 wj w' : pm_W} {r r2 q0 q1 q2 : Option Value} {p1 p2 p3 p4 p5 i1 i2 i3 i4 i5 i6 i7 i8 z z1 z2 so : Int32} {i v j m u P t s b Q I J K a T p W N κ bm n : Nat} {l x y : Int64} {e g ch ch' cst cst' : Int} {f : Nat → Int}
/-! long sums -/
/-- the measure: cheap, fast or none -/
def GSv (so : Int32) (cst ch : Int) (m : Nat) : Int := if so = 1 then -cst else if so = 2 then ch * (100 : Int) ^ (6 - m) else 0
end JFA
