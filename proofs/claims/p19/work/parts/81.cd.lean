/-! ===== the class: its cells 0 to 146 (printed by gc.py) ===== -/
def cc (f : Nat → Int32) (A : Nat → List Int32) (R : Nat → Value) : pm_W := [
  .inr (11, [.ref 1, .ref 21, .ref 22, .ref 23, .ref 33, .ref 42, .ref 55, .ref 68, .ref 83, .ref 85, .ref 86]), 
  .inr (8, [.ref 2, .ref 3, .int (f 18), .int (f 19), .ref 4, .int (f 21), .int (f 22), .int (f 23)]), 
  .inl (3, .inr (.inr [some 5, some 10])), 
  .inl (4, .inr (.inr [some 15, some 17, some 19])), 
  .inl (1, .inl (A 4)), 
  .inr (9, [.int (f 80), .int (f 81), .int (f 82), .ref 6, .ref 7, .ref 8, .ref 9]), 
  .inl (0, .inl (A 6)), 
  .inl (0, .inl (A 7)), 
  .inl (0, .inl (A 8)), 
  .inl (0, .inl (A 9)), 
  .inr (9, [.int (f 160), .int (f 161), .int (f 162), .ref 11, .ref 12, .ref 13, .ref 14]), 
  .inl (0, .inl (A 11)), 
  .inl (0, .inl (A 12)), 
  .inl (0, .inl (A 13)), 
  .inl (0, .inl (A 14)), 
  .inr (5, [.int (f 240), .ref 16]), 
  .inl (0, .inl (A 16)), 
  .inr (5, [.int (f 272), .ref 18]), 
  .inl (0, .inl (A 18)), 
  .inr (5, [.int (f 304), .ref 20]), 
  .inl (0, .inl (A 20)), 
  .inl (5, .inr (.inr [some 87, some 107, some 127])), 
  .inl (2, .inl (A 22)), 
  .inr (4, [.ref 24, .ref 29, .ref 31, R 4, .int (f 372), .int (f 373), .int (f 374), .int (f 375), .int (f 376), .int (f 377), .int (f 378), .int (f 379)]), 
  .inr (9, [.int (f 384), .int (f 385), .int (f 386), .ref 25, .ref 26, .ref 27, .ref 28]), 
  .inl (0, .inl (A 25)), 
  .inl (0, .inl (A 26)), 
  .inl (0, .inl (A 27)), 
  .inl (0, .inl (A 28)), 
  .inr (5, [.int (f 464), .ref 30]), 
  .inl (0, .inl (A 30)), 
  .inl (0, .inl (A 31)), 
  .inl (1, .inl (A 32)), 
  .inr (7, [R 0, .int (f 529), .int (f 530), .ref 39, .ref 40, .ref 41]), 
  .inr (9, [.int (f 544), .int (f 545), .int (f 546), .ref 35, .ref 36, .ref 37, .ref 38]), 
  .inl (0, .inl (A 35)), 
  .inl (0, .inl (A 36)), 
  .inl (0, .inl (A 37)), 
  .inl (0, .inl (A 38)), 
  .inl (0, .inl (A 39)), 
  .inl (0, .inl (A 40)), 
  .inl (0, .inl (A 41)), 
  .inr (1, [.ref 43, .ref 44, .ref 45, .ref 46]), 
  .inl (0, .inl (A 43)), 
  .inl (0, .inl (A 44)), 
  .inl (0, .inl (A 45)), 
  .inr (7, [R 1, .int (f 737), .int (f 738), .ref 52, .ref 53, .ref 54]), 
  .inr (9, [.int (f 752), .int (f 753), .int (f 754), .ref 48, .ref 49, .ref 50, .ref 51]), 
  .inl (0, .inl (A 48)), 
  .inl (0, .inl (A 49)), 
  .inl (0, .inl (A 50)), 
  .inl (0, .inl (A 51)), 
  .inl (0, .inl (A 52)), 
  .inl (0, .inl (A 53)), 
  .inl (0, .inl (A 54)), 
  .inr (6, [R 2, .int (f 881), .int (f 882), .ref 65, .ref 66, .ref 67, .int (f 886), .int (f 887), R 5]), 
  .inr (7, [.ref 57, .int (f 897), .int (f 898), .ref 62, .ref 63, .ref 64]), 
  .inr (9, [.int (f 912), .int (f 913), .int (f 914), .ref 58, .ref 59, .ref 60, .ref 61]), 
  .inl (0, .inl (A 58)), 
  .inl (0, .inl (A 59)), 
  .inl (0, .inl (A 60)), 
  .inl (0, .inl (A 61)), 
  .inl (0, .inl (A 62)), 
  .inl (0, .inl (A 63)), 
  .inl (0, .inl (A 64)), 
  .inl (0, .inl (A 65)), 
  .inl (0, .inl (A 66)), 
  .inl (0, .inl (A 67)), 
  .inr (10, [R 3, .ref 74, .ref 75, .ref 76, .ref 77, .ref 78, .ref 79, .int (f 1095), .int (f 1096)]), 
  .inr (9, [.int (f 1104), .int (f 1105), .int (f 1106), .ref 70, .ref 71, .ref 72, .ref 73]), 
  .inl (0, .inl (A 70)), 
  .inl (0, .inl (A 71)), 
  .inl (0, .inl (A 72)), 
  .inl (0, .inl (A 73)), 
  .inl (0, .inl (A 74)), 
  .inl (0, .inl (A 75)), 
  .inl (0, .inl (A 76)), 
  .inl (0, .inl (A 77)), 
  .inl (2, .inl (A 78)), 
  .inr (0, [.ref 80, .ref 81, .ref 82]), 
  .inl (0, .inl (A 80)), 
  .inl (0, .inl (A 81)), 
  .inl (0, .inl (A 82)), 
  .inr (3, [.int (f 1328), .int (f 1329), .ref 84]), 
  .inl (0, .inl (A 84)), 
  .inr (2, [.int (f 1360), .int (f 1361), .int (f 1362)]), 
  .inl (0, .inl (A 86)), 
  .inr (8, [.ref 88, .ref 89, .int (f 1394), .int (f 1395), .ref 90, .int (f 1397), .int (f 1398), .int (f 1399)]), 
  .inl (3, .inr (.inr [some 91, some 96])), 
  .inl (4, .inr (.inr [some 101, some 103, some 105])), 
  .inl (1, .inl (A 90)), 
  .inr (9, [.int (f 1456), .int (f 1457), .int (f 1458), .ref 92, .ref 93, .ref 94, .ref 95]), 
  .inl (0, .inl (A 92)), 
  .inl (0, .inl (A 93)), 
  .inl (0, .inl (A 94)), 
  .inl (0, .inl (A 95)), 
  .inr (9, [.int (f 1536), .int (f 1537), .int (f 1538), .ref 97, .ref 98, .ref 99, .ref 100]), 
  .inl (0, .inl (A 97)), 
  .inl (0, .inl (A 98)), 
  .inl (0, .inl (A 99)), 
  .inl (0, .inl (A 100)), 
  .inr (5, [.int (f 1616), .ref 102]), 
  .inl (0, .inl (A 102)), 
  .inr (5, [.int (f 1648), .ref 104]), 
  .inl (0, .inl (A 104)), 
  .inr (5, [.int (f 1680), .ref 106]), 
  .inl (0, .inl (A 106)), 
  .inr (8, [.ref 108, .ref 109, .int (f 1714), .int (f 1715), .ref 110, .int (f 1717), .int (f 1718), .int (f 1719)]), 
  .inl (3, .inr (.inr [some 111, some 116])), 
  .inl (4, .inr (.inr [some 121, some 123, some 125])), 
  .inl (1, .inl (A 110)), 
  .inr (9, [.int (f 1776), .int (f 1777), .int (f 1778), .ref 112, .ref 113, .ref 114, .ref 115]), 
  .inl (0, .inl (A 112)), 
  .inl (0, .inl (A 113)), 
  .inl (0, .inl (A 114)), 
  .inl (0, .inl (A 115)), 
  .inr (9, [.int (f 1856), .int (f 1857), .int (f 1858), .ref 117, .ref 118, .ref 119, .ref 120]), 
  .inl (0, .inl (A 117)), 
  .inl (0, .inl (A 118)), 
  .inl (0, .inl (A 119)), 
  .inl (0, .inl (A 120)), 
  .inr (5, [.int (f 1936), .ref 122]), 
  .inl (0, .inl (A 122)), 
  .inr (5, [.int (f 1968), .ref 124]), 
  .inl (0, .inl (A 124)), 
  .inr (5, [.int (f 2000), .ref 126]), 
  .inl (0, .inl (A 126)), 
  .inr (8, [.ref 128, .ref 129, .int (f 2034), .int (f 2035), .ref 130, .int (f 2037), .int (f 2038), .int (f 2039)]), 
  .inl (3, .inr (.inr [some 131, some 136])), 
  .inl (4, .inr (.inr [some 141, some 143, some 145])), 
  .inl (1, .inl (A 130)), 
  .inr (9, [.int (f 2096), .int (f 2097), .int (f 2098), .ref 132, .ref 133, .ref 134, .ref 135]), 
  .inl (0, .inl (A 132)), 
  .inl (0, .inl (A 133)), 
  .inl (0, .inl (A 134)), 
  .inl (0, .inl (A 135)), 
  .inr (9, [.int (f 2176), .int (f 2177), .int (f 2178), .ref 137, .ref 138, .ref 139, .ref 140]), 
  .inl (0, .inl (A 137)), 
  .inl (0, .inl (A 138)), 
  .inl (0, .inl (A 139)), 
  .inl (0, .inl (A 140)), 
  .inr (5, [.int (f 2256), .ref 142]), 
  .inl (0, .inl (A 142)), 
  .inr (5, [.int (f 2288), .ref 144]), 
  .inl (0, .inl (A 144)), 
  .inr (5, [.int (f 2320), .ref 146]), 
  .inl (0, .inl (A 146))]
def cd (f : Nat → Int32) (A : Nat → List Int32) (R : Nat → Value) (wr : pm_W) : pm_W := cc f A R ++ wr
def upr (R : Nat → Value) (k : Nat) (x : Value) : Nat → Value := fun j => cond (Nat.beq j k) x (R j)
theorem upr_eq {R : Nat → Value} {k : Nat} {x : Value} : upr R k x k = x := by
  unfold upr
  rw [Nat.beq_refl]
  rfl
theorem upr_ne {R : Nat → Value} {k j : Nat} {x : Value} (h : j ≠ k) : upr R k x j = R j := by
  unfold upr
  cases hb : Nat.beq j k with
  | false => rfl
  | true => exact absurd (Nat.eq_of_beq_eq_true hb) h
theorem upr_fr {R R2 : Nat → Value} {k j : Nat} {x : Value} (e : R2 = upr R k x) (h : j ≠ k) : R2 j = R j := by
  rw [e]
  exact upr_ne h
theorem upr_at {R R2 : Nat → Value} {k : Nat} {x : Value} (e : R2 = upr R k x) : R2 k = x := by
  rw [e]
  exact upr_eq
section CD
variable {f : Nat → Int32} {A : Nat → List Int32} {R : Nat → Value} {wr : pm_W}
theorem cd_o0 : (cd f A R wr)[0]? = some (.inr (11, [.ref 1, .ref 21, .ref 22, .ref 23, .ref 33, .ref 42, .ref 55, .ref 68, .ref 83, .ref 85, .ref 86])) := rfl
theorem cd_o1 : (cd f A R wr)[1]? = some (.inr (8, [.ref 2, .ref 3, .int (f 18), .int (f 19), .ref 4, .int (f 21), .int (f 22), .int (f 23)])) := rfl
theorem cd_q2 : (cd f A R wr)[2]? = some (.inl (3, .inr (.inr [some 5, some 10]))) := rfl
theorem cd_q3 : (cd f A R wr)[3]? = some (.inl (4, .inr (.inr [some 15, some 17, some 19]))) := rfl
theorem cd_a4 : (cd f A R wr)[4]? = some (.inl (1, .inl (A 4))) := rfl
set_option maxRecDepth 100000 in
theorem cd_s4 {xs : List Int32} : (cd f A R wr).set 4 (.inl (1, .inl xs)) = cd f (upa A 4 xs) R wr := rfl
theorem cd_o5 : (cd f A R wr)[5]? = some (.inr (9, [.int (f 80), .int (f 81), .int (f 82), .ref 6, .ref 7, .ref 8, .ref 9])) := rfl
theorem cd_a6 : (cd f A R wr)[6]? = some (.inl (0, .inl (A 6))) := rfl
set_option maxRecDepth 100000 in
theorem cd_s6 {xs : List Int32} : (cd f A R wr).set 6 (.inl (0, .inl xs)) = cd f (upa A 6 xs) R wr := rfl
theorem cd_a7 : (cd f A R wr)[7]? = some (.inl (0, .inl (A 7))) := rfl
set_option maxRecDepth 100000 in
theorem cd_s7 {xs : List Int32} : (cd f A R wr).set 7 (.inl (0, .inl xs)) = cd f (upa A 7 xs) R wr := rfl
theorem cd_a8 : (cd f A R wr)[8]? = some (.inl (0, .inl (A 8))) := rfl
set_option maxRecDepth 100000 in
theorem cd_s8 {xs : List Int32} : (cd f A R wr).set 8 (.inl (0, .inl xs)) = cd f (upa A 8 xs) R wr := rfl
theorem cd_a9 : (cd f A R wr)[9]? = some (.inl (0, .inl (A 9))) := rfl
set_option maxRecDepth 100000 in
theorem cd_s9 {xs : List Int32} : (cd f A R wr).set 9 (.inl (0, .inl xs)) = cd f (upa A 9 xs) R wr := rfl
theorem cd_o10 : (cd f A R wr)[10]? = some (.inr (9, [.int (f 160), .int (f 161), .int (f 162), .ref 11, .ref 12, .ref 13, .ref 14])) := rfl
theorem cd_a11 : (cd f A R wr)[11]? = some (.inl (0, .inl (A 11))) := rfl
set_option maxRecDepth 100000 in
theorem cd_s11 {xs : List Int32} : (cd f A R wr).set 11 (.inl (0, .inl xs)) = cd f (upa A 11 xs) R wr := rfl
theorem cd_a12 : (cd f A R wr)[12]? = some (.inl (0, .inl (A 12))) := rfl
set_option maxRecDepth 100000 in
theorem cd_s12 {xs : List Int32} : (cd f A R wr).set 12 (.inl (0, .inl xs)) = cd f (upa A 12 xs) R wr := rfl
theorem cd_a13 : (cd f A R wr)[13]? = some (.inl (0, .inl (A 13))) := rfl
set_option maxRecDepth 100000 in
theorem cd_s13 {xs : List Int32} : (cd f A R wr).set 13 (.inl (0, .inl xs)) = cd f (upa A 13 xs) R wr := rfl
theorem cd_a14 : (cd f A R wr)[14]? = some (.inl (0, .inl (A 14))) := rfl
set_option maxRecDepth 100000 in
theorem cd_s14 {xs : List Int32} : (cd f A R wr).set 14 (.inl (0, .inl xs)) = cd f (upa A 14 xs) R wr := rfl
theorem cd_o15 : (cd f A R wr)[15]? = some (.inr (5, [.int (f 240), .ref 16])) := rfl
theorem cd_a16 : (cd f A R wr)[16]? = some (.inl (0, .inl (A 16))) := rfl
set_option maxRecDepth 100000 in
theorem cd_s16 {xs : List Int32} : (cd f A R wr).set 16 (.inl (0, .inl xs)) = cd f (upa A 16 xs) R wr := rfl
theorem cd_o17 : (cd f A R wr)[17]? = some (.inr (5, [.int (f 272), .ref 18])) := rfl
theorem cd_a18 : (cd f A R wr)[18]? = some (.inl (0, .inl (A 18))) := rfl
set_option maxRecDepth 100000 in
theorem cd_s18 {xs : List Int32} : (cd f A R wr).set 18 (.inl (0, .inl xs)) = cd f (upa A 18 xs) R wr := rfl
theorem cd_o19 : (cd f A R wr)[19]? = some (.inr (5, [.int (f 304), .ref 20])) := rfl
theorem cd_a20 : (cd f A R wr)[20]? = some (.inl (0, .inl (A 20))) := rfl
set_option maxRecDepth 100000 in
theorem cd_s20 {xs : List Int32} : (cd f A R wr).set 20 (.inl (0, .inl xs)) = cd f (upa A 20 xs) R wr := rfl
theorem cd_q21 : (cd f A R wr)[21]? = some (.inl (5, .inr (.inr [some 87, some 107, some 127]))) := rfl
theorem cd_a22 : (cd f A R wr)[22]? = some (.inl (2, .inl (A 22))) := rfl
set_option maxRecDepth 100000 in
theorem cd_s22 {xs : List Int32} : (cd f A R wr).set 22 (.inl (2, .inl xs)) = cd f (upa A 22 xs) R wr := rfl
theorem cd_o23 : (cd f A R wr)[23]? = some (.inr (4, [.ref 24, .ref 29, .ref 31, R 4, .int (f 372), .int (f 373), .int (f 374), .int (f 375), .int (f 376), .int (f 377), .int (f 378), .int (f 379)])) := rfl
theorem cd_o24 : (cd f A R wr)[24]? = some (.inr (9, [.int (f 384), .int (f 385), .int (f 386), .ref 25, .ref 26, .ref 27, .ref 28])) := rfl
theorem cd_a25 : (cd f A R wr)[25]? = some (.inl (0, .inl (A 25))) := rfl
set_option maxRecDepth 100000 in
theorem cd_s25 {xs : List Int32} : (cd f A R wr).set 25 (.inl (0, .inl xs)) = cd f (upa A 25 xs) R wr := rfl
theorem cd_a26 : (cd f A R wr)[26]? = some (.inl (0, .inl (A 26))) := rfl
set_option maxRecDepth 100000 in
theorem cd_s26 {xs : List Int32} : (cd f A R wr).set 26 (.inl (0, .inl xs)) = cd f (upa A 26 xs) R wr := rfl
theorem cd_a27 : (cd f A R wr)[27]? = some (.inl (0, .inl (A 27))) := rfl
set_option maxRecDepth 100000 in
theorem cd_s27 {xs : List Int32} : (cd f A R wr).set 27 (.inl (0, .inl xs)) = cd f (upa A 27 xs) R wr := rfl
theorem cd_a28 : (cd f A R wr)[28]? = some (.inl (0, .inl (A 28))) := rfl
set_option maxRecDepth 100000 in
theorem cd_s28 {xs : List Int32} : (cd f A R wr).set 28 (.inl (0, .inl xs)) = cd f (upa A 28 xs) R wr := rfl
theorem cd_o29 : (cd f A R wr)[29]? = some (.inr (5, [.int (f 464), .ref 30])) := rfl
theorem cd_a30 : (cd f A R wr)[30]? = some (.inl (0, .inl (A 30))) := rfl
set_option maxRecDepth 100000 in
theorem cd_s30 {xs : List Int32} : (cd f A R wr).set 30 (.inl (0, .inl xs)) = cd f (upa A 30 xs) R wr := rfl
theorem cd_a31 : (cd f A R wr)[31]? = some (.inl (0, .inl (A 31))) := rfl
set_option maxRecDepth 100000 in
theorem cd_s31 {xs : List Int32} : (cd f A R wr).set 31 (.inl (0, .inl xs)) = cd f (upa A 31 xs) R wr := rfl
theorem cd_a32 : (cd f A R wr)[32]? = some (.inl (1, .inl (A 32))) := rfl
set_option maxRecDepth 100000 in
theorem cd_s32 {xs : List Int32} : (cd f A R wr).set 32 (.inl (1, .inl xs)) = cd f (upa A 32 xs) R wr := rfl
theorem cd_o33 : (cd f A R wr)[33]? = some (.inr (7, [R 0, .int (f 529), .int (f 530), .ref 39, .ref 40, .ref 41])) := rfl
theorem cd_o34 : (cd f A R wr)[34]? = some (.inr (9, [.int (f 544), .int (f 545), .int (f 546), .ref 35, .ref 36, .ref 37, .ref 38])) := rfl
theorem cd_a35 : (cd f A R wr)[35]? = some (.inl (0, .inl (A 35))) := rfl
set_option maxRecDepth 100000 in
theorem cd_s35 {xs : List Int32} : (cd f A R wr).set 35 (.inl (0, .inl xs)) = cd f (upa A 35 xs) R wr := rfl
theorem cd_a36 : (cd f A R wr)[36]? = some (.inl (0, .inl (A 36))) := rfl
set_option maxRecDepth 100000 in
theorem cd_s36 {xs : List Int32} : (cd f A R wr).set 36 (.inl (0, .inl xs)) = cd f (upa A 36 xs) R wr := rfl
theorem cd_a37 : (cd f A R wr)[37]? = some (.inl (0, .inl (A 37))) := rfl
set_option maxRecDepth 100000 in
theorem cd_s37 {xs : List Int32} : (cd f A R wr).set 37 (.inl (0, .inl xs)) = cd f (upa A 37 xs) R wr := rfl
theorem cd_a38 : (cd f A R wr)[38]? = some (.inl (0, .inl (A 38))) := rfl
set_option maxRecDepth 100000 in
theorem cd_s38 {xs : List Int32} : (cd f A R wr).set 38 (.inl (0, .inl xs)) = cd f (upa A 38 xs) R wr := rfl
theorem cd_a39 : (cd f A R wr)[39]? = some (.inl (0, .inl (A 39))) := rfl
set_option maxRecDepth 100000 in
theorem cd_s39 {xs : List Int32} : (cd f A R wr).set 39 (.inl (0, .inl xs)) = cd f (upa A 39 xs) R wr := rfl
theorem cd_a40 : (cd f A R wr)[40]? = some (.inl (0, .inl (A 40))) := rfl
set_option maxRecDepth 100000 in
theorem cd_s40 {xs : List Int32} : (cd f A R wr).set 40 (.inl (0, .inl xs)) = cd f (upa A 40 xs) R wr := rfl
theorem cd_a41 : (cd f A R wr)[41]? = some (.inl (0, .inl (A 41))) := rfl
set_option maxRecDepth 100000 in
theorem cd_s41 {xs : List Int32} : (cd f A R wr).set 41 (.inl (0, .inl xs)) = cd f (upa A 41 xs) R wr := rfl
theorem cd_o42 : (cd f A R wr)[42]? = some (.inr (1, [.ref 43, .ref 44, .ref 45, .ref 46])) := rfl
theorem cd_a43 : (cd f A R wr)[43]? = some (.inl (0, .inl (A 43))) := rfl
set_option maxRecDepth 100000 in
theorem cd_s43 {xs : List Int32} : (cd f A R wr).set 43 (.inl (0, .inl xs)) = cd f (upa A 43 xs) R wr := rfl
theorem cd_a44 : (cd f A R wr)[44]? = some (.inl (0, .inl (A 44))) := rfl
set_option maxRecDepth 100000 in
theorem cd_s44 {xs : List Int32} : (cd f A R wr).set 44 (.inl (0, .inl xs)) = cd f (upa A 44 xs) R wr := rfl
theorem cd_a45 : (cd f A R wr)[45]? = some (.inl (0, .inl (A 45))) := rfl
set_option maxRecDepth 100000 in
theorem cd_s45 {xs : List Int32} : (cd f A R wr).set 45 (.inl (0, .inl xs)) = cd f (upa A 45 xs) R wr := rfl
theorem cd_o46 : (cd f A R wr)[46]? = some (.inr (7, [R 1, .int (f 737), .int (f 738), .ref 52, .ref 53, .ref 54])) := rfl
theorem cd_o47 : (cd f A R wr)[47]? = some (.inr (9, [.int (f 752), .int (f 753), .int (f 754), .ref 48, .ref 49, .ref 50, .ref 51])) := rfl
theorem cd_a48 : (cd f A R wr)[48]? = some (.inl (0, .inl (A 48))) := rfl
set_option maxRecDepth 100000 in
theorem cd_s48 {xs : List Int32} : (cd f A R wr).set 48 (.inl (0, .inl xs)) = cd f (upa A 48 xs) R wr := rfl
theorem cd_a49 : (cd f A R wr)[49]? = some (.inl (0, .inl (A 49))) := rfl
set_option maxRecDepth 100000 in
theorem cd_s49 {xs : List Int32} : (cd f A R wr).set 49 (.inl (0, .inl xs)) = cd f (upa A 49 xs) R wr := rfl
theorem cd_a50 : (cd f A R wr)[50]? = some (.inl (0, .inl (A 50))) := rfl
set_option maxRecDepth 100000 in
theorem cd_s50 {xs : List Int32} : (cd f A R wr).set 50 (.inl (0, .inl xs)) = cd f (upa A 50 xs) R wr := rfl
theorem cd_a51 : (cd f A R wr)[51]? = some (.inl (0, .inl (A 51))) := rfl
set_option maxRecDepth 100000 in
theorem cd_s51 {xs : List Int32} : (cd f A R wr).set 51 (.inl (0, .inl xs)) = cd f (upa A 51 xs) R wr := rfl
theorem cd_a52 : (cd f A R wr)[52]? = some (.inl (0, .inl (A 52))) := rfl
set_option maxRecDepth 100000 in
theorem cd_s52 {xs : List Int32} : (cd f A R wr).set 52 (.inl (0, .inl xs)) = cd f (upa A 52 xs) R wr := rfl
theorem cd_a53 : (cd f A R wr)[53]? = some (.inl (0, .inl (A 53))) := rfl
set_option maxRecDepth 100000 in
theorem cd_s53 {xs : List Int32} : (cd f A R wr).set 53 (.inl (0, .inl xs)) = cd f (upa A 53 xs) R wr := rfl
theorem cd_a54 : (cd f A R wr)[54]? = some (.inl (0, .inl (A 54))) := rfl
set_option maxRecDepth 100000 in
theorem cd_s54 {xs : List Int32} : (cd f A R wr).set 54 (.inl (0, .inl xs)) = cd f (upa A 54 xs) R wr := rfl
theorem cd_o55 : (cd f A R wr)[55]? = some (.inr (6, [R 2, .int (f 881), .int (f 882), .ref 65, .ref 66, .ref 67, .int (f 886), .int (f 887), R 5])) := rfl
theorem cd_o56 : (cd f A R wr)[56]? = some (.inr (7, [.ref 57, .int (f 897), .int (f 898), .ref 62, .ref 63, .ref 64])) := rfl
theorem cd_o57 : (cd f A R wr)[57]? = some (.inr (9, [.int (f 912), .int (f 913), .int (f 914), .ref 58, .ref 59, .ref 60, .ref 61])) := rfl
theorem cd_a58 : (cd f A R wr)[58]? = some (.inl (0, .inl (A 58))) := rfl
set_option maxRecDepth 100000 in
theorem cd_s58 {xs : List Int32} : (cd f A R wr).set 58 (.inl (0, .inl xs)) = cd f (upa A 58 xs) R wr := rfl
theorem cd_a59 : (cd f A R wr)[59]? = some (.inl (0, .inl (A 59))) := rfl
set_option maxRecDepth 100000 in
theorem cd_s59 {xs : List Int32} : (cd f A R wr).set 59 (.inl (0, .inl xs)) = cd f (upa A 59 xs) R wr := rfl
theorem cd_a60 : (cd f A R wr)[60]? = some (.inl (0, .inl (A 60))) := rfl
set_option maxRecDepth 100000 in
theorem cd_s60 {xs : List Int32} : (cd f A R wr).set 60 (.inl (0, .inl xs)) = cd f (upa A 60 xs) R wr := rfl
theorem cd_a61 : (cd f A R wr)[61]? = some (.inl (0, .inl (A 61))) := rfl
set_option maxRecDepth 100000 in
theorem cd_s61 {xs : List Int32} : (cd f A R wr).set 61 (.inl (0, .inl xs)) = cd f (upa A 61 xs) R wr := rfl
theorem cd_a62 : (cd f A R wr)[62]? = some (.inl (0, .inl (A 62))) := rfl
set_option maxRecDepth 100000 in
theorem cd_s62 {xs : List Int32} : (cd f A R wr).set 62 (.inl (0, .inl xs)) = cd f (upa A 62 xs) R wr := rfl
theorem cd_a63 : (cd f A R wr)[63]? = some (.inl (0, .inl (A 63))) := rfl
set_option maxRecDepth 100000 in
theorem cd_s63 {xs : List Int32} : (cd f A R wr).set 63 (.inl (0, .inl xs)) = cd f (upa A 63 xs) R wr := rfl
theorem cd_a64 : (cd f A R wr)[64]? = some (.inl (0, .inl (A 64))) := rfl
set_option maxRecDepth 100000 in
theorem cd_s64 {xs : List Int32} : (cd f A R wr).set 64 (.inl (0, .inl xs)) = cd f (upa A 64 xs) R wr := rfl
theorem cd_a65 : (cd f A R wr)[65]? = some (.inl (0, .inl (A 65))) := rfl
set_option maxRecDepth 100000 in
theorem cd_s65 {xs : List Int32} : (cd f A R wr).set 65 (.inl (0, .inl xs)) = cd f (upa A 65 xs) R wr := rfl
theorem cd_a66 : (cd f A R wr)[66]? = some (.inl (0, .inl (A 66))) := rfl
set_option maxRecDepth 100000 in
theorem cd_s66 {xs : List Int32} : (cd f A R wr).set 66 (.inl (0, .inl xs)) = cd f (upa A 66 xs) R wr := rfl
theorem cd_a67 : (cd f A R wr)[67]? = some (.inl (0, .inl (A 67))) := rfl
set_option maxRecDepth 100000 in
theorem cd_s67 {xs : List Int32} : (cd f A R wr).set 67 (.inl (0, .inl xs)) = cd f (upa A 67 xs) R wr := rfl
theorem cd_o68 : (cd f A R wr)[68]? = some (.inr (10, [R 3, .ref 74, .ref 75, .ref 76, .ref 77, .ref 78, .ref 79, .int (f 1095), .int (f 1096)])) := rfl
theorem cd_o69 : (cd f A R wr)[69]? = some (.inr (9, [.int (f 1104), .int (f 1105), .int (f 1106), .ref 70, .ref 71, .ref 72, .ref 73])) := rfl
theorem cd_a70 : (cd f A R wr)[70]? = some (.inl (0, .inl (A 70))) := rfl
set_option maxRecDepth 100000 in
theorem cd_s70 {xs : List Int32} : (cd f A R wr).set 70 (.inl (0, .inl xs)) = cd f (upa A 70 xs) R wr := rfl
theorem cd_a71 : (cd f A R wr)[71]? = some (.inl (0, .inl (A 71))) := rfl
set_option maxRecDepth 100000 in
theorem cd_s71 {xs : List Int32} : (cd f A R wr).set 71 (.inl (0, .inl xs)) = cd f (upa A 71 xs) R wr := rfl
theorem cd_a72 : (cd f A R wr)[72]? = some (.inl (0, .inl (A 72))) := rfl
set_option maxRecDepth 100000 in
theorem cd_s72 {xs : List Int32} : (cd f A R wr).set 72 (.inl (0, .inl xs)) = cd f (upa A 72 xs) R wr := rfl
theorem cd_a73 : (cd f A R wr)[73]? = some (.inl (0, .inl (A 73))) := rfl
set_option maxRecDepth 100000 in
theorem cd_s73 {xs : List Int32} : (cd f A R wr).set 73 (.inl (0, .inl xs)) = cd f (upa A 73 xs) R wr := rfl
theorem cd_a74 : (cd f A R wr)[74]? = some (.inl (0, .inl (A 74))) := rfl
set_option maxRecDepth 100000 in
theorem cd_s74 {xs : List Int32} : (cd f A R wr).set 74 (.inl (0, .inl xs)) = cd f (upa A 74 xs) R wr := rfl
theorem cd_a75 : (cd f A R wr)[75]? = some (.inl (0, .inl (A 75))) := rfl
set_option maxRecDepth 100000 in
theorem cd_s75 {xs : List Int32} : (cd f A R wr).set 75 (.inl (0, .inl xs)) = cd f (upa A 75 xs) R wr := rfl
theorem cd_a76 : (cd f A R wr)[76]? = some (.inl (0, .inl (A 76))) := rfl
set_option maxRecDepth 100000 in
theorem cd_s76 {xs : List Int32} : (cd f A R wr).set 76 (.inl (0, .inl xs)) = cd f (upa A 76 xs) R wr := rfl
theorem cd_a77 : (cd f A R wr)[77]? = some (.inl (0, .inl (A 77))) := rfl
set_option maxRecDepth 100000 in
theorem cd_s77 {xs : List Int32} : (cd f A R wr).set 77 (.inl (0, .inl xs)) = cd f (upa A 77 xs) R wr := rfl
theorem cd_a78 : (cd f A R wr)[78]? = some (.inl (2, .inl (A 78))) := rfl
set_option maxRecDepth 100000 in
theorem cd_s78 {xs : List Int32} : (cd f A R wr).set 78 (.inl (2, .inl xs)) = cd f (upa A 78 xs) R wr := rfl
theorem cd_o79 : (cd f A R wr)[79]? = some (.inr (0, [.ref 80, .ref 81, .ref 82])) := rfl
theorem cd_a80 : (cd f A R wr)[80]? = some (.inl (0, .inl (A 80))) := rfl
set_option maxRecDepth 100000 in
theorem cd_s80 {xs : List Int32} : (cd f A R wr).set 80 (.inl (0, .inl xs)) = cd f (upa A 80 xs) R wr := rfl
theorem cd_a81 : (cd f A R wr)[81]? = some (.inl (0, .inl (A 81))) := rfl
set_option maxRecDepth 100000 in
theorem cd_s81 {xs : List Int32} : (cd f A R wr).set 81 (.inl (0, .inl xs)) = cd f (upa A 81 xs) R wr := rfl
theorem cd_a82 : (cd f A R wr)[82]? = some (.inl (0, .inl (A 82))) := rfl
set_option maxRecDepth 100000 in
theorem cd_s82 {xs : List Int32} : (cd f A R wr).set 82 (.inl (0, .inl xs)) = cd f (upa A 82 xs) R wr := rfl
theorem cd_o83 : (cd f A R wr)[83]? = some (.inr (3, [.int (f 1328), .int (f 1329), .ref 84])) := rfl
theorem cd_a84 : (cd f A R wr)[84]? = some (.inl (0, .inl (A 84))) := rfl
set_option maxRecDepth 100000 in
theorem cd_s84 {xs : List Int32} : (cd f A R wr).set 84 (.inl (0, .inl xs)) = cd f (upa A 84 xs) R wr := rfl
theorem cd_o85 : (cd f A R wr)[85]? = some (.inr (2, [.int (f 1360), .int (f 1361), .int (f 1362)])) := rfl
theorem cd_a86 : (cd f A R wr)[86]? = some (.inl (0, .inl (A 86))) := rfl
set_option maxRecDepth 100000 in
theorem cd_s86 {xs : List Int32} : (cd f A R wr).set 86 (.inl (0, .inl xs)) = cd f (upa A 86 xs) R wr := rfl
theorem cd_o87 : (cd f A R wr)[87]? = some (.inr (8, [.ref 88, .ref 89, .int (f 1394), .int (f 1395), .ref 90, .int (f 1397), .int (f 1398), .int (f 1399)])) := rfl
theorem cd_q88 : (cd f A R wr)[88]? = some (.inl (3, .inr (.inr [some 91, some 96]))) := rfl
theorem cd_q89 : (cd f A R wr)[89]? = some (.inl (4, .inr (.inr [some 101, some 103, some 105]))) := rfl
theorem cd_a90 : (cd f A R wr)[90]? = some (.inl (1, .inl (A 90))) := rfl
set_option maxRecDepth 100000 in
theorem cd_s90 {xs : List Int32} : (cd f A R wr).set 90 (.inl (1, .inl xs)) = cd f (upa A 90 xs) R wr := rfl
theorem cd_o91 : (cd f A R wr)[91]? = some (.inr (9, [.int (f 1456), .int (f 1457), .int (f 1458), .ref 92, .ref 93, .ref 94, .ref 95])) := rfl
theorem cd_a92 : (cd f A R wr)[92]? = some (.inl (0, .inl (A 92))) := rfl
set_option maxRecDepth 100000 in
theorem cd_s92 {xs : List Int32} : (cd f A R wr).set 92 (.inl (0, .inl xs)) = cd f (upa A 92 xs) R wr := rfl
theorem cd_a93 : (cd f A R wr)[93]? = some (.inl (0, .inl (A 93))) := rfl
set_option maxRecDepth 100000 in
theorem cd_s93 {xs : List Int32} : (cd f A R wr).set 93 (.inl (0, .inl xs)) = cd f (upa A 93 xs) R wr := rfl
theorem cd_a94 : (cd f A R wr)[94]? = some (.inl (0, .inl (A 94))) := rfl
set_option maxRecDepth 100000 in
theorem cd_s94 {xs : List Int32} : (cd f A R wr).set 94 (.inl (0, .inl xs)) = cd f (upa A 94 xs) R wr := rfl
theorem cd_a95 : (cd f A R wr)[95]? = some (.inl (0, .inl (A 95))) := rfl
set_option maxRecDepth 100000 in
theorem cd_s95 {xs : List Int32} : (cd f A R wr).set 95 (.inl (0, .inl xs)) = cd f (upa A 95 xs) R wr := rfl
theorem cd_o96 : (cd f A R wr)[96]? = some (.inr (9, [.int (f 1536), .int (f 1537), .int (f 1538), .ref 97, .ref 98, .ref 99, .ref 100])) := rfl
theorem cd_a97 : (cd f A R wr)[97]? = some (.inl (0, .inl (A 97))) := rfl
set_option maxRecDepth 100000 in
theorem cd_s97 {xs : List Int32} : (cd f A R wr).set 97 (.inl (0, .inl xs)) = cd f (upa A 97 xs) R wr := rfl
theorem cd_a98 : (cd f A R wr)[98]? = some (.inl (0, .inl (A 98))) := rfl
set_option maxRecDepth 100000 in
theorem cd_s98 {xs : List Int32} : (cd f A R wr).set 98 (.inl (0, .inl xs)) = cd f (upa A 98 xs) R wr := rfl
theorem cd_a99 : (cd f A R wr)[99]? = some (.inl (0, .inl (A 99))) := rfl
set_option maxRecDepth 100000 in
theorem cd_s99 {xs : List Int32} : (cd f A R wr).set 99 (.inl (0, .inl xs)) = cd f (upa A 99 xs) R wr := rfl
theorem cd_a100 : (cd f A R wr)[100]? = some (.inl (0, .inl (A 100))) := rfl
set_option maxRecDepth 100000 in
theorem cd_s100 {xs : List Int32} : (cd f A R wr).set 100 (.inl (0, .inl xs)) = cd f (upa A 100 xs) R wr := rfl
theorem cd_o101 : (cd f A R wr)[101]? = some (.inr (5, [.int (f 1616), .ref 102])) := rfl
theorem cd_a102 : (cd f A R wr)[102]? = some (.inl (0, .inl (A 102))) := rfl
set_option maxRecDepth 100000 in
theorem cd_s102 {xs : List Int32} : (cd f A R wr).set 102 (.inl (0, .inl xs)) = cd f (upa A 102 xs) R wr := rfl
theorem cd_o103 : (cd f A R wr)[103]? = some (.inr (5, [.int (f 1648), .ref 104])) := rfl
theorem cd_a104 : (cd f A R wr)[104]? = some (.inl (0, .inl (A 104))) := rfl
set_option maxRecDepth 100000 in
theorem cd_s104 {xs : List Int32} : (cd f A R wr).set 104 (.inl (0, .inl xs)) = cd f (upa A 104 xs) R wr := rfl
theorem cd_o105 : (cd f A R wr)[105]? = some (.inr (5, [.int (f 1680), .ref 106])) := rfl
theorem cd_a106 : (cd f A R wr)[106]? = some (.inl (0, .inl (A 106))) := rfl
set_option maxRecDepth 100000 in
theorem cd_s106 {xs : List Int32} : (cd f A R wr).set 106 (.inl (0, .inl xs)) = cd f (upa A 106 xs) R wr := rfl
theorem cd_o107 : (cd f A R wr)[107]? = some (.inr (8, [.ref 108, .ref 109, .int (f 1714), .int (f 1715), .ref 110, .int (f 1717), .int (f 1718), .int (f 1719)])) := rfl
theorem cd_q108 : (cd f A R wr)[108]? = some (.inl (3, .inr (.inr [some 111, some 116]))) := rfl
theorem cd_q109 : (cd f A R wr)[109]? = some (.inl (4, .inr (.inr [some 121, some 123, some 125]))) := rfl
theorem cd_a110 : (cd f A R wr)[110]? = some (.inl (1, .inl (A 110))) := rfl
set_option maxRecDepth 100000 in
theorem cd_s110 {xs : List Int32} : (cd f A R wr).set 110 (.inl (1, .inl xs)) = cd f (upa A 110 xs) R wr := rfl
theorem cd_o111 : (cd f A R wr)[111]? = some (.inr (9, [.int (f 1776), .int (f 1777), .int (f 1778), .ref 112, .ref 113, .ref 114, .ref 115])) := rfl
theorem cd_a112 : (cd f A R wr)[112]? = some (.inl (0, .inl (A 112))) := rfl
set_option maxRecDepth 100000 in
theorem cd_s112 {xs : List Int32} : (cd f A R wr).set 112 (.inl (0, .inl xs)) = cd f (upa A 112 xs) R wr := rfl
theorem cd_a113 : (cd f A R wr)[113]? = some (.inl (0, .inl (A 113))) := rfl
set_option maxRecDepth 100000 in
theorem cd_s113 {xs : List Int32} : (cd f A R wr).set 113 (.inl (0, .inl xs)) = cd f (upa A 113 xs) R wr := rfl
theorem cd_a114 : (cd f A R wr)[114]? = some (.inl (0, .inl (A 114))) := rfl
set_option maxRecDepth 100000 in
theorem cd_s114 {xs : List Int32} : (cd f A R wr).set 114 (.inl (0, .inl xs)) = cd f (upa A 114 xs) R wr := rfl
theorem cd_a115 : (cd f A R wr)[115]? = some (.inl (0, .inl (A 115))) := rfl
set_option maxRecDepth 100000 in
theorem cd_s115 {xs : List Int32} : (cd f A R wr).set 115 (.inl (0, .inl xs)) = cd f (upa A 115 xs) R wr := rfl
theorem cd_o116 : (cd f A R wr)[116]? = some (.inr (9, [.int (f 1856), .int (f 1857), .int (f 1858), .ref 117, .ref 118, .ref 119, .ref 120])) := rfl
theorem cd_a117 : (cd f A R wr)[117]? = some (.inl (0, .inl (A 117))) := rfl
set_option maxRecDepth 100000 in
theorem cd_s117 {xs : List Int32} : (cd f A R wr).set 117 (.inl (0, .inl xs)) = cd f (upa A 117 xs) R wr := rfl
theorem cd_a118 : (cd f A R wr)[118]? = some (.inl (0, .inl (A 118))) := rfl
set_option maxRecDepth 100000 in
theorem cd_s118 {xs : List Int32} : (cd f A R wr).set 118 (.inl (0, .inl xs)) = cd f (upa A 118 xs) R wr := rfl
theorem cd_a119 : (cd f A R wr)[119]? = some (.inl (0, .inl (A 119))) := rfl
set_option maxRecDepth 100000 in
theorem cd_s119 {xs : List Int32} : (cd f A R wr).set 119 (.inl (0, .inl xs)) = cd f (upa A 119 xs) R wr := rfl
theorem cd_a120 : (cd f A R wr)[120]? = some (.inl (0, .inl (A 120))) := rfl
set_option maxRecDepth 100000 in
theorem cd_s120 {xs : List Int32} : (cd f A R wr).set 120 (.inl (0, .inl xs)) = cd f (upa A 120 xs) R wr := rfl
theorem cd_o121 : (cd f A R wr)[121]? = some (.inr (5, [.int (f 1936), .ref 122])) := rfl
theorem cd_a122 : (cd f A R wr)[122]? = some (.inl (0, .inl (A 122))) := rfl
set_option maxRecDepth 100000 in
theorem cd_s122 {xs : List Int32} : (cd f A R wr).set 122 (.inl (0, .inl xs)) = cd f (upa A 122 xs) R wr := rfl
theorem cd_o123 : (cd f A R wr)[123]? = some (.inr (5, [.int (f 1968), .ref 124])) := rfl
theorem cd_a124 : (cd f A R wr)[124]? = some (.inl (0, .inl (A 124))) := rfl
set_option maxRecDepth 100000 in
theorem cd_s124 {xs : List Int32} : (cd f A R wr).set 124 (.inl (0, .inl xs)) = cd f (upa A 124 xs) R wr := rfl
theorem cd_o125 : (cd f A R wr)[125]? = some (.inr (5, [.int (f 2000), .ref 126])) := rfl
theorem cd_a126 : (cd f A R wr)[126]? = some (.inl (0, .inl (A 126))) := rfl
set_option maxRecDepth 100000 in
theorem cd_s126 {xs : List Int32} : (cd f A R wr).set 126 (.inl (0, .inl xs)) = cd f (upa A 126 xs) R wr := rfl
theorem cd_o127 : (cd f A R wr)[127]? = some (.inr (8, [.ref 128, .ref 129, .int (f 2034), .int (f 2035), .ref 130, .int (f 2037), .int (f 2038), .int (f 2039)])) := rfl
theorem cd_q128 : (cd f A R wr)[128]? = some (.inl (3, .inr (.inr [some 131, some 136]))) := rfl
theorem cd_q129 : (cd f A R wr)[129]? = some (.inl (4, .inr (.inr [some 141, some 143, some 145]))) := rfl
theorem cd_a130 : (cd f A R wr)[130]? = some (.inl (1, .inl (A 130))) := rfl
set_option maxRecDepth 100000 in
theorem cd_s130 {xs : List Int32} : (cd f A R wr).set 130 (.inl (1, .inl xs)) = cd f (upa A 130 xs) R wr := rfl
theorem cd_o131 : (cd f A R wr)[131]? = some (.inr (9, [.int (f 2096), .int (f 2097), .int (f 2098), .ref 132, .ref 133, .ref 134, .ref 135])) := rfl
theorem cd_a132 : (cd f A R wr)[132]? = some (.inl (0, .inl (A 132))) := rfl
set_option maxRecDepth 100000 in
theorem cd_s132 {xs : List Int32} : (cd f A R wr).set 132 (.inl (0, .inl xs)) = cd f (upa A 132 xs) R wr := rfl
theorem cd_a133 : (cd f A R wr)[133]? = some (.inl (0, .inl (A 133))) := rfl
set_option maxRecDepth 100000 in
theorem cd_s133 {xs : List Int32} : (cd f A R wr).set 133 (.inl (0, .inl xs)) = cd f (upa A 133 xs) R wr := rfl
theorem cd_a134 : (cd f A R wr)[134]? = some (.inl (0, .inl (A 134))) := rfl
set_option maxRecDepth 100000 in
theorem cd_s134 {xs : List Int32} : (cd f A R wr).set 134 (.inl (0, .inl xs)) = cd f (upa A 134 xs) R wr := rfl
theorem cd_a135 : (cd f A R wr)[135]? = some (.inl (0, .inl (A 135))) := rfl
set_option maxRecDepth 100000 in
theorem cd_s135 {xs : List Int32} : (cd f A R wr).set 135 (.inl (0, .inl xs)) = cd f (upa A 135 xs) R wr := rfl
theorem cd_o136 : (cd f A R wr)[136]? = some (.inr (9, [.int (f 2176), .int (f 2177), .int (f 2178), .ref 137, .ref 138, .ref 139, .ref 140])) := rfl
theorem cd_a137 : (cd f A R wr)[137]? = some (.inl (0, .inl (A 137))) := rfl
set_option maxRecDepth 100000 in
theorem cd_s137 {xs : List Int32} : (cd f A R wr).set 137 (.inl (0, .inl xs)) = cd f (upa A 137 xs) R wr := rfl
theorem cd_a138 : (cd f A R wr)[138]? = some (.inl (0, .inl (A 138))) := rfl
set_option maxRecDepth 100000 in
theorem cd_s138 {xs : List Int32} : (cd f A R wr).set 138 (.inl (0, .inl xs)) = cd f (upa A 138 xs) R wr := rfl
theorem cd_a139 : (cd f A R wr)[139]? = some (.inl (0, .inl (A 139))) := rfl
set_option maxRecDepth 100000 in
theorem cd_s139 {xs : List Int32} : (cd f A R wr).set 139 (.inl (0, .inl xs)) = cd f (upa A 139 xs) R wr := rfl
theorem cd_a140 : (cd f A R wr)[140]? = some (.inl (0, .inl (A 140))) := rfl
set_option maxRecDepth 100000 in
theorem cd_s140 {xs : List Int32} : (cd f A R wr).set 140 (.inl (0, .inl xs)) = cd f (upa A 140 xs) R wr := rfl
theorem cd_o141 : (cd f A R wr)[141]? = some (.inr (5, [.int (f 2256), .ref 142])) := rfl
theorem cd_a142 : (cd f A R wr)[142]? = some (.inl (0, .inl (A 142))) := rfl
set_option maxRecDepth 100000 in
theorem cd_s142 {xs : List Int32} : (cd f A R wr).set 142 (.inl (0, .inl xs)) = cd f (upa A 142 xs) R wr := rfl
theorem cd_o143 : (cd f A R wr)[143]? = some (.inr (5, [.int (f 2288), .ref 144])) := rfl
theorem cd_a144 : (cd f A R wr)[144]? = some (.inl (0, .inl (A 144))) := rfl
set_option maxRecDepth 100000 in
theorem cd_s144 {xs : List Int32} : (cd f A R wr).set 144 (.inl (0, .inl xs)) = cd f (upa A 144 xs) R wr := rfl
theorem cd_o145 : (cd f A R wr)[145]? = some (.inr (5, [.int (f 2320), .ref 146])) := rfl
theorem cd_a146 : (cd f A R wr)[146]? = some (.inl (0, .inl (A 146))) := rfl
set_option maxRecDepth 100000 in
theorem cd_s146 {xs : List Int32} : (cd f A R wr).set 146 (.inl (0, .inl xs)) = cd f (upa A 146 xs) R wr := rfl
set_option maxRecDepth 100000 in
theorem cd_f18 {x : Int32} : (cd f A R wr).set 1 (.inr (8, [.ref 2, .ref 3, .int (f 18), .int (f 19), .ref 4, .int (f 21), .int (f 22), .int (f 23)].set 2 (.int x))) = cd (upf f 18 x) A R wr := rfl
set_option maxRecDepth 100000 in
theorem cd_f19 {x : Int32} : (cd f A R wr).set 1 (.inr (8, [.ref 2, .ref 3, .int (f 18), .int (f 19), .ref 4, .int (f 21), .int (f 22), .int (f 23)].set 3 (.int x))) = cd (upf f 19 x) A R wr := rfl
set_option maxRecDepth 100000 in
theorem cd_f21 {x : Int32} : (cd f A R wr).set 1 (.inr (8, [.ref 2, .ref 3, .int (f 18), .int (f 19), .ref 4, .int (f 21), .int (f 22), .int (f 23)].set 5 (.int x))) = cd (upf f 21 x) A R wr := rfl
set_option maxRecDepth 100000 in
theorem cd_f22 {x : Int32} : (cd f A R wr).set 1 (.inr (8, [.ref 2, .ref 3, .int (f 18), .int (f 19), .ref 4, .int (f 21), .int (f 22), .int (f 23)].set 6 (.int x))) = cd (upf f 22 x) A R wr := rfl
set_option maxRecDepth 100000 in
theorem cd_f23 {x : Int32} : (cd f A R wr).set 1 (.inr (8, [.ref 2, .ref 3, .int (f 18), .int (f 19), .ref 4, .int (f 21), .int (f 22), .int (f 23)].set 7 (.int x))) = cd (upf f 23 x) A R wr := rfl
set_option maxRecDepth 100000 in
theorem cd_f80 {x : Int32} : (cd f A R wr).set 5 (.inr (9, [.int (f 80), .int (f 81), .int (f 82), .ref 6, .ref 7, .ref 8, .ref 9].set 0 (.int x))) = cd (upf f 80 x) A R wr := rfl
set_option maxRecDepth 100000 in
theorem cd_f81 {x : Int32} : (cd f A R wr).set 5 (.inr (9, [.int (f 80), .int (f 81), .int (f 82), .ref 6, .ref 7, .ref 8, .ref 9].set 1 (.int x))) = cd (upf f 81 x) A R wr := rfl
set_option maxRecDepth 100000 in
theorem cd_f82 {x : Int32} : (cd f A R wr).set 5 (.inr (9, [.int (f 80), .int (f 81), .int (f 82), .ref 6, .ref 7, .ref 8, .ref 9].set 2 (.int x))) = cd (upf f 82 x) A R wr := rfl
set_option maxRecDepth 100000 in
theorem cd_f160 {x : Int32} : (cd f A R wr).set 10 (.inr (9, [.int (f 160), .int (f 161), .int (f 162), .ref 11, .ref 12, .ref 13, .ref 14].set 0 (.int x))) = cd (upf f 160 x) A R wr := rfl
set_option maxRecDepth 100000 in
theorem cd_f161 {x : Int32} : (cd f A R wr).set 10 (.inr (9, [.int (f 160), .int (f 161), .int (f 162), .ref 11, .ref 12, .ref 13, .ref 14].set 1 (.int x))) = cd (upf f 161 x) A R wr := rfl
set_option maxRecDepth 100000 in
theorem cd_f162 {x : Int32} : (cd f A R wr).set 10 (.inr (9, [.int (f 160), .int (f 161), .int (f 162), .ref 11, .ref 12, .ref 13, .ref 14].set 2 (.int x))) = cd (upf f 162 x) A R wr := rfl
set_option maxRecDepth 100000 in
theorem cd_f240 {x : Int32} : (cd f A R wr).set 15 (.inr (5, [.int (f 240), .ref 16].set 0 (.int x))) = cd (upf f 240 x) A R wr := rfl
set_option maxRecDepth 100000 in
theorem cd_f272 {x : Int32} : (cd f A R wr).set 17 (.inr (5, [.int (f 272), .ref 18].set 0 (.int x))) = cd (upf f 272 x) A R wr := rfl
set_option maxRecDepth 100000 in
theorem cd_f304 {x : Int32} : (cd f A R wr).set 19 (.inr (5, [.int (f 304), .ref 20].set 0 (.int x))) = cd (upf f 304 x) A R wr := rfl
set_option maxRecDepth 100000 in
theorem cd_f372 {x : Int32} : (cd f A R wr).set 23 (.inr (4, [.ref 24, .ref 29, .ref 31, R 4, .int (f 372), .int (f 373), .int (f 374), .int (f 375), .int (f 376), .int (f 377), .int (f 378), .int (f 379)].set 4 (.int x))) = cd (upf f 372 x) A R wr := rfl
set_option maxRecDepth 100000 in
theorem cd_f373 {x : Int32} : (cd f A R wr).set 23 (.inr (4, [.ref 24, .ref 29, .ref 31, R 4, .int (f 372), .int (f 373), .int (f 374), .int (f 375), .int (f 376), .int (f 377), .int (f 378), .int (f 379)].set 5 (.int x))) = cd (upf f 373 x) A R wr := rfl
set_option maxRecDepth 100000 in
theorem cd_f374 {x : Int32} : (cd f A R wr).set 23 (.inr (4, [.ref 24, .ref 29, .ref 31, R 4, .int (f 372), .int (f 373), .int (f 374), .int (f 375), .int (f 376), .int (f 377), .int (f 378), .int (f 379)].set 6 (.int x))) = cd (upf f 374 x) A R wr := rfl
set_option maxRecDepth 100000 in
theorem cd_f375 {x : Int32} : (cd f A R wr).set 23 (.inr (4, [.ref 24, .ref 29, .ref 31, R 4, .int (f 372), .int (f 373), .int (f 374), .int (f 375), .int (f 376), .int (f 377), .int (f 378), .int (f 379)].set 7 (.int x))) = cd (upf f 375 x) A R wr := rfl
set_option maxRecDepth 100000 in
theorem cd_f376 {x : Int32} : (cd f A R wr).set 23 (.inr (4, [.ref 24, .ref 29, .ref 31, R 4, .int (f 372), .int (f 373), .int (f 374), .int (f 375), .int (f 376), .int (f 377), .int (f 378), .int (f 379)].set 8 (.int x))) = cd (upf f 376 x) A R wr := rfl
set_option maxRecDepth 100000 in
theorem cd_f377 {x : Int32} : (cd f A R wr).set 23 (.inr (4, [.ref 24, .ref 29, .ref 31, R 4, .int (f 372), .int (f 373), .int (f 374), .int (f 375), .int (f 376), .int (f 377), .int (f 378), .int (f 379)].set 9 (.int x))) = cd (upf f 377 x) A R wr := rfl
set_option maxRecDepth 100000 in
theorem cd_f378 {x : Int32} : (cd f A R wr).set 23 (.inr (4, [.ref 24, .ref 29, .ref 31, R 4, .int (f 372), .int (f 373), .int (f 374), .int (f 375), .int (f 376), .int (f 377), .int (f 378), .int (f 379)].set 10 (.int x))) = cd (upf f 378 x) A R wr := rfl
set_option maxRecDepth 100000 in
theorem cd_f379 {x : Int32} : (cd f A R wr).set 23 (.inr (4, [.ref 24, .ref 29, .ref 31, R 4, .int (f 372), .int (f 373), .int (f 374), .int (f 375), .int (f 376), .int (f 377), .int (f 378), .int (f 379)].set 11 (.int x))) = cd (upf f 379 x) A R wr := rfl
set_option maxRecDepth 100000 in
theorem cd_f384 {x : Int32} : (cd f A R wr).set 24 (.inr (9, [.int (f 384), .int (f 385), .int (f 386), .ref 25, .ref 26, .ref 27, .ref 28].set 0 (.int x))) = cd (upf f 384 x) A R wr := rfl
set_option maxRecDepth 100000 in
theorem cd_f385 {x : Int32} : (cd f A R wr).set 24 (.inr (9, [.int (f 384), .int (f 385), .int (f 386), .ref 25, .ref 26, .ref 27, .ref 28].set 1 (.int x))) = cd (upf f 385 x) A R wr := rfl
set_option maxRecDepth 100000 in
theorem cd_f386 {x : Int32} : (cd f A R wr).set 24 (.inr (9, [.int (f 384), .int (f 385), .int (f 386), .ref 25, .ref 26, .ref 27, .ref 28].set 2 (.int x))) = cd (upf f 386 x) A R wr := rfl
set_option maxRecDepth 100000 in
theorem cd_f464 {x : Int32} : (cd f A R wr).set 29 (.inr (5, [.int (f 464), .ref 30].set 0 (.int x))) = cd (upf f 464 x) A R wr := rfl
set_option maxRecDepth 100000 in
theorem cd_f529 {x : Int32} : (cd f A R wr).set 33 (.inr (7, [R 0, .int (f 529), .int (f 530), .ref 39, .ref 40, .ref 41].set 1 (.int x))) = cd (upf f 529 x) A R wr := rfl
set_option maxRecDepth 100000 in
theorem cd_f530 {x : Int32} : (cd f A R wr).set 33 (.inr (7, [R 0, .int (f 529), .int (f 530), .ref 39, .ref 40, .ref 41].set 2 (.int x))) = cd (upf f 530 x) A R wr := rfl
set_option maxRecDepth 100000 in
theorem cd_f544 {x : Int32} : (cd f A R wr).set 34 (.inr (9, [.int (f 544), .int (f 545), .int (f 546), .ref 35, .ref 36, .ref 37, .ref 38].set 0 (.int x))) = cd (upf f 544 x) A R wr := rfl
set_option maxRecDepth 100000 in
theorem cd_f545 {x : Int32} : (cd f A R wr).set 34 (.inr (9, [.int (f 544), .int (f 545), .int (f 546), .ref 35, .ref 36, .ref 37, .ref 38].set 1 (.int x))) = cd (upf f 545 x) A R wr := rfl
set_option maxRecDepth 100000 in
theorem cd_f546 {x : Int32} : (cd f A R wr).set 34 (.inr (9, [.int (f 544), .int (f 545), .int (f 546), .ref 35, .ref 36, .ref 37, .ref 38].set 2 (.int x))) = cd (upf f 546 x) A R wr := rfl
set_option maxRecDepth 100000 in
theorem cd_f737 {x : Int32} : (cd f A R wr).set 46 (.inr (7, [R 1, .int (f 737), .int (f 738), .ref 52, .ref 53, .ref 54].set 1 (.int x))) = cd (upf f 737 x) A R wr := rfl
set_option maxRecDepth 100000 in
theorem cd_f738 {x : Int32} : (cd f A R wr).set 46 (.inr (7, [R 1, .int (f 737), .int (f 738), .ref 52, .ref 53, .ref 54].set 2 (.int x))) = cd (upf f 738 x) A R wr := rfl
set_option maxRecDepth 100000 in
theorem cd_f752 {x : Int32} : (cd f A R wr).set 47 (.inr (9, [.int (f 752), .int (f 753), .int (f 754), .ref 48, .ref 49, .ref 50, .ref 51].set 0 (.int x))) = cd (upf f 752 x) A R wr := rfl
set_option maxRecDepth 100000 in
theorem cd_f753 {x : Int32} : (cd f A R wr).set 47 (.inr (9, [.int (f 752), .int (f 753), .int (f 754), .ref 48, .ref 49, .ref 50, .ref 51].set 1 (.int x))) = cd (upf f 753 x) A R wr := rfl
set_option maxRecDepth 100000 in
theorem cd_f754 {x : Int32} : (cd f A R wr).set 47 (.inr (9, [.int (f 752), .int (f 753), .int (f 754), .ref 48, .ref 49, .ref 50, .ref 51].set 2 (.int x))) = cd (upf f 754 x) A R wr := rfl
set_option maxRecDepth 100000 in
theorem cd_f881 {x : Int32} : (cd f A R wr).set 55 (.inr (6, [R 2, .int (f 881), .int (f 882), .ref 65, .ref 66, .ref 67, .int (f 886), .int (f 887), R 5].set 1 (.int x))) = cd (upf f 881 x) A R wr := rfl
set_option maxRecDepth 100000 in
theorem cd_f882 {x : Int32} : (cd f A R wr).set 55 (.inr (6, [R 2, .int (f 881), .int (f 882), .ref 65, .ref 66, .ref 67, .int (f 886), .int (f 887), R 5].set 2 (.int x))) = cd (upf f 882 x) A R wr := rfl
set_option maxRecDepth 100000 in
theorem cd_f886 {x : Int32} : (cd f A R wr).set 55 (.inr (6, [R 2, .int (f 881), .int (f 882), .ref 65, .ref 66, .ref 67, .int (f 886), .int (f 887), R 5].set 6 (.int x))) = cd (upf f 886 x) A R wr := rfl
set_option maxRecDepth 100000 in
theorem cd_f887 {x : Int32} : (cd f A R wr).set 55 (.inr (6, [R 2, .int (f 881), .int (f 882), .ref 65, .ref 66, .ref 67, .int (f 886), .int (f 887), R 5].set 7 (.int x))) = cd (upf f 887 x) A R wr := rfl
set_option maxRecDepth 100000 in
theorem cd_f897 {x : Int32} : (cd f A R wr).set 56 (.inr (7, [.ref 57, .int (f 897), .int (f 898), .ref 62, .ref 63, .ref 64].set 1 (.int x))) = cd (upf f 897 x) A R wr := rfl
set_option maxRecDepth 100000 in
theorem cd_f898 {x : Int32} : (cd f A R wr).set 56 (.inr (7, [.ref 57, .int (f 897), .int (f 898), .ref 62, .ref 63, .ref 64].set 2 (.int x))) = cd (upf f 898 x) A R wr := rfl
set_option maxRecDepth 100000 in
theorem cd_f912 {x : Int32} : (cd f A R wr).set 57 (.inr (9, [.int (f 912), .int (f 913), .int (f 914), .ref 58, .ref 59, .ref 60, .ref 61].set 0 (.int x))) = cd (upf f 912 x) A R wr := rfl
set_option maxRecDepth 100000 in
theorem cd_f913 {x : Int32} : (cd f A R wr).set 57 (.inr (9, [.int (f 912), .int (f 913), .int (f 914), .ref 58, .ref 59, .ref 60, .ref 61].set 1 (.int x))) = cd (upf f 913 x) A R wr := rfl
set_option maxRecDepth 100000 in
theorem cd_f914 {x : Int32} : (cd f A R wr).set 57 (.inr (9, [.int (f 912), .int (f 913), .int (f 914), .ref 58, .ref 59, .ref 60, .ref 61].set 2 (.int x))) = cd (upf f 914 x) A R wr := rfl
set_option maxRecDepth 100000 in
theorem cd_f1095 {x : Int32} : (cd f A R wr).set 68 (.inr (10, [R 3, .ref 74, .ref 75, .ref 76, .ref 77, .ref 78, .ref 79, .int (f 1095), .int (f 1096)].set 7 (.int x))) = cd (upf f 1095 x) A R wr := rfl
set_option maxRecDepth 100000 in
theorem cd_f1096 {x : Int32} : (cd f A R wr).set 68 (.inr (10, [R 3, .ref 74, .ref 75, .ref 76, .ref 77, .ref 78, .ref 79, .int (f 1095), .int (f 1096)].set 8 (.int x))) = cd (upf f 1096 x) A R wr := rfl
set_option maxRecDepth 100000 in
theorem cd_f1104 {x : Int32} : (cd f A R wr).set 69 (.inr (9, [.int (f 1104), .int (f 1105), .int (f 1106), .ref 70, .ref 71, .ref 72, .ref 73].set 0 (.int x))) = cd (upf f 1104 x) A R wr := rfl
set_option maxRecDepth 100000 in
theorem cd_f1105 {x : Int32} : (cd f A R wr).set 69 (.inr (9, [.int (f 1104), .int (f 1105), .int (f 1106), .ref 70, .ref 71, .ref 72, .ref 73].set 1 (.int x))) = cd (upf f 1105 x) A R wr := rfl
set_option maxRecDepth 100000 in
theorem cd_f1106 {x : Int32} : (cd f A R wr).set 69 (.inr (9, [.int (f 1104), .int (f 1105), .int (f 1106), .ref 70, .ref 71, .ref 72, .ref 73].set 2 (.int x))) = cd (upf f 1106 x) A R wr := rfl
set_option maxRecDepth 100000 in
theorem cd_f1328 {x : Int32} : (cd f A R wr).set 83 (.inr (3, [.int (f 1328), .int (f 1329), .ref 84].set 0 (.int x))) = cd (upf f 1328 x) A R wr := rfl
set_option maxRecDepth 100000 in
theorem cd_f1329 {x : Int32} : (cd f A R wr).set 83 (.inr (3, [.int (f 1328), .int (f 1329), .ref 84].set 1 (.int x))) = cd (upf f 1329 x) A R wr := rfl
set_option maxRecDepth 100000 in
theorem cd_f1360 {x : Int32} : (cd f A R wr).set 85 (.inr (2, [.int (f 1360), .int (f 1361), .int (f 1362)].set 0 (.int x))) = cd (upf f 1360 x) A R wr := rfl
set_option maxRecDepth 100000 in
theorem cd_f1361 {x : Int32} : (cd f A R wr).set 85 (.inr (2, [.int (f 1360), .int (f 1361), .int (f 1362)].set 1 (.int x))) = cd (upf f 1361 x) A R wr := rfl
set_option maxRecDepth 100000 in
theorem cd_f1362 {x : Int32} : (cd f A R wr).set 85 (.inr (2, [.int (f 1360), .int (f 1361), .int (f 1362)].set 2 (.int x))) = cd (upf f 1362 x) A R wr := rfl
set_option maxRecDepth 100000 in
theorem cd_f1394 {x : Int32} : (cd f A R wr).set 87 (.inr (8, [.ref 88, .ref 89, .int (f 1394), .int (f 1395), .ref 90, .int (f 1397), .int (f 1398), .int (f 1399)].set 2 (.int x))) = cd (upf f 1394 x) A R wr := rfl
set_option maxRecDepth 100000 in
theorem cd_f1395 {x : Int32} : (cd f A R wr).set 87 (.inr (8, [.ref 88, .ref 89, .int (f 1394), .int (f 1395), .ref 90, .int (f 1397), .int (f 1398), .int (f 1399)].set 3 (.int x))) = cd (upf f 1395 x) A R wr := rfl
set_option maxRecDepth 100000 in
theorem cd_f1397 {x : Int32} : (cd f A R wr).set 87 (.inr (8, [.ref 88, .ref 89, .int (f 1394), .int (f 1395), .ref 90, .int (f 1397), .int (f 1398), .int (f 1399)].set 5 (.int x))) = cd (upf f 1397 x) A R wr := rfl
set_option maxRecDepth 100000 in
theorem cd_f1398 {x : Int32} : (cd f A R wr).set 87 (.inr (8, [.ref 88, .ref 89, .int (f 1394), .int (f 1395), .ref 90, .int (f 1397), .int (f 1398), .int (f 1399)].set 6 (.int x))) = cd (upf f 1398 x) A R wr := rfl
set_option maxRecDepth 100000 in
theorem cd_f1399 {x : Int32} : (cd f A R wr).set 87 (.inr (8, [.ref 88, .ref 89, .int (f 1394), .int (f 1395), .ref 90, .int (f 1397), .int (f 1398), .int (f 1399)].set 7 (.int x))) = cd (upf f 1399 x) A R wr := rfl
set_option maxRecDepth 100000 in
theorem cd_f1456 {x : Int32} : (cd f A R wr).set 91 (.inr (9, [.int (f 1456), .int (f 1457), .int (f 1458), .ref 92, .ref 93, .ref 94, .ref 95].set 0 (.int x))) = cd (upf f 1456 x) A R wr := rfl
set_option maxRecDepth 100000 in
theorem cd_f1457 {x : Int32} : (cd f A R wr).set 91 (.inr (9, [.int (f 1456), .int (f 1457), .int (f 1458), .ref 92, .ref 93, .ref 94, .ref 95].set 1 (.int x))) = cd (upf f 1457 x) A R wr := rfl
set_option maxRecDepth 100000 in
theorem cd_f1458 {x : Int32} : (cd f A R wr).set 91 (.inr (9, [.int (f 1456), .int (f 1457), .int (f 1458), .ref 92, .ref 93, .ref 94, .ref 95].set 2 (.int x))) = cd (upf f 1458 x) A R wr := rfl
set_option maxRecDepth 100000 in
theorem cd_f1536 {x : Int32} : (cd f A R wr).set 96 (.inr (9, [.int (f 1536), .int (f 1537), .int (f 1538), .ref 97, .ref 98, .ref 99, .ref 100].set 0 (.int x))) = cd (upf f 1536 x) A R wr := rfl
set_option maxRecDepth 100000 in
theorem cd_f1537 {x : Int32} : (cd f A R wr).set 96 (.inr (9, [.int (f 1536), .int (f 1537), .int (f 1538), .ref 97, .ref 98, .ref 99, .ref 100].set 1 (.int x))) = cd (upf f 1537 x) A R wr := rfl
set_option maxRecDepth 100000 in
theorem cd_f1538 {x : Int32} : (cd f A R wr).set 96 (.inr (9, [.int (f 1536), .int (f 1537), .int (f 1538), .ref 97, .ref 98, .ref 99, .ref 100].set 2 (.int x))) = cd (upf f 1538 x) A R wr := rfl
set_option maxRecDepth 100000 in
theorem cd_f1616 {x : Int32} : (cd f A R wr).set 101 (.inr (5, [.int (f 1616), .ref 102].set 0 (.int x))) = cd (upf f 1616 x) A R wr := rfl
set_option maxRecDepth 100000 in
theorem cd_f1648 {x : Int32} : (cd f A R wr).set 103 (.inr (5, [.int (f 1648), .ref 104].set 0 (.int x))) = cd (upf f 1648 x) A R wr := rfl
set_option maxRecDepth 100000 in
theorem cd_f1680 {x : Int32} : (cd f A R wr).set 105 (.inr (5, [.int (f 1680), .ref 106].set 0 (.int x))) = cd (upf f 1680 x) A R wr := rfl
set_option maxRecDepth 100000 in
theorem cd_f1714 {x : Int32} : (cd f A R wr).set 107 (.inr (8, [.ref 108, .ref 109, .int (f 1714), .int (f 1715), .ref 110, .int (f 1717), .int (f 1718), .int (f 1719)].set 2 (.int x))) = cd (upf f 1714 x) A R wr := rfl
set_option maxRecDepth 100000 in
theorem cd_f1715 {x : Int32} : (cd f A R wr).set 107 (.inr (8, [.ref 108, .ref 109, .int (f 1714), .int (f 1715), .ref 110, .int (f 1717), .int (f 1718), .int (f 1719)].set 3 (.int x))) = cd (upf f 1715 x) A R wr := rfl
set_option maxRecDepth 100000 in
theorem cd_f1717 {x : Int32} : (cd f A R wr).set 107 (.inr (8, [.ref 108, .ref 109, .int (f 1714), .int (f 1715), .ref 110, .int (f 1717), .int (f 1718), .int (f 1719)].set 5 (.int x))) = cd (upf f 1717 x) A R wr := rfl
set_option maxRecDepth 100000 in
theorem cd_f1718 {x : Int32} : (cd f A R wr).set 107 (.inr (8, [.ref 108, .ref 109, .int (f 1714), .int (f 1715), .ref 110, .int (f 1717), .int (f 1718), .int (f 1719)].set 6 (.int x))) = cd (upf f 1718 x) A R wr := rfl
set_option maxRecDepth 100000 in
theorem cd_f1719 {x : Int32} : (cd f A R wr).set 107 (.inr (8, [.ref 108, .ref 109, .int (f 1714), .int (f 1715), .ref 110, .int (f 1717), .int (f 1718), .int (f 1719)].set 7 (.int x))) = cd (upf f 1719 x) A R wr := rfl
set_option maxRecDepth 100000 in
theorem cd_f1776 {x : Int32} : (cd f A R wr).set 111 (.inr (9, [.int (f 1776), .int (f 1777), .int (f 1778), .ref 112, .ref 113, .ref 114, .ref 115].set 0 (.int x))) = cd (upf f 1776 x) A R wr := rfl
set_option maxRecDepth 100000 in
theorem cd_f1777 {x : Int32} : (cd f A R wr).set 111 (.inr (9, [.int (f 1776), .int (f 1777), .int (f 1778), .ref 112, .ref 113, .ref 114, .ref 115].set 1 (.int x))) = cd (upf f 1777 x) A R wr := rfl
set_option maxRecDepth 100000 in
theorem cd_f1778 {x : Int32} : (cd f A R wr).set 111 (.inr (9, [.int (f 1776), .int (f 1777), .int (f 1778), .ref 112, .ref 113, .ref 114, .ref 115].set 2 (.int x))) = cd (upf f 1778 x) A R wr := rfl
set_option maxRecDepth 100000 in
theorem cd_f1856 {x : Int32} : (cd f A R wr).set 116 (.inr (9, [.int (f 1856), .int (f 1857), .int (f 1858), .ref 117, .ref 118, .ref 119, .ref 120].set 0 (.int x))) = cd (upf f 1856 x) A R wr := rfl
set_option maxRecDepth 100000 in
theorem cd_f1857 {x : Int32} : (cd f A R wr).set 116 (.inr (9, [.int (f 1856), .int (f 1857), .int (f 1858), .ref 117, .ref 118, .ref 119, .ref 120].set 1 (.int x))) = cd (upf f 1857 x) A R wr := rfl
set_option maxRecDepth 100000 in
theorem cd_f1858 {x : Int32} : (cd f A R wr).set 116 (.inr (9, [.int (f 1856), .int (f 1857), .int (f 1858), .ref 117, .ref 118, .ref 119, .ref 120].set 2 (.int x))) = cd (upf f 1858 x) A R wr := rfl
set_option maxRecDepth 100000 in
theorem cd_f1936 {x : Int32} : (cd f A R wr).set 121 (.inr (5, [.int (f 1936), .ref 122].set 0 (.int x))) = cd (upf f 1936 x) A R wr := rfl
set_option maxRecDepth 100000 in
theorem cd_f1968 {x : Int32} : (cd f A R wr).set 123 (.inr (5, [.int (f 1968), .ref 124].set 0 (.int x))) = cd (upf f 1968 x) A R wr := rfl
set_option maxRecDepth 100000 in
theorem cd_f2000 {x : Int32} : (cd f A R wr).set 125 (.inr (5, [.int (f 2000), .ref 126].set 0 (.int x))) = cd (upf f 2000 x) A R wr := rfl
set_option maxRecDepth 100000 in
theorem cd_f2034 {x : Int32} : (cd f A R wr).set 127 (.inr (8, [.ref 128, .ref 129, .int (f 2034), .int (f 2035), .ref 130, .int (f 2037), .int (f 2038), .int (f 2039)].set 2 (.int x))) = cd (upf f 2034 x) A R wr := rfl
set_option maxRecDepth 100000 in
theorem cd_f2035 {x : Int32} : (cd f A R wr).set 127 (.inr (8, [.ref 128, .ref 129, .int (f 2034), .int (f 2035), .ref 130, .int (f 2037), .int (f 2038), .int (f 2039)].set 3 (.int x))) = cd (upf f 2035 x) A R wr := rfl
set_option maxRecDepth 100000 in
theorem cd_f2037 {x : Int32} : (cd f A R wr).set 127 (.inr (8, [.ref 128, .ref 129, .int (f 2034), .int (f 2035), .ref 130, .int (f 2037), .int (f 2038), .int (f 2039)].set 5 (.int x))) = cd (upf f 2037 x) A R wr := rfl
set_option maxRecDepth 100000 in
theorem cd_f2038 {x : Int32} : (cd f A R wr).set 127 (.inr (8, [.ref 128, .ref 129, .int (f 2034), .int (f 2035), .ref 130, .int (f 2037), .int (f 2038), .int (f 2039)].set 6 (.int x))) = cd (upf f 2038 x) A R wr := rfl
set_option maxRecDepth 100000 in
theorem cd_f2039 {x : Int32} : (cd f A R wr).set 127 (.inr (8, [.ref 128, .ref 129, .int (f 2034), .int (f 2035), .ref 130, .int (f 2037), .int (f 2038), .int (f 2039)].set 7 (.int x))) = cd (upf f 2039 x) A R wr := rfl
set_option maxRecDepth 100000 in
theorem cd_f2096 {x : Int32} : (cd f A R wr).set 131 (.inr (9, [.int (f 2096), .int (f 2097), .int (f 2098), .ref 132, .ref 133, .ref 134, .ref 135].set 0 (.int x))) = cd (upf f 2096 x) A R wr := rfl
set_option maxRecDepth 100000 in
theorem cd_f2097 {x : Int32} : (cd f A R wr).set 131 (.inr (9, [.int (f 2096), .int (f 2097), .int (f 2098), .ref 132, .ref 133, .ref 134, .ref 135].set 1 (.int x))) = cd (upf f 2097 x) A R wr := rfl
set_option maxRecDepth 100000 in
theorem cd_f2098 {x : Int32} : (cd f A R wr).set 131 (.inr (9, [.int (f 2096), .int (f 2097), .int (f 2098), .ref 132, .ref 133, .ref 134, .ref 135].set 2 (.int x))) = cd (upf f 2098 x) A R wr := rfl
set_option maxRecDepth 100000 in
theorem cd_f2176 {x : Int32} : (cd f A R wr).set 136 (.inr (9, [.int (f 2176), .int (f 2177), .int (f 2178), .ref 137, .ref 138, .ref 139, .ref 140].set 0 (.int x))) = cd (upf f 2176 x) A R wr := rfl
set_option maxRecDepth 100000 in
theorem cd_f2177 {x : Int32} : (cd f A R wr).set 136 (.inr (9, [.int (f 2176), .int (f 2177), .int (f 2178), .ref 137, .ref 138, .ref 139, .ref 140].set 1 (.int x))) = cd (upf f 2177 x) A R wr := rfl
set_option maxRecDepth 100000 in
theorem cd_f2178 {x : Int32} : (cd f A R wr).set 136 (.inr (9, [.int (f 2176), .int (f 2177), .int (f 2178), .ref 137, .ref 138, .ref 139, .ref 140].set 2 (.int x))) = cd (upf f 2178 x) A R wr := rfl
set_option maxRecDepth 100000 in
theorem cd_f2256 {x : Int32} : (cd f A R wr).set 141 (.inr (5, [.int (f 2256), .ref 142].set 0 (.int x))) = cd (upf f 2256 x) A R wr := rfl
set_option maxRecDepth 100000 in
theorem cd_f2288 {x : Int32} : (cd f A R wr).set 143 (.inr (5, [.int (f 2288), .ref 144].set 0 (.int x))) = cd (upf f 2288 x) A R wr := rfl
set_option maxRecDepth 100000 in
theorem cd_f2320 {x : Int32} : (cd f A R wr).set 145 (.inr (5, [.int (f 2320), .ref 146].set 0 (.int x))) = cd (upf f 2320 x) A R wr := rfl
set_option maxRecDepth 100000 in
theorem cd_r0 {x : Value} : (cd f A R wr).set 33 (.inr (7, [R 0, .int (f 529), .int (f 530), .ref 39, .ref 40, .ref 41].set 0 x)) = cd f A (upr R 0 x) wr := rfl
set_option maxRecDepth 100000 in
theorem cd_r1 {x : Value} : (cd f A R wr).set 46 (.inr (7, [R 1, .int (f 737), .int (f 738), .ref 52, .ref 53, .ref 54].set 0 x)) = cd f A (upr R 1 x) wr := rfl
set_option maxRecDepth 100000 in
theorem cd_r2 {x : Value} : (cd f A R wr).set 55 (.inr (6, [R 2, .int (f 881), .int (f 882), .ref 65, .ref 66, .ref 67, .int (f 886), .int (f 887), R 5].set 0 x)) = cd f A (upr R 2 x) wr := rfl
set_option maxRecDepth 100000 in
theorem cd_r3 {x : Value} : (cd f A R wr).set 68 (.inr (10, [R 3, .ref 74, .ref 75, .ref 76, .ref 77, .ref 78, .ref 79, .int (f 1095), .int (f 1096)].set 0 x)) = cd f A (upr R 3 x) wr := rfl
set_option maxRecDepth 100000 in
theorem cd_r4 {x : Value} : (cd f A R wr).set 23 (.inr (4, [.ref 24, .ref 29, .ref 31, R 4, .int (f 372), .int (f 373), .int (f 374), .int (f 375), .int (f 376), .int (f 377), .int (f 378), .int (f 379)].set 3 x)) = cd f A (upr R 4 x) wr := rfl
set_option maxRecDepth 100000 in
theorem cd_r5 {x : Value} : (cd f A R wr).set 55 (.inr (6, [R 2, .int (f 881), .int (f 882), .ref 65, .ref 66, .ref 67, .int (f 886), .int (f 887), R 5].set 8 x)) = cd f A (upr R 5 x) wr := rfl
end CD
