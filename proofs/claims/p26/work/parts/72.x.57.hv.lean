/-! ===== take ===== -/
section HVT
variable {X : pm_X} {k k2 : Nat} {w0 w w1 w2 w3 w4 w' : pm_W} {r r2 q1 q2 : Option Value} {p p1 p2 p3 p4 p5 p6 i1 i2 i3 sl x y z z1 z2 : Int32} {n i v j m u u2 P t s a b Q B rr len o3 N K S : Nat} {V V' D E G G1 G2 : Nat → Int32} {s0 s1 s2 t1 t2 : SN} {c d f g : Nat → Bool}
theorem zi_div (hx : x.toInt = a) (hy : y.toInt = b) : (x / y).toInt = (a / b : Nat) := by
  have h1 := x.toInt_lt
  rw [Int32.toInt_div, hx, hy, show Int.tdiv (a : Int) b = ((a / b : Nat) : Int) from rfl]
  have : a / b ≤ a := Nat.div_le_self a b
  generalize a / b = q at this ⊢
  exact Int.bmod_eq_of_le (by omega) (by omega)
theorem zi_rem (hx : x.toInt = a) (hy : y.toInt = b) : (x - x / y * y).toInt = (a % b : Nat) := by
  have h1 := x.toInt_lt
  have hd := zi_div hx hy
  have hm : a / b * b ≤ a := Nat.div_mul_le_self a b
  have e : ((a / b : Nat) : Int) * (b : Int) = ((a / b * b : Nat) : Int) := (Int.natCast_mul _ _).symm
  have q := Nat.div_add_mod a b
  rw [Nat.mul_comm] at q
  rw [Int32.toInt_sub, Int32.toInt_mul, hd, hx, hy, e]
  generalize a / b * b = c at hm q ⊢
  generalize a % b = d at q ⊢
  rw [Int.bmod_eq_of_le (n := ((c : Nat) : Int)) (by omega) (by omega), Int.bmod_eq_of_le (by omega) (by omega)]
  omega
theorem F89m (hS : SK w) (hx : MSK p1 B c) (hy : p2.toInt = b) (hb : b < B) (hB : B ≤ 32) (h : PS X k 89 0 [.int p1, .int p2] [] w r w') : r = some (.int (b2i (c b))) ∧ w' = w := by
  cases k with
  | zero => exact (PS_0 h).elim
  | succ k =>
    have h := U89_0 hS h
    by_cases q : ((p1 >>> (p2 &&& 31)) &&& 1) = 0
    · rw [if_pos q] at h
      rw [(MSK_f hx hy hb hB).mp q]
      exact h
    · rw [if_neg q] at h
      have e : c b = true := by
        cases hh : c b with
        | true => rfl
        | false => exact absurd ((MSK_f hx hy hb hB).mpr hh) q
      rw [e]
      exact h
end HVT
