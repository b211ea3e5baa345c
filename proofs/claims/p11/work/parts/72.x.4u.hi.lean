/-! ===== what is behind n acts of a row in a village: the class's load, one description ===== -/
section HIS
variable {X : pm_X} {k k2 : Nat} {w0 w w1 w2 w' : pm_W} {r r2 : Option Value} {p p1 p2 p3 p4 p5 i1 i2 i3 sl : Int32} {n i v j m u u2 P t s b Q x rr len : Nat} {a V G G1 G2 : Nat → Int32} {Es : Nat → Nat → Int32} {s0 s1 s2 : SN}
def s00 (G : Nat → Int32) : SN := (fun _ => 0, G, 0, 0)
def Pof (a : Nat → Int32) (u : Nat) : Nat := (a (610 + 132 * u)).toInt.toNat
def Vof (a : Nat → Int32) (u : Nat) : Nat → Int32 := fun k => a (610 + 132 * u + k)
def Eof (a : Nat → Int32) (rr : Nat) : Nat → Nat → Int32 := fun j t => a (874 + 272 * rr + 1 + 9 * j + t)
def RL3 (w : pm_W) : Prop := RL2 w ∧ VAa (al w)
theorem WS_00 : WS P 0 ((s00 G).1, (s00 G).2.1) := ⟨⟨fun _ => by show 0 ≤ (0 : Int32).toInt ∧ (0 : Int32).toInt ≤ 99; rw [z32]; omega, fun _ _ _ _ _ => rfl⟩, fun k hk => absurd hk (Nat.not_lt_zero k)⟩
theorem LSt_00 : LSt P (s00 G1) (s00 G2) := ⟨rfl, rfl, rfl, fun k hk => absurd hk (Nat.not_lt_zero k), WS_00 (G := G1), WS_00 (G := G2)⟩
theorem VA_v (h : VAa a) (hu : u < (a 0).toInt.toNat) : Pof a u ≤ 9 ∧ 2 ≤ Pof a u ∧ (a (610 + 132 * u)).toInt = Pof a u ∧ VW (Vof a u) ∧ (0 ≤ (a (612 + 132 * u)).toInt ∧ (a (612 + 132 * u)).toInt ≤ 9) := by
  obtain ⟨g, _, ⟨c1, c2⟩, _, ⟨c3, c4⟩, c5, _⟩ := h.1 u hu
  have c1 : 2 ≤ (a (610 + 132 * u)).toInt := c1
  have c2 : (a (610 + 132 * u)).toInt ≤ 9 := c2
  have c3 : 0 ≤ (a (610 + 132 * u + 2)).toInt := c3
  have c4 : (a (610 + 132 * u + 2)).toInt ≤ 9 := c4
  rw [show 610 + 132 * u + 2 = 612 + 132 * u by omega] at c3 c4
  unfold Pof
  exact ⟨by omega, by omega, by omega, c5, c3, c4⟩
theorem VA_e (h : VAa a) (hr : rr < (a 1).toInt.toNat) (hj : j < (a (874 + 272 * rr)).toInt.toNat) : VAc (Eof a rr j) := by
  refine VAc_cg (h.2 rr hr j hj) (fun t _ => ?_)
  show a _ = a _
  rw [show 874 + 272 * rr + (1 + 9 * j + t) = 874 + 272 * rr + 1 + 9 * j + t by omega]
end HIS
