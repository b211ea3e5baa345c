/-! ===== a want of a loaded state; who is reached with room ===== -/
section HYW
variable {X : pm_X} {k k2 : Nat} {w0 w w1 w2 w3 w4 w' : pm_W} {r r2 q0 q1 q2 : Option Value} {p p1 p2 p3 p4 p5 p6 i1 i2 i3 sl x y z z1 z2 : Int32} {i v j m u u2 P t s b Q B rr len o3 N K S W κ c : Nat} {n : Int32} {V V' D E G G1 G2 : Nat → Int32} {s0 s1 s2 t1 t2 : SN} {a : Nat → Int32}
/-- how many wants, a want's part -/
def Wof (a : Nat → Int32) (u : Nat) : Nat := (a (611 + 132 * u)).toInt.toNat
def wtP (a : Nat → Int32) (u κ c : Nat) : Int32 := a (712 + 132 * u + 4 * κ + c)
theorem VA_w (h : VAa a) (hu : u < (a 0).toInt.toNat) : (a (611 + 132 * u)).toInt = Wof a u ∧ Wof a u ≤ 7 ∧ ∀ κ, κ < Wof a u → 0 ≤ (wtP a u κ 0).toInt ∧ (wtP a u κ 0).toInt < Pof a u ∧ 0 ≤ (wtP a u κ 1).toInt ∧ (wtP a u κ 1).toInt < Pof a u ∧ (wtP a u κ 0).toInt ≠ (wtP a u κ 1).toInt ∧ 1 ≤ (wtP a u κ 2).toInt ∧ (wtP a u κ 2).toInt ≤ 99 ∧ 0 ≤ (wtP a u κ 3).toInt ∧ (wtP a u κ 3).toInt ≤ 99 := by
  obtain ⟨g, hg, ⟨c1, c2⟩, ⟨d1, d2⟩, _, _, _, _, hw⟩ := h.1 u hu
  have d1 : 0 ≤ (a (610 + 132 * u + 1)).toInt := d1
  have d2 : (a (610 + 132 * u + 1)).toInt ≤ 7 := d2
  rw [show 610 + 132 * u + 1 = 611 + 132 * u by omega] at d1 d2
  have hw : ∀ k, k < (a (610 + 132 * u + 1)).toInt.toNat → 0 ≤ (a (610 + 132 * u + (102 + 4 * k))).toInt ∧ (a (610 + 132 * u + (102 + 4 * k))).toInt ≤ g ∧ 0 ≤ (a (610 + 132 * u + (103 + 4 * k))).toInt ∧ (a (610 + 132 * u + (103 + 4 * k))).toInt ≤ g ∧ (a (610 + 132 * u + (102 + 4 * k))).toInt ≠ (a (610 + 132 * u + (103 + 4 * k))).toInt ∧ 1 ≤ (a (610 + 132 * u + (104 + 4 * k))).toInt ∧ (a (610 + 132 * u + (104 + 4 * k))).toInt ≤ 99 ∧ 0 ≤ (a (610 + 132 * u + (105 + 4 * k))).toInt ∧ (a (610 + 132 * u + (105 + 4 * k))).toInt ≤ 99 := hw
  rw [show 610 + 132 * u + 1 = 611 + 132 * u by omega] at hw
  unfold Wof
  refine ⟨by omega, by omega, fun κ hκ => ?_⟩
  have q := hw κ hκ
  have e0 : wtP a u κ 0 = a (610 + 132 * u + (102 + 4 * κ)) := by unfold wtP; rw [show 712 + 132 * u + 4 * κ + 0 = 610 + 132 * u + (102 + 4 * κ) by omega]
  have e1 : wtP a u κ 1 = a (610 + 132 * u + (103 + 4 * κ)) := by unfold wtP; rw [show 712 + 132 * u + 4 * κ + 1 = 610 + 132 * u + (103 + 4 * κ) by omega]
  have e2 : wtP a u κ 2 = a (610 + 132 * u + (104 + 4 * κ)) := by unfold wtP; rw [show 712 + 132 * u + 4 * κ + 2 = 610 + 132 * u + (104 + 4 * κ) by omega]
  have e3 : wtP a u κ 3 = a (610 + 132 * u + (105 + 4 * κ)) := by unfold wtP; rw [show 712 + 132 * u + 4 * κ + 3 = 610 + 132 * u + (105 + 4 * κ) by omega]
  rw [e0, e1, e2, e3]
  unfold Pof
  omega
theorem F224w (hS : SK w) (hu : u ≤ 1) (hp : p1.toInt = (610 + 132 * u : Nat)) (h4 : p2.toInt = κ) (hκ : κ < 7) (hc : p3.toInt = c) (hc4 : c < 4) (h : PS X k 224 0 [.ref 147, .int p1, .int p2, .int p3] [] w r w') : r = some (.int (wtP (al w) u κ c)) ∧ w' = w := by
  have e102 : (102 : Int32).toInt = 102 := by decide +kernel
  obtain ⟨h1, h2⟩ := F224 hS h
  refine ⟨?_, h2⟩
  rw [h1, aG_n (m := 712 + 132 * u + 4 * κ + c) (by rw [zi_add (zi_add (zi_add hp e102 (by omega) (by omega)) (zi_mul four32 h4 (by omega) (by omega)) (by omega) (by omega)) hc (by omega) (by omega)]; omega)]
  rfl
end HYW
