/-! ===== lent, weak, much ===== -/
section IML
variable {X : pm_X} {k k2 : Nat} {w0 w w1 w2 w3 w4 w5 wj w' : pm_W} {r r2 q0 q1 q2 : Option Value} {p1 p2 p3 p4 p5 i1 i2 i3 i4 i5 i6 i7 i8 z z1 z2 x y f l : Int32} {i v j m u P t s b Q A B I J K n a T p W M N : Nat} {c c' R C : Nat → Nat → Int} {S : Nat → Bool} {e g : Int} {s0 s1 s2 t1 t2 : SN}
/-- the class looks at a loaded state -/
theorem LOOK3 (h3 : RL3 w) (f1 : FM [(33, 0), (33, 1), (33, 2)] [39, 40, 41] w w3) (hu : u < (al w 0).toInt.toNat) (a3 : CSt w3 33 (5 + 5 * u) (Pof (al w) u) s1.1 s1.2.1 s1.2.2.1 s1.2.2.2) (hd : ∀ q, 0 ≤ (s1.1 q).toInt ∧ (s1.1 q).toInt ≤ 99) (y : PS X k 159 0 [.ref 68, .ref 33, pm_dead, pm_dead] [] w3 r w5) : r = none ∧ FM [(68, 0), (68, 7)] [74, 77] w3 w5 ∧ gR w5 68 0 = 5 + 5 * u ∧ (gI w5 (gR w5 68 0) 0).toInt = Pof (al w) u ∧ (gI w5 68 7).toInt = ((2 ^ Wof (al w) u : Nat) : Int) ∧ (∀ s, s < 2 ^ Wof (al w) u → vaW w5 s = vlS (fun κ => wtP (al w) u κ 3) (Wof (al w) u) s) ∧ (∀ i j, i < Pof (al w) u → j < Pof (al w) u → rmW w5 i j = (rmI (Vof (al w) u) s1.1 i j).toInt) ∧ ∀ i j, i < Pof (al w) u → j < Pof (al w) u → 0 ≤ (rmI (Vof (al w) u) s1.1 i j).toInt ∧ (rmI (Vof (al w) u) s1.1 i j).toInt ≤ 99 := by
  have hS := h3.1.1
  have S3 : SK w3 := f1.2.2.2
  obtain ⟨v1, _, v3, v2, v4⟩ := VA_v h3.2 hu
  obtain ⟨x1, x2, x3⟩ := VA_w h3.2 hu
  obtain ⟨u1, g0, gw, _, _, _, _, g6⟩ := VT hS h3.1.2.1 hu
  obtain ⟨g1, g2, g3, g4⟩ := CVL h3 hu f1 a3
  rw [g3] at g1
  obtain ⟨_, _, _, v6⟩ := VR S3 u1
  obtain ⟨b1, b2, b3, b4, b5, b6⟩ := F159 (W := Wof (al w) u) (wv := fun κ => wtP (al w) u κ 3) S3 g3 (okV_n u1) (by omega) (by rw [v6]; omega) g1 v1 (by rw [FM_i f1 (by simp <;> omega), gw]; exact x1) x2 (fun κ hκ => by
    rw [show 5 + 5 * u + 4 = 9 + 5 * u by omega, FM_a f1 (by simp <;> omega), g6 _ (by omega)]
    show al w _ = wtP (al w) u κ 3
    unfold wtP
    rw [show 712 + 132 * u + (4 * κ + 3) = 712 + 132 * u + 4 * κ + 3 by omega]) (fun κ hκ => by
    have q := x3 κ hκ
    exact ⟨q.2.2.2.2.2.2.2.1, q.2.2.2.2.2.2.2.2⟩) y
  have rc : ∀ i j, i < Pof (al w) u → j < Pof (al w) u → rmI (vcl w3 (5 + 5 * u)) (dA w3 33) i j = rmI (Vof (al w) u) s1.1 i j := fun i j hi hj => by
    rw [show dA w3 33 = s1.1 from a3.2.2.1]
    exact rmI_cg (fun q hq => g4 q hq) (by omega) (by omega)
  refine ⟨b1, b2, b3, ?_, b4, b5, fun i j hi hj => by rw [b6 i j hi hj, rc i j hi hj], fun i j hi hj => rmI_hi v2 hd (by omega) (by omega)⟩
  rw [b3, FM_i b2 (by simp <;> omega)]
  exact g1
end IML
