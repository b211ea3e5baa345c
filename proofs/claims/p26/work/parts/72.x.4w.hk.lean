/-! ===== states asked on both sides: lawful, over, room, owes ===== -/
section HKA
variable {X : pm_X} {k k2 : Nat} {w0 w w1 w2 w3 w4 w' : pm_W} {r r2 q1 q2 : Option Value} {p p1 p2 p3 p4 p5 i1 i2 i3 sl : Int32} {n i v j m u u2 P t s b Q x rr len : Nat} {a V G G1 G2 : Nat → Int32} {Es : Nat → Nat → Int32} {s0 s1 s2 : SN}
theorem FM_al {fs : List (Nat × Nat)} (h : FM fs [39, 40, 41] w w1) : al w1 = al w := by
  funext q
  unfold al
  rw [FM_a h (by simp)]
/-- the village loaded, in the class: its people, its slack, its words -/
theorem CVL (h3 : RL3 w) (hu : u < (al w 0).toInt.toNat) (f : FM [(33, 0), (33, 1), (33, 2)] [39, 40, 41] w w1) (hC : CSt w1 33 (5 + 5 * u) P s0.1 s0.2.1 s0.2.2.1 s0.2.2.2) : (gI w1 (gR w1 33 0) 0).toInt = P ∧ gI w1 (gR w1 33 0) 1 = al w (612 + 132 * u) ∧ gR w1 33 0 = 5 + 5 * u ∧ ∀ q, q < 81 → vcl w1 (5 + 5 * u) (3 + q) = Vof (al w) u (3 + q) := by
  obtain ⟨⟨hS, hT, hI⟩, hV⟩ := h3
  obtain ⟨u1, _, _, g2, _⟩ := VT hS hT hu
  obtain ⟨c1, c2, _⟩ := hC
  have okv := okV_n u1
  refine ⟨by rw [c1]; exact c2, ?_, c1, fun q hq => ?_⟩
  · rw [c1, FM_i f (by simp <;> omega)]; exact g2
  · rw [vcl_FMv hS f okv (by simp <;> omega) (by simp <;> omega) (by simp <;> omega) (by simp <;> omega) (by simp <;> omega) (by simp <;> omega) (by simp <;> omega)]
    exact hT.2.2.2.2.2.2.2.1 u hu (3 + q) (by omega)
/-- loaded on both sides or on neither -/
theorem LOAD2 (h3 : RL3 w) (z : PS X k 98 0 [.ref 0, .int p1, .int p2, .int p3, pm_dead, pm_dead, pm_dead] [] w q1 w1) (S2 : SK w2) (e : al w2 = al w) (y : PS X k2 246 0 [.ref 147, .int p1, .int p2, .int p3] [] w2 q2 w3) : FM [(147, 14), (147, 15), (147, 16)] [152, 153] w2 w3 ∧ ((q1 = some (.int 0) ∧ q2 = some (.int 0)) ∨ ∃ (u : Nat) (s1 s2 : SN), q1 = some (.int 1) ∧ q2 = some (.int 1) ∧ p1.toInt = u ∧ u < (al w 0).toInt.toNat ∧ LSt (Pof (al w) u) s1 s2 ∧ CSt w1 33 (5 + 5 * u) (Pof (al w) u) s1.1 s1.2.1 s1.2.2.1 s1.2.2.2 ∧ RSt w3 s2.1 s2.2.1 s2.2.2.1 s2.2.2.2) := by
  obtain ⟨f1, alt⟩ := F98 h3 z
  obtain ⟨f2, alt2⟩ := F246 S2 (by rw [e]; exact h3.1.2.1.1) (by rw [e]; exact h3.2) y
  rw [e] at alt2
  refine ⟨f2, ?_⟩
  rcases alt with ⟨u, s1, a1, a2, a3⟩ | ⟨a1, a2⟩
  · rcases alt2 with ⟨u2, s2, b1, b2, b3⟩ | ⟨b1, b2⟩
    · obtain ⟨e1, l⟩ := LDR_2 h3.2 a2 b2
      exact Or.inr ⟨u, s1, s2, a1, b1, a2.1, a2.2.1, l, a3, b3⟩
    · exact (LD_no h3.2 a2 b2).elim
  · rcases alt2 with ⟨u2, s2, b1, b2, b3⟩ | ⟨b1, b2⟩
    · exact (LD_no h3.2 b2 a2).elim
    · exact Or.inl ⟨a1, b1⟩
theorem i10 : ¬ (some (Value.int 1) = some (Value.int 0)) := fun h => absurd (Value.int.inj (Option.some.inj h)) (by decide +kernel)
end HKA
