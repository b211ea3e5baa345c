/-! ===== ring; what both sides load ===== -/
section HRR
variable {X : pm_X} {k k2 : Nat} {w0 w w1 w2 w3 w4 w' : pm_W} {r r2 q1 q2 : Option Value} {p p1 p2 p3 p4 p5 i1 i2 i3 sl z z1 z2 : Int32} {n i v j m u u2 P t s b Q x rr len o3 N K : Nat} {a V V' G G1 G2 : Nat → Int32} {Es Es' : Nat → Nat → Int32} {s0 s1 s2 t1 t2 : SN}
theorem LDR_N (hV : VAa a) (hA : RA a) (h : LDR a p1 p2 p3 G u s0) : s0.2.2.2 ≤ 30 := by
  obtain ⟨h1, h2, h3⟩ := h
  obtain ⟨v1, _, _, v2, _⟩ := VA_v hV h2
  rcases h3 with ⟨_, _, e⟩ | ⟨_, rr, n, _, c2, _, c3, c4⟩
  · rw [e]; exact Nat.zero_le 30
  · have r := hA.2.2.2.2.2.2 rr c2
    obtain ⟨_, w2⟩ := RN_W v1 v2 WS_00 n s0 (fun j hj => VA_e hV c2 (by omega)) c4
    have z : (s00 G).2.2.2 = 0 := rfl
    omega
/-- what stands behind both loads -/
def LD3 (w w1 w3 : pm_W) (p1 : Int32) (u : Nat) (s1 s2 : SN) : Prop := p1.toInt = u ∧ u < (al w 0).toInt.toNat ∧ u ≤ 1 ∧ LSt (Pof (al w) u) s1 s2 ∧ CSt w1 33 (5 + 5 * u) (Pof (al w) u) s1.1 s1.2.1 s1.2.2.1 s1.2.2.2 ∧ RSt w3 s2.1 s2.2.1 s2.2.2.1 s2.2.2.2 ∧ s1.2.2.2 ≤ 30
theorem LOAD3 (h3 : RL3 w) (z : PS X k 98 0 [.ref 0, .int p1, .int p2, .int p3, pm_dead, pm_dead, pm_dead] [] w q1 w1) (S2 : SK w2) (e : al w2 = al w) (y : PS X k2 246 0 [.ref 147, .int p1, .int p2, .int p3] [] w2 q2 w3) : FM [(147, 14), (147, 15), (147, 16)] [152, 153] w2 w3 ∧ al w3 = al w ∧ ((q1 = some (.int 0) ∧ q2 = some (.int 0)) ∨ ∃ (u : Nat) (s1 s2 : SN), q1 = some (.int 1) ∧ q2 = some (.int 1) ∧ LD3 w w1 w3 p1 u s1 s2) := by
  obtain ⟨f1, alt⟩ := F98 h3 z
  obtain ⟨f2, alt2⟩ := F246 S2 (by rw [e]; exact h3.1.2.1.1) (by rw [e]; exact h3.2) y
  have e3 : al w3 = al w := by rw [← e]; funext q; unfold al; rw [FM_a f2 (by simp)]
  rw [e] at alt2
  refine ⟨f2, e3, ?_⟩
  have hu2 := h3.1.2.1.1.2.1
  rcases alt with ⟨u, s1, a1, a2, a3⟩ | ⟨a1, a2⟩
  · rcases alt2 with ⟨u2, s2, b1, b2, b3⟩ | ⟨b1, b2⟩
    · obtain ⟨e1, l⟩ := LDR_2 h3.2 a2 b2
      exact Or.inr ⟨u, s1, s2, a1, b1, a2.1, a2.2.1, by have := a2.2.1; omega, l, a3, b3, LDR_N h3.2 h3.1.2.1.1 a2⟩
    · exact (LD_no h3.2 a2 b2).elim
  · rcases alt2 with ⟨u2, s2, b1, b2, b3⟩ | ⟨b1, b2⟩
    · exact (LD_no h3.2 b2 a2).elim
    · exact Or.inl ⟨a1, b1⟩
end HRR
