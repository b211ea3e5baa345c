/-! ===== room, owes ===== -/
section HMA
variable {X : pm_X} {k k2 : Nat} {w0 w w1 w2 w3 w4 w' : pm_W} {r r2 q1 q2 : Option Value} {p p1 p2 p3 p4 p5 i1 i2 i3 sl : Int32} {n i v j m u u2 P t s b Q x rr len : Nat} {a V G G1 G2 : Nat → Int32} {Es : Nat → Nat → Int32} {s0 s1 s2 : SN}
def PR2 (P : Nat) (p4 p5 : Int32) : Prop := (0 ≤ p4.toInt ∧ p4.toInt < (P : Nat)) ∧ (0 ≤ p5.toInt ∧ p5.toInt < (P : Nat))
/-- the class's loadTwo -/
theorem F97 (h3 : RL3 w) (h : PS X k 97 0 [.ref 0, .int p1, .int p2, .int p3, .int p4, .int p5] [] w r w') : ∃ (k' : Nat) (q1 : Option Value), PS X k' 98 0 [.ref 0, .int p1, .int p2, .int p3, pm_dead, pm_dead, pm_dead] [] w q1 w' ∧ ((q1 = some (.int 0) ∧ r = some (.int 0)) ∨ (q1 = some (.int 1) ∧ ∃ (u : Nat) (s1 : SN), LDR (al w) p1 p2 p3 (gAr w 33) u s1 ∧ CSt w' 33 (5 + 5 * u) (Pof (al w) u) s1.1 s1.2.1 s1.2.2.1 s1.2.2.2 ∧ ((PR2 (Pof (al w) u) p4 p5 ∧ r = some (.int 1)) ∨ (¬ PR2 (Pof (al w) u) p4 p5 ∧ r = some (.int 0))))) := by
  have hS := h3.1.1
  cases k with
  | zero => exact (PS_0 h).elim
  | succ k =>
    obtain ⟨q1, w3, z, h⟩ := U97_0 hS h
    obtain ⟨f1, alt⟩ := F98 h3 z
    have S3 : SK w3 := f1.2.2.2
    rcases alt with ⟨u, s1, a1, a2, a3⟩ | ⟨a1, a2⟩
    · have h := h _ a1 S3
      rw [if_neg (by decide +kernel)] at h
      obtain ⟨g1, g2, g3, g4⟩ := CVL h3 a2.2.1 f1 a3
      have h := use_p S3 h (fun _ _ y => F61 S3 g1 y)
      by_cases c : 0 ≤ p4.toInt ∧ p4.toInt < (Pof (al w) u : Nat)
      · have h := ifb_t c h
        have h := use_p S3 h (fun _ _ y => F61 S3 g1 y)
        by_cases c2 : 0 ≤ p5.toInt ∧ p5.toInt < (Pof (al w) u : Nat)
        · have h := ifb_t c2 h
          rw [h.2]
          exact ⟨k, q1, z, Or.inr ⟨a1, u, s1, a2, a3, Or.inl ⟨⟨c, c2⟩, h.1⟩⟩⟩
        · have h := ifb_f c2 h
          rw [h.2]
          exact ⟨k, q1, z, Or.inr ⟨a1, u, s1, a2, a3, Or.inr ⟨fun y => c2 y.2, h.1⟩⟩⟩
      · have h := ifb_f c h
        rw [h.2]
        exact ⟨k, q1, z, Or.inr ⟨a1, u, s1, a2, a3, Or.inr ⟨fun y => c y.1, h.1⟩⟩⟩
    · have h := h _ a1 S3
      rw [if_pos rfl] at h
      rw [h.2]
      exact ⟨k, q1, z, Or.inl ⟨a1, h.1⟩⟩
end HMA
