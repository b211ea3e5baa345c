/-! ===== over ===== -/
section HLA
variable {X : pm_X} {k k2 : Nat} {w0 w w1 w2 w3 w4 w' : pm_W} {r r2 q1 q2 : Option Value} {p p1 p2 p3 p4 p5 i1 i2 i3 sl : Int32} {n i v j m u u2 P t s b Q x rr len : Nat} {a V G G1 G2 : Nat → Int32} {Es : Nat → Nat → Int32} {s0 s1 s2 : SN}
/-- the reference's isState with two people -/
theorem F245 (h3 : RL3 w) (z : PS X k 98 0 [.ref 0, .int p1, .int p2, .int p3, pm_dead, pm_dead, pm_dead] [] w q1 w1) (S2 : SK w2) (e : al w2 = al w) (h : PS X k2 245 0 [.ref 147, .int p1, .int p2, .int p3, .int p4, .int p5] [] w2 r w') : SK w' ∧ al w' = al w ∧ ((q1 = some (.int 0) ∧ r = some (.int 0)) ∨ ∃ (u : Nat) (s1 s2 : SN), q1 = some (.int 1) ∧ p1.toInt = u ∧ u < (al w 0).toInt.toNat ∧ LSt (Pof (al w) u) s1 s2 ∧ CSt w1 33 (5 + 5 * u) (Pof (al w) u) s1.1 s1.2.1 s1.2.2.1 s1.2.2.2 ∧ RSt w' s2.1 s2.2.1 s2.2.2.1 s2.2.2.2 ∧ r = some (.int (b2i (decide ((0 ≤ p4.toInt ∧ p4.toInt < (Pof (al w) u : Nat)) ∧ (0 ≤ p5.toInt ∧ p5.toInt < (Pof (al w) u : Nat))))))) := by
  cases k2 with
  | zero => exact (PS_0 h).elim
  | succ k2 =>
    obtain ⟨q6, w6, y6, h⟩ := U245_0 S2 h
    obtain ⟨f2, alt2⟩ := LOAD2 h3 z S2 e y6
    have S6 : SK w6 := f2.2.2.2
    have e6 : al w6 = al w := by rw [← e]; funext q; unfold al; rw [FM_a f2 (by simp)]
    rcases alt2 with ⟨b0, b2⟩ | ⟨u, t1, t2, b1, b2, b3, b4, b5, b6, b7⟩
    · have h := h _ b2 S6
      rw [if_pos rfl] at h
      rw [h.2]
      exact ⟨S6, e6, Or.inl ⟨b0, h.1⟩⟩
    · have h := h _ b2 S6
      rw [if_neg (by decide +kernel)] at h
      have u1 : u ≤ 1 := by have := h3.1.2.1.1.2.1; omega
      obtain ⟨v1, _, v3, v2, v4⟩ := VA_v h3.2 b4
      have h := use_p S6 h (fun _ _ y => F217v S6 b3 u1 y)
      have h := use_p S6 h (fun _ _ y => F221n (m := 610 + 132 * u) (L := Pof (al w) u) S6 (plV b3 u1) (by rw [e6]; exact v3) (by omega) y)
      by_cases c : 0 ≤ p4.toInt ∧ p4.toInt < (Pof (al w) u : Nat)
      · have h := ifb_t c h
        have h := use_p S6 h (fun _ _ y => F217v S6 b3 u1 y)
        have h := use_p S6 h (fun _ _ y => F221n (m := 610 + 132 * u) (L := Pof (al w) u) S6 (plV b3 u1) (by rw [e6]; exact v3) (by omega) y)
        by_cases c2 : 0 ≤ p5.toInt ∧ p5.toInt < (Pof (al w) u : Nat)
        · have h := ifb_t c2 h
          rw [h.2]
          refine ⟨S6, e6, Or.inr ⟨u, t1, t2, b1, b3, b4, b5, b6, b7, ?_⟩⟩
          rw [decide_eq_true ⟨c, c2⟩]; exact h.1
        · have h := ifb_f c2 h
          rw [h.2]
          refine ⟨S6, e6, Or.inr ⟨u, t1, t2, b1, b3, b4, b5, b6, b7, ?_⟩⟩
          rw [decide_eq_false (fun y => c2 y.2)]; exact h.1
      · have h := ifb_f c h
        rw [h.2]
        refine ⟨S6, e6, Or.inr ⟨u, t1, t2, b1, b3, b4, b5, b6, b7, ?_⟩⟩
        rw [decide_eq_false (fun y => c y.1)]; exact h.1
end HLA
