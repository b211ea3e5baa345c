/-! ===== room, owes ===== -/
section HMA
variable {X : pm_X} {k k2 : Nat} {w0 w w1 w2 w3 w4 w' : pm_W} {r r2 q1 q2 : Option Value} {p p1 p2 p3 p4 p5 i1 i2 i3 sl : Int32} {n i v j m u u2 P t s b Q x rr len : Nat} {a V G G1 G2 : Nat → Int32} {Es : Nat → Nat → Int32} {s0 s1 s2 : SN}
def PR2 (P : Nat) (p4 p5 : Int32) : Prop := (0 ≤ p4.toInt ∧ p4.toInt < (P : Nat)) ∧ (0 ≤ p5.toInt ∧ p5.toInt < (P : Nat))
/-- the class's loadTwo -/
theorem F97 (h3 : RL3 w) (h : PS X k 97 0 [.ref 0, .int p1, .int p2, .int p3, .int p4, .int p5] [] w r w') : ∃ (k' : Nat) (q1 : Option Value), PS X k' 98 0 [.ref 0, .int p1, .int p2, .int p3, pm_dead, pm_dead, pm_dead] [] w q1 w' ∧ ((q1 = some (.int 0) ∧ r = some (.int 0)) ∨ (q1 = some (.int 1) ∧ ∃ (u : Nat) (s1 : SN), LDR (al w) p1 p2 p3 (gAr w 33) u s1 ∧ CSt w' 33 (5 + 5 * u) (Pof (al w) u) s1.1 s1.2.1 s1.2.2.1 s1.2.2.2 ∧ ((PR2 (Pof (al w) u) p4 p5 ∧ r = some (.int 1)) ∨ (¬ PR2 (Pof (al w) u) p4 p5 ∧ r = some (.int 0))))) := by
  have hS := h3.1.1
  cases k with
  | zero => exact (PS_0 h).elim
  | succ k =>
    obtain ⟨q1, w3, z, h⟩ := U97_0 hS h
    obtain ⟨f1, alt⟩ := F98 h3 z
    have S3 : SK w3 := f1.2.2.2
    rcases alt with ⟨u, s1, a1, a2, a3⟩ | ⟨a1, a2⟩
    · have h := h _ a1 S3
      rw [if_neg (by decide +kernel)] at h
      obtain ⟨g1, g2, g3, g4⟩ := CVL h3 a2.2.1 f1 a3
      have h := use_p S3 h (fun _ _ y => F61 S3 g1 y)
      by_cases c : 0 ≤ p4.toInt ∧ p4.toInt < (Pof (al w) u : Nat)
      · have h := ifb_t c h
        have h := use_p S3 h (fun _ _ y => F61 S3 g1 y)
        by_cases c2 : 0 ≤ p5.toInt ∧ p5.toInt < (Pof (al w) u : Nat)
        · have h := ifb_t c2 h
          rw [h.2]
          exact ⟨k, q1, z, Or.inr ⟨a1, u, s1, a2, a3, Or.inl ⟨⟨c, c2⟩, h.1⟩⟩⟩
        · have h := ifb_f c2 h
          rw [h.2]
          exact ⟨k, q1, z, Or.inr ⟨a1, u, s1, a2, a3, Or.inr ⟨fun y => c2 y.2, h.1⟩⟩⟩
      · have h := ifb_f c h
        rw [h.2]
        exact ⟨k, q1, z, Or.inr ⟨a1, u, s1, a2, a3, Or.inr ⟨fun y => c y.1, h.1⟩⟩⟩
    · have h := h _ a1 S3
      rw [if_pos rfl] at h
      rw [h.2]
      exact ⟨k, q1, z, Or.inl ⟨a1, h.1⟩⟩
/-- two people loaded on both sides, or not -/
theorem TWO2 (h3 : RL3 w) (z : PS X k 97 0 [.ref 0, .int p1, .int p2, .int p3, .int p4, .int p5] [] w q1 w3) (y : PS X k2 245 0 [.ref 147, .int p1, .int p2, .int p3, .int p4, .int p5] [] w3 q2 w4) : SK w4 ∧ ((q1 = some (.int 0) ∧ q2 = some (.int 0)) ∨ ∃ (u x y : Nat), q1 = some (.int 1) ∧ q2 = some (.int 1) ∧ p1.toInt = u ∧ u ≤ 1 ∧ p4.toInt = x ∧ p5.toInt = y ∧ x < 9 ∧ y < 9 ∧ dR w4 = dA w3 33 ∧ gR w3 33 0 = 5 + 5 * u ∧ ∀ q, q < 81 → al w4 (610 + 132 * u + (3 + q)) = vcl w3 (5 + 5 * u) (3 + q)) := by
  obtain ⟨k', q, z2, alt⟩ := F97 h3 z
  obtain ⟨f1, _⟩ := F98 h3 z2
  have S3 : SK w3 := f1.2.2.2
  obtain ⟨S6, e6, alt2⟩ := F245 h3 z2 S3 (FM_al f1) y
  refine ⟨S6, ?_⟩
  rcases alt with ⟨a0, a1⟩ | ⟨a1, u, s1, a2, a3, a4⟩
  · rcases alt2 with ⟨_, b2⟩ | ⟨u', t1, t2, b1, b3, b4, b5, b6, b7, b8⟩
    · exact Or.inl ⟨a1, b2⟩
    · rw [a0] at b1; exact absurd b1.symm i10
  · rcases alt2 with ⟨b0, _⟩ | ⟨u', t1, t2, b1, b3, b4, b5, b6, b7, b8⟩
    · rw [a1] at b0; exact absurd b0 i10
    · have eu : u' = u := by have := a2.1; omega
      subst eu
      rcases a4 with ⟨c, c1⟩ | ⟨c, c1⟩
      · rw [decide_eq_true (show (0 ≤ p4.toInt ∧ p4.toInt < (Pof (al w) u' : Nat)) ∧ (0 ≤ p5.toInt ∧ p5.toInt < (Pof (al w) u' : Nat)) from c)] at b8
        obtain ⟨v1, _, v3, v2, v4⟩ := VA_v h3.2 b4
        obtain ⟨g1, g2, g3, g4⟩ := CVL h3 b4 f1 a3
        obtain ⟨⟨c2, c3⟩, c4, c5⟩ := c
        obtain ⟨x, hx⟩ : ∃ x : Nat, p4.toInt = x := ⟨p4.toInt.toNat, by omega⟩
        obtain ⟨y, hy⟩ : ∃ y : Nat, p5.toInt = y := ⟨p5.toInt.toNat, by omega⟩
        refine Or.inr ⟨u', x, y, c1, b8, b3, by have := h3.1.2.1.1.2.1; omega, hx, hy, by omega, by omega, ?_, g3, fun q hq => ?_⟩
        · rw [show dR w4 = t2.1 from b7.1, b5.1]
          exact b6.2.2.1.symm
        · rw [e6, g4 q hq]; rfl
      · rw [decide_eq_false (show ¬ ((0 ≤ p4.toInt ∧ p4.toInt < (Pof (al w) u' : Nat)) ∧ (0 ≤ p5.toInt ∧ p5.toInt < (Pof (al w) u' : Nat))) from c)] at b8
        exact Or.inl ⟨c1, b8⟩
theorem F97_w (h3 : RL3 w) (z : PS X k 97 0 [.ref 0, .int p1, .int p2, .int p3, .int p4, .int p5] [] w q1 w3) : SK w3 ∧ (q1 = some (.int 0) ∨ (q1 = some (.int 1) ∧ ∃ x y : Nat, p4.toInt = x ∧ p5.toInt = y ∧ x < 9 ∧ y < 9)) := by
  obtain ⟨k', q, z2, alt⟩ := F97 h3 z
  obtain ⟨f1, _⟩ := F98 h3 z2
  refine ⟨f1.2.2.2, ?_⟩
  rcases alt with ⟨_, a1⟩ | ⟨_, u, s1, a2, a3, ⟨⟨⟨c2, c3⟩, c4, c5⟩, c1⟩ | ⟨c, c1⟩⟩
  · exact Or.inl a1
  · obtain ⟨v1, _⟩ := VA_v h3.2 a2.2.1
    exact Or.inr ⟨c1, p4.toInt.toNat, p5.toInt.toNat, by omega, by omega, by omega, by omega⟩
  · exact Or.inl c1
/-- owes -/
theorem RC_10 (h3 : RL3 w) (h1 : PS X k 96 0 [.ref 0, .int p1, .int p2, .int p3, .int p4, .int p5] [] w r w1) (h2 : PS X k2 244 0 [.ref 147, .int p1, .int p2, .int p3, .int p4, .int p5] [] w1 r2 w2) : r2 = r := by
  cases k with
  | zero => exact (PS_0 h1).elim
  | succ k =>
    cases k2 with
    | zero => exact (PS_0 h2).elim
    | succ k2 =>
      obtain ⟨q1, w3, z, h1⟩ := U96_0 h3.1.1 h1
      obtain ⟨S3, alt⟩ := F97_w h3 z
      rcases alt with a | ⟨a, x, y, hx, hy, hx9, hy9⟩
      · have h1 := h1 _ a S3
        rw [if_pos rfl] at h1
        rw [h1.2] at h2
        obtain ⟨q6, w6, y6, h2⟩ := U244_0 S3 h2
        obtain ⟨S6, alt2⟩ := TWO2 h3 z y6
        rcases alt2 with ⟨_, b⟩ | ⟨u, x, y, b, _⟩
        · have h2 := h2 _ b S6
          rw [if_pos rfl] at h2
          rw [h2.1, h1.1]
        · rw [a] at b; exact absurd b.symm i10
      · have h1 := h1 _ a S3
        rw [if_neg (by decide +kernel)] at h1
        obtain ⟨c1, hc1, h1⟩ := use_z S3 h1 (fun _ _ t => F52n S3 hx hy hx9 hy9 t)
        obtain ⟨_, h1⟩ := h1
        rw [h1.2] at h2
        obtain ⟨q6, w6, y6, h2⟩ := U244_0 S3 h2
        obtain ⟨S6, alt2⟩ := TWO2 h3 z y6
        rcases alt2 with ⟨b, _⟩ | ⟨u, x', y', _, b, b3, b4, b5, b6, b7, b8, b9, _⟩
        · rw [a] at b; exact absurd b i10
        · have h2 := h2 _ b S6
          rw [if_neg (by decide +kernel)] at h2
          have h2 := use_p S6 h2 (fun _ _ t => F232n S6 hx hy hx9 hy9 t)
          rw [h2.1, h1.1, b9, aG_n hc1]
          rfl
/-- room -/
theorem RC_11 (h3 : RL3 w) (h1 : PS X k 99 0 [.ref 0, .int p1, .int p2, .int p3, .int p4, .int p5] [] w r w1) (h2 : PS X k2 247 0 [.ref 147, .int p1, .int p2, .int p3, .int p4, .int p5] [] w1 r2 w2) : r2 = r := by
  cases k with
  | zero => exact (PS_0 h1).elim
  | succ k =>
    cases k2 with
    | zero => exact (PS_0 h2).elim
    | succ k2 =>
      obtain ⟨q1, w3, z, h1⟩ := U99_0 h3.1.1 h1
      obtain ⟨S3, alt⟩ := F97_w h3 z
      rcases alt with a | ⟨a, x, y, hx, hy, hx9, hy9⟩
      · have h1 := h1 _ a S3
        rw [if_pos rfl] at h1
        rw [h1.2] at h2
        obtain ⟨q6, w6, y6, h2⟩ := U247_0 S3 h2
        obtain ⟨S6, alt2⟩ := TWO2 h3 z y6
        rcases alt2 with ⟨_, b⟩ | ⟨u, x, y, b, _⟩
        · have h2 := h2 _ b S6
          rw [if_pos rfl] at h2
          rw [h2.1, h1.1]
        · rw [a] at b; exact absurd b.symm i10
      · have h1 := h1 _ a S3
        rw [if_neg (by decide +kernel)] at h1
        obtain ⟨q5, w5, y5, h1⟩ := h1
        have g : ∃ u : Nat, u ≤ 1 ∧ gR w3 33 0 = 5 + 5 * u := by
          obtain ⟨k', q, z2, alt⟩ := F97 h3 z
          obtain ⟨f1, _⟩ := F98 h3 z2
          rcases alt with ⟨_, a1⟩ | ⟨_, u, s1, a2, a3, _⟩
          · rw [a] at a1; exact absurd a1 i10
          · exact ⟨u, by have := h3.1.2.1.1.2.1; have := a2.2.1; omega, a3.1⟩
        obtain ⟨u0, hu0, g⟩ := g
        obtain ⟨e5, e6⟩ := F77n S3 (by decide +kernel) (okV_n hu0) g hx hy hx9 hy9 y5
        have h1 := h1 _ e5 (by rw [e6]; exact S3)
        rw [h1.2, e6] at h2
        obtain ⟨q6, w6, y6, h2⟩ := U247_0 S3 h2
        obtain ⟨S6, alt2⟩ := TWO2 h3 z y6
        rcases alt2 with ⟨b, _⟩ | ⟨u, x', y', _, b, b3, b4, b5, b6, b7, b8, b9, b10, b11⟩
        · rw [a] at b; exact absurd b i10
        · have h2 := h2 _ b S6
          rw [if_neg (by decide +kernel)] at h2
          have eu : u0 = u := by rw [g] at b10; omega
          subst eu
          have h2 := use_p S6 h2 (fun _ _ t => F217v S6 b3 b4 t)
          have h2 := use_p S6 h2 (fun _ _ t => F231n S6 (plV b3 b4) b4 hx hy hx9 hy9 t)
          rw [h2.1, h1.1, b9, rmI_cg (V := vcl w3 (5 + 5 * u0)) (fun q hq => b11 q hq) hx9 hy9]
end HMA
