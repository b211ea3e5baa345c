/-! ===== states asked on both sides: lawful, over, room, owes ===== -/
section HKA
variable {X : pm_X} {k k2 : Nat} {w0 w w1 w2 w3 w4 w' : pm_W} {r r2 q1 q2 : Option Value} {p p1 p2 p3 p4 p5 i1 i2 i3 sl : Int32} {n i v j m u u2 P t s b Q x rr len : Nat} {a V G G1 G2 : Nat → Int32} {Es : Nat → Nat → Int32} {s0 s1 s2 : SN}
theorem FM_al {fs : List (Nat × Nat)} (h : FM fs [39, 40, 41] w w1) : al w1 = al w := by
  funext q
  unfold al
  rw [FM_a h (by simp)]
/-- the village loaded, in the class: its people, its slack, its words -/
theorem CVL (h3 : RL3 w) (hu : u < (al w 0).toInt.toNat) (f : FM [(33, 0), (33, 1), (33, 2)] [39, 40, 41] w w1) (hC : CSt w1 33 (5 + 5 * u) P s0.1 s0.2.1 s0.2.2.1 s0.2.2.2) : (gI w1 (gR w1 33 0) 0).toInt = P ∧ gI w1 (gR w1 33 0) 1 = al w (612 + 132 * u) ∧ gR w1 33 0 = 5 + 5 * u ∧ ∀ q, q < 81 → vcl w1 (5 + 5 * u) (3 + q) = Vof (al w) u (3 + q) := by
  obtain ⟨⟨hS, hT, hI⟩, hV⟩ := h3
  obtain ⟨u1, _, _, g2, _⟩ := VT hS hT hu
  obtain ⟨c1, c2, _⟩ := hC
  have okv := okV_n u1
  refine ⟨by rw [c1]; exact c2, ?_, c1, fun q hq => ?_⟩
  · rw [c1, FM_i f (by simp <;> omega)]; exact g2
  · rw [vcl_FMv hS f okv (by simp <;> omega) (by simp <;> omega) (by simp <;> omega) (by simp <;> omega) (by simp <;> omega) (by simp <;> omega) (by simp <;> omega)]
    exact hT.2.2.2.2.2.2.2.1 u hu (3 + q) (by omega)
/-- loaded on both sides or on neither -/
theorem LOAD2 (h3 : RL3 w) (z : PS X k 98 0 [.ref 0, .int p1, .int p2, .int p3, pm_dead, pm_dead, pm_dead] [] w q1 w1) (S2 : SK w2) (e : al w2 = al w) (y : PS X k2 246 0 [.ref 147, .int p1, .int p2, .int p3] [] w2 q2 w3) : FM [(147, 14), (147, 15), (147, 16)] [152, 153] w2 w3 ∧ ((q1 = some (.int 0) ∧ q2 = some (.int 0)) ∨ ∃ (u : Nat) (s1 s2 : SN), q1 = some (.int 1) ∧ q2 = some (.int 1) ∧ p1.toInt = u ∧ u < (al w 0).toInt.toNat ∧ LSt (Pof (al w) u) s1 s2 ∧ CSt w1 33 (5 + 5 * u) (Pof (al w) u) s1.1 s1.2.1 s1.2.2.1 s1.2.2.2 ∧ RSt w3 s2.1 s2.2.1 s2.2.2.1 s2.2.2.2) := by
  obtain ⟨f1, alt⟩ := F98 h3 z
  obtain ⟨f2, alt2⟩ := F246 S2 (by rw [e]; exact h3.1.2.1.1) (by rw [e]; exact h3.2) y
  rw [e] at alt2
  refine ⟨f2, ?_⟩
  rcases alt with ⟨u, s1, a1, a2, a3⟩ | ⟨a1, a2⟩
  · rcases alt2 with ⟨u2, s2, b1, b2, b3⟩ | ⟨b1, b2⟩
    · obtain ⟨e1, l⟩ := LDR_2 h3.2 a2 b2
      exact Or.inr ⟨u, s1, s2, a1, b1, a2.1, a2.2.1, l, a3, b3⟩
    · exact (LD_no h3.2 a2 b2).elim
  · rcases alt2 with ⟨u2, s2, b1, b2, b3⟩ | ⟨b1, b2⟩
    · exact (LD_no h3.2 b2 a2).elim
    · exact Or.inl ⟨a1, b1⟩
theorem i10 : ¬ (some (Value.int 1) = some (Value.int 0)) := fun h => absurd (Value.int.inj (Option.some.inj h)) (by decide +kernel)
/-- lawful -/
theorem RC_13 (h3 : RL3 w) (h1 : PS X k 102 0 [.ref 0, .int p1, .int p2, .int p3] [] w r w1) (h2 : PS X k2 249 0 [.ref 147, .int p1, .int p2, .int p3] [] w1 r2 w2) : r2 = r := by
  have hS := h3.1.1
  cases k with
  | zero => exact (PS_0 h1).elim
  | succ k =>
    cases k2 with
    | zero => exact (PS_0 h2).elim
    | succ k2 =>
      obtain ⟨q1, w3, z, h1⟩ := U102_0 hS h1
      obtain ⟨f1, alt⟩ := F98 h3 z
      have S3 : SK w3 := f1.2.2.2
      have ea := FM_al f1
      rcases alt with ⟨u, s1, a1, a2, a3⟩ | ⟨a1, a2⟩
      · have h1 := h1 _ a1 S3
        rw [if_neg (by decide +kernel)] at h1
        obtain ⟨q4, w5, y, h1b⟩ := h1
        have u2 := a2.2.1
        obtain ⟨v1, _, v3, v2, v4⟩ := VA_v h3.2 u2
        obtain ⟨g1, g2, g3, g4⟩ := CVL h3 u2 f1 a3
        have hd : dA w3 33 = s1.1 := a3.2.2.1
        have bd : ∀ q, 0 ≤ (s1.1 q).toInt ∧ (s1.1 q).toInt ≤ 99 := (LDR_2 h3.2 a2 a2).2.2.2.2.2.1.1.1
        have u1 : u ≤ 1 := by have := h3.1.2.1.1.2.1; omega
        obtain ⟨e5, alt⟩ := F92 S3 (by decide +kernel) g1 v1 (by rw [hd]; exact bd) y
        subst e5
        rw [g2, hd] at alt
        have cl : w1 = w5 ∧ ((lwS (Pof (al w) u) (al w (612 + 132 * u)) s1.1 ∧ r = some (.int 1)) ∨ (¬ lwS (Pof (al w) u) (al w (612 + 132 * u)) s1.1 ∧ r = some (.int 0))) := by
          rcases alt with ⟨x1, x2⟩ | ⟨x1, x2⟩
          · have h1 := h1b _ x2 S3
            rw [if_neg (by decide +kernel)] at h1
            exact ⟨h1.2, Or.inl ⟨x1, h1.1⟩⟩
          · have h1 := h1b _ x2 S3
            rw [if_pos rfl] at h1
            exact ⟨h1.2, Or.inr ⟨x1, h1.1⟩⟩
        obtain ⟨ew, cl⟩ := cl
        rw [ew] at h2
        obtain ⟨q6, w6, y6, h2⟩ := U249_0 S3 h2
        obtain ⟨f2, alt2⟩ := LOAD2 h3 z S3 ea y6
        rcases alt2 with ⟨b1, _⟩ | ⟨u', t1, t2, b1, b2, b3, b4, b5, b6, b7⟩
        · rw [a1] at b1; exact absurd b1 i10
        · have eu : u' = u := by have := a2.1; omega
          subst eu
          have S6 : SK w6 := f2.2.2.2
          have e6 : al w6 = al w := by rw [← ea]; funext q; unfold al; rw [FM_a f2 (by simp)]
          have ed : dR w6 = s1.1 := by
            have x1 : dA w5 33 = t1.1 := b6.2.2.1
            rw [show dR w6 = t2.1 from b7.1, b5.1, ← x1, hd]
          have h2 := h2 _ b2 S6
          rw [if_neg (by decide +kernel)] at h2
          have h2 := use_p S6 h2 (fun _ _ y => F217v S6 b3 u1 y)
          obtain ⟨q8, w8, y8, h2⟩ := h2
          obtain ⟨e8, alt3⟩ := F241 (sl := al w (612 + 132 * u')) S6 u1 (plV b3 u1) (by rw [e6]; exact v3) v1 (by rw [e6]) v4 (by rw [ed]; exact bd) y8
          rw [ed] at alt3
          rcases alt3 with ⟨x1, x2⟩ | ⟨x1, x2⟩
          · have h2 := h2 _ x2 (by rw [e8]; exact S6)
            rw [if_neg (by decide +kernel)] at h2
            rcases cl with ⟨c1, c2⟩ | ⟨c1, c2⟩
            · rw [h2.1, c2]
            · exact absurd x1 c1
          · have h2 := h2 _ x2 (by rw [e8]; exact S6)
            rw [if_pos rfl] at h2
            rcases cl with ⟨c1, c2⟩ | ⟨c1, c2⟩
            · exact absurd c1 x1
            · rw [h2.1, c2]
      · have h1 := h1 _ a1 S3
        rw [if_pos rfl] at h1
        rw [h1.2] at h2
        obtain ⟨q6, w6, y6, h2⟩ := U249_0 S3 h2
        obtain ⟨f2, alt2⟩ := LOAD2 h3 z S3 ea y6
        rcases alt2 with ⟨_, b2⟩ | ⟨u', t1, t2, b1, b2, b3, b4, b5, b6, b7⟩
        · have h2 := h2 _ b2 f2.2.2.2
          rw [if_pos rfl] at h2
          rw [h2.1, h1.1]
        · rw [a1] at b1; exact absurd b1.symm i10
end HKA
