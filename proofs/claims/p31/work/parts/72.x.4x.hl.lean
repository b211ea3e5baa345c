/-! ===== over ===== -/
section HLA
variable {X : pm_X} {k k2 : Nat} {w0 w w1 w2 w3 w4 w' : pm_W} {r r2 q1 q2 : Option Value} {p p1 p2 p3 p4 p5 i1 i2 i3 sl : Int32} {n i v j m u u2 P t s b Q x rr len : Nat} {a V G G1 G2 : Nat → Int32} {Es : Nat → Nat → Int32} {s0 s1 s2 : SN}
/-- the class's loadOne -/
theorem F101 (h3 : RL3 w) (h : PS X k 101 0 [.ref 0, .int p1, .int p2, .int p3, .int p4] [] w r w') : ∃ (k' : Nat) (q1 : Option Value), PS X k' 98 0 [.ref 0, .int p1, .int p2, .int p3, pm_dead, pm_dead, pm_dead] [] w q1 w' ∧ ((q1 = some (.int 0) ∧ r = some (.int 0)) ∨ (q1 = some (.int 1) ∧ ∃ (u : Nat) (s1 : SN), LDR (al w) p1 p2 p3 (gAr w 33) u s1 ∧ CSt w' 33 (5 + 5 * u) (Pof (al w) u) s1.1 s1.2.1 s1.2.2.1 s1.2.2.2 ∧ r = some (.int (b2i (decide (0 ≤ p4.toInt ∧ p4.toInt < (Pof (al w) u : Nat))))))) := by
  have hS := h3.1.1
  cases k with
  | zero => exact (PS_0 h).elim
  | succ k =>
    obtain ⟨q1, w3, z, h⟩ := U101_0 hS h
    obtain ⟨f1, alt⟩ := F98 h3 z
    have S3 : SK w3 := f1.2.2.2
    rcases alt with ⟨u, s1, a1, a2, a3⟩ | ⟨a1, a2⟩
    · have h := h _ a1 S3
      rw [if_neg (by decide +kernel)] at h
      obtain ⟨g1, g2, g3, g4⟩ := CVL h3 a2.2.1 f1 a3
      have h := use_p S3 h (fun _ _ y => F61 S3 g1 y)
      by_cases c : 0 ≤ p4.toInt ∧ p4.toInt < (Pof (al w) u : Nat)
      · have h := ifb_t c h
        rw [h.2]
        refine ⟨k, q1, z, Or.inr ⟨a1, u, s1, a2, a3, ?_⟩⟩
        rw [decide_eq_true c]; exact h.1
      · have h := ifb_f c h
        rw [h.2]
        refine ⟨k, q1, z, Or.inr ⟨a1, u, s1, a2, a3, ?_⟩⟩
        rw [decide_eq_false c]; exact h.1
    · have h := h _ a1 S3
      rw [if_pos rfl] at h
      rw [h.2]
      exact ⟨k, q1, z, Or.inl ⟨a1, h.1⟩⟩
/-- the reference's isState with two people -/
theorem F245 (h3 : RL3 w) (z : PS X k 98 0 [.ref 0, .int p1, .int p2, .int p3, pm_dead, pm_dead, pm_dead] [] w q1 w1) (S2 : SK w2) (e : al w2 = al w) (h : PS X k2 245 0 [.ref 147, .int p1, .int p2, .int p3, .int p4, .int p5] [] w2 r w') : SK w' ∧ al w' = al w ∧ ((q1 = some (.int 0) ∧ r = some (.int 0)) ∨ ∃ (u : Nat) (s1 s2 : SN), q1 = some (.int 1) ∧ p1.toInt = u ∧ u < (al w 0).toInt.toNat ∧ LSt (Pof (al w) u) s1 s2 ∧ CSt w1 33 (5 + 5 * u) (Pof (al w) u) s1.1 s1.2.1 s1.2.2.1 s1.2.2.2 ∧ RSt w' s2.1 s2.2.1 s2.2.2.1 s2.2.2.2 ∧ r = some (.int (b2i (decide ((0 ≤ p4.toInt ∧ p4.toInt < (Pof (al w) u : Nat)) ∧ (0 ≤ p5.toInt ∧ p5.toInt < (Pof (al w) u : Nat))))))) := by
  cases k2 with
  | zero => exact (PS_0 h).elim
  | succ k2 =>
    obtain ⟨q6, w6, y6, h⟩ := U245_0 S2 h
    obtain ⟨f2, alt2⟩ := LOAD2 h3 z S2 e y6
    have S6 : SK w6 := f2.2.2.2
    have e6 : al w6 = al w := by rw [← e]; funext q; unfold al; rw [FM_a f2 (by simp)]
    rcases alt2 with ⟨b0, b2⟩ | ⟨u, t1, t2, b1, b2, b3, b4, b5, b6, b7⟩
    · have h := h _ b2 S6
      rw [if_pos rfl] at h
      rw [h.2]
      exact ⟨S6, e6, Or.inl ⟨b0, h.1⟩⟩
    · have h := h _ b2 S6
      rw [if_neg (by decide +kernel)] at h
      have u1 : u ≤ 1 := by have := h3.1.2.1.1.2.1; omega
      obtain ⟨v1, _, v3, v2, v4⟩ := VA_v h3.2 b4
      have h := use_p S6 h (fun _ _ y => F217v S6 b3 u1 y)
      have h := use_p S6 h (fun _ _ y => F221n (m := 610 + 132 * u) (L := Pof (al w) u) S6 (plV b3 u1) (by rw [e6]; exact v3) (by omega) y)
      by_cases c : 0 ≤ p4.toInt ∧ p4.toInt < (Pof (al w) u : Nat)
      · have h := ifb_t c h
        have h := use_p S6 h (fun _ _ y => F217v S6 b3 u1 y)
        have h := use_p S6 h (fun _ _ y => F221n (m := 610 + 132 * u) (L := Pof (al w) u) S6 (plV b3 u1) (by rw [e6]; exact v3) (by omega) y)
        by_cases c2 : 0 ≤ p5.toInt ∧ p5.toInt < (Pof (al w) u : Nat)
        · have h := ifb_t c2 h
          rw [h.2]
          refine ⟨S6, e6, Or.inr ⟨u, t1, t2, b1, b3, b4, b5, b6, b7, ?_⟩⟩
          rw [decide_eq_true ⟨c, c2⟩]; exact h.1
        · have h := ifb_f c2 h
          rw [h.2]
          refine ⟨S6, e6, Or.inr ⟨u, t1, t2, b1, b3, b4, b5, b6, b7, ?_⟩⟩
          rw [decide_eq_false (fun y => c2 y.2)]; exact h.1
      · have h := ifb_f c h
        rw [h.2]
        refine ⟨S6, e6, Or.inr ⟨u, t1, t2, b1, b3, b4, b5, b6, b7, ?_⟩⟩
        rw [decide_eq_false (fun y => c y.1)]; exact h.1
/-- over -/
theorem RC_12 (h3 : RL3 w) (h1 : PS X k 100 0 [.ref 0, .int p1, .int p2, .int p3, .int p4] [] w r w1) (h2 : PS X k2 248 0 [.ref 147, .int p1, .int p2, .int p3, .int p4] [] w1 r2 w2) : r2 = r := by
  have hS := h3.1.1
  cases k with
  | zero => exact (PS_0 h1).elim
  | succ k =>
    cases k2 with
    | zero => exact (PS_0 h2).elim
    | succ k2 =>
      obtain ⟨q1, w3, z, h1⟩ := U100_0 hS h1
      obtain ⟨k', q2, z2, alt⟩ := F101 h3 z
      obtain ⟨f1, _⟩ := F98 h3 z2
      have S3 : SK w3 := f1.2.2.2
      have ea := FM_al f1
      have none0 : (q2 = some (.int 0) ∨ ∃ u : Nat, p1.toInt = u ∧ ¬ (0 ≤ p4.toInt ∧ p4.toInt < (Pof (al w) u : Nat))) → q1 = some (.int 0) → r2 = r := by
        intro hq h0
        have h1 := h1 _ h0 S3
        rw [if_pos rfl] at h1
        rw [h1.2] at h2
        obtain ⟨q6, w6, y6, h2⟩ := U248_0 S3 h2
        obtain ⟨S6, e6, alt2⟩ := F245 h3 z2 S3 ea y6
        have : q6 = some (.int 0) := by
          rcases alt2 with ⟨_, x⟩ | ⟨u, t1, t2, b1, b3, b4, b5, b6, b7, b8⟩
          · exact x
          · rcases hq with x | ⟨u', x1, x2⟩
            · rw [b1] at x; exact absurd x i10
            · have e : u' = u := by omega
              rw [e] at x2
              rw [b8, decide_eq_false (fun y => x2 y.1)]; rfl
        have h2 := h2 _ this S6
        rw [if_pos rfl] at h2
        rw [h2.1, h1.1]
      rcases alt with ⟨a0, a1⟩ | ⟨a1, u, s1, a2, a3, a4⟩
      · exact none0 (Or.inl a0) a1
      · by_cases c : 0 ≤ p4.toInt ∧ p4.toInt < (Pof (al w) u : Nat)
        · rw [decide_eq_true c] at a4
          have h1 := h1 _ a4 S3
          rw [if_neg (by decide +kernel)] at h1
          obtain ⟨v1, _, v3, v2, v4⟩ := VA_v h3.2 a2.2.1
          obtain ⟨g1, g2, g3, g4⟩ := CVL h3 a2.2.1 f1 a3
          obtain ⟨x, hx⟩ : ∃ x : Nat, p4.toInt = x := ⟨p4.toInt.toNat, by omega⟩
          have h1 := use_p S3 h1 (fun _ _ y => F94 S3 (by decide +kernel) g1 v1 hx (by omega) y)
          rw [h1.2] at h2
          obtain ⟨q6, w6, y6, h2⟩ := U248_0 S3 h2
          obtain ⟨S6, e6, alt2⟩ := F245 h3 z2 S3 ea y6
          rcases alt2 with ⟨b0, _⟩ | ⟨u', t1, t2, b1, b3, b4, b5, b6, b7, b8⟩
          · rw [a1] at b0; exact absurd b0 i10
          · have eu : u' = u := by have := a2.1; omega
            subst eu
            have u1 : u' ≤ 1 := by have := h3.1.2.1.1.2.1; omega
            rw [decide_eq_true ⟨c, c⟩] at b8
            have h2 := h2 _ b8 S6
            rw [if_neg (by decide +kernel)] at h2
            have h2 := use_p S6 h2 (fun _ _ y => F217v S6 b3 u1 y)
            have h2 := use_p S6 h2 (fun _ _ y => F242 S6 u1 (plV b3 u1) (by rw [e6]; exact v3) v1 hx (by omega) y)
            have ed : dR w6 = dA w3 33 := by
              rw [show dR w6 = t2.1 from b7.1, b5.1]
              exact b6.2.2.1.symm
            rw [h2.1, h1.1, ed]
        · rw [decide_eq_false c] at a4
          exact none0 (Or.inr ⟨u, a2.1, c⟩) a4
end HLA
