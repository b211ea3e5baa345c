/-! ===== early, asked on both sides ===== -/
section IBE
variable {X : pm_X} {k k2 : Nat} {w0 w w1 w2 w3 w4 w' : pm_W} {r r2 q0 q1 q2 : Option Value} {p p1 p2 p3 p4 p5 p6 p7 i1 i2 i3 sl z z1 z2 : Int32} {i v j m u u2 P t s b Q B rr len o3 N K W κ c x y : Nat} {n : Int32} {V V' D G G1 G2 : Nat → Int32} {s0 s1 s2 t1 t2 : SN} {a : Nat → Int32}
theorem F245r (hS : SK w) (hA : RA (al w)) (hV : VAa (al w)) (h : PS X k 245 0 [.ref 147, .int p1, .int p2, .int p3, .int p4, .int p5] [] w r w') : SK w' ∧ al w' = al w ∧ ∃ x : Int32, r = some (.int x) := by
  cases k with
  | zero => exact (PS_0 h).elim
  | succ k =>
    obtain ⟨q6, w6, y6, h⟩ := U245_0 hS h
    obtain ⟨f2, alt2⟩ := F246 hS hA hV y6
    have S6 : SK w6 := f2.2.2.2
    have e6 : al w6 = al w := by funext q; unfold al; rw [FM_a f2 (by simp)]
    rcases alt2 with ⟨u, s, b2, b3, b4⟩ | ⟨b2, _⟩
    · have h := h _ b2 S6
      rw [if_neg (by decide +kernel)] at h
      have b4' := b3.1
      have b5 := b3.2.1
      have u1 : u ≤ 1 := by have := hA.2.1; omega
      obtain ⟨v1, _, v3, v2, v4⟩ := VA_v hV b5
      have h := use_p S6 h (fun _ _ y => F217v S6 b4' u1 y)
      have h := use_p S6 h (fun _ _ y => F221n (m := 610 + 132 * u) (L := Pof (al w) u) S6 (plV b4' u1) (by rw [e6]; exact v3) (by omega) y)
      by_cases c : 0 ≤ p4.toInt ∧ p4.toInt < (Pof (al w) u : Nat)
      · have h := ifb_t c h
        have h := use_p S6 h (fun _ _ y => F217v S6 b4' u1 y)
        have h := use_p S6 h (fun _ _ y => F221n (m := 610 + 132 * u) (L := Pof (al w) u) S6 (plV b4' u1) (by rw [e6]; exact v3) (by omega) y)
        by_cases c2 : 0 ≤ p5.toInt ∧ p5.toInt < (Pof (al w) u : Nat)
        · have h := ifb_t c2 h
          rw [h.2]
          exact ⟨S6, e6, _, h.1⟩
        · have h := ifb_f c2 h
          rw [h.2]
          exact ⟨S6, e6, _, h.1⟩
      · have h := ifb_f c h
        rw [h.2]
        exact ⟨S6, e6, _, h.1⟩
    · have h := h _ b2 S6
      rw [if_pos rfl] at h
      rw [h.2]
      exact ⟨S6, e6, _, h.1⟩
theorem F300_45 (hS : SK w) (h : PS X k 300 45 [.ref 147, .int p1, .int p2, .int p3, .int p4, .int p5, .int p6, pm_dead, pm_dead, pm_dead, pm_dead, pm_dead, pm_dead] [] w r w') : r = some (.int (-1)) := by
  cases k with
  | zero => exact (PS_0 h).elim
  | succ k => exact (U300_45 hS h).1
/-- early -/
theorem RC_28 (h3 : RL3 w) (h1 : PS X k 148 0 [.ref 0, .int p1, .int p2, .int p3, .int p4, .int p5, .int p6] [] w r w1) (h2 : PS X k2 300 0 [.ref 147, .int p1, .int p2, .int p3, .int p4, .int p5, .int p6, pm_dead, pm_dead, pm_dead, pm_dead, pm_dead, pm_dead] [] w1 r2 w2) : r2 = r := by
  have hS := h3.1.1
  have e99 : (99 : Int32).toInt = 99 := by decide +kernel
  cases k with
  | zero => exact (PS_0 h1).elim
  | succ k =>
    cases k2 with
    | zero => exact (PS_0 h2).elim
    | succ k2 =>
      have h1 := U148_0 hS h1
      have no : ¬ (1 ≤ p6.toInt ∧ p6.toInt ≤ 99) → r = some (.int (-1)) ∧ w1 = w → r2 = r := by
        rintro hn ⟨a1, a2⟩
        subst w1
        obtain ⟨q6, w6, y6, h2⟩ := U300_0 hS h2
        obtain ⟨S6, e6, x, hx⟩ := F245r hS h3.1.2.1.1 h3.2 y6
        have h2 := h2 _ hx S6
        rw [a1]
        by_cases c0 : x = 0
        · rw [if_pos c0] at h2; exact F300_45 S6 h2
        · rw [if_neg c0] at h2
          by_cases c1 : p4 = p5
          · rw [if_pos c1] at h2; exact F300_45 S6 h2
          · rw [if_neg c1] at h2
            have h2 := use_p S6 h2 (fun _ _ y => F199 S6 y)
            rw [isI_t o32 e99] at h2
            exact F300_45 S6 (ifb_f hn h2)
      by_cases c1 : p6 < 1
      · rw [if_pos c1] at h1
        rw [Int32.lt_iff_toInt_lt, o32] at c1
        exact no (by omega) h1
      · rw [if_neg c1] at h1
        rw [Int32.lt_iff_toInt_lt, o32] at c1
        by_cases c2 : 99 < p6
        · rw [if_pos c2] at h1
          rw [Int32.lt_iff_toInt_lt, e99] at c2
          exact no (by omega) h1
        · rw [if_neg c2] at h1
          rw [Int32.lt_iff_toInt_lt, e99] at c2
          obtain ⟨q1, w3, z, h1⟩ := h1
          obtain ⟨k', q2, zz, alt⟩ := F97 h3 z
          obtain ⟨f1, _⟩ := F98 h3 zz
          have S3 : SK w3 := f1.2.2.2
          have ea := FM_al f1
          have none0 : (q2 = some (.int 0) ∨ ∃ u : Nat, p1.toInt = u ∧ ¬ PR2 (Pof (al w) u) p4 p5) → q1 = some (.int 0) → r2 = r := by
            intro hq h0
            have h1 := h1 _ h0 S3
            rw [if_pos rfl] at h1
            rw [h1.2] at h2
            obtain ⟨q6, w6, y6, h2⟩ := U300_0 S3 h2
            obtain ⟨S6, e6, alt2⟩ := F245 h3 zz S3 ea y6
            have : q6 = some (.int 0) := by
              rcases alt2 with ⟨_, x⟩ | ⟨u, t1, t2, b1, b3, b4, b5, b6, b7, b8⟩
              · exact x
              · rcases hq with x | ⟨u', x1, x2⟩
                · rw [b1] at x; exact absurd x i10
                · have e : u' = u := by omega
                  rw [e] at x2
                  rw [b8, decide_eq_false (show ¬ ((0 ≤ p4.toInt ∧ p4.toInt < (Pof (al w) u : Nat)) ∧ (0 ≤ p5.toInt ∧ p5.toInt < (Pof (al w) u : Nat))) from x2)]; rfl
            have h2 := h2 _ this S6
            rw [if_pos rfl] at h2
            rw [h1.1]
            exact F300_45 S6 h2
          rcases alt with ⟨a0, a1⟩ | ⟨a1, u, s1, a2, a3, ⟨a4, a5⟩ | ⟨a4, a5⟩⟩
          · exact none0 (Or.inl a0) a1
          · have h1 := h1 _ a5 S3
            rw [if_neg (by decide +kernel)] at h1
            have hu := a2.2.1
            obtain ⟨v1, _, v3, v2, v4⟩ := VA_v h3.2 hu
            have u1 : u ≤ 1 := by have := h3.1.2.1.1.2.1; omega
            have okv := okV_n u1
            obtain ⟨g1, g2, g3, g4⟩ := CVL h3 hu f1 a3
            rw [g3] at g1
            have hd : dA w3 33 = s1.1 := a3.2.2.1
            obtain ⟨⟨d1, d2⟩, d3, d4⟩ := id a4
            obtain ⟨x, hx⟩ : ∃ x : Nat, p4.toInt = x := ⟨p4.toInt.toNat, by omega⟩
            obtain ⟨y, hy⟩ : ∃ y : Nat, p5.toInt = y := ⟨p5.toInt.toNat, by omega⟩
            -- the reference's run, behind whatever leaves the world as it is
            have ref : w1 = w3 → ∃ w6, SK w6 ∧ al w6 = al w ∧ dR w6 = s1.1 ∧ if p4 = p5 then r2 = some (.int (-1)) else if p6 ≤ s1.1 (9 * x + y) then ∃ z, r2 = some (.int z) ∧ EAR (edX (Pof (al w) u) (Vof (al w) u) s1.1 p6 x y) (Pof (al w) u) x y z else r2 = some (.int (-1)) := by
              intro ew
              rw [ew] at h2
              obtain ⟨q6, w6, y6, h2⟩ := U300_0 S3 h2
              obtain ⟨S6, e6, alt2⟩ := F245 h3 zz S3 ea y6
              rcases alt2 with ⟨x0, _⟩ | ⟨u', t1, t2, b1, b3, b4, b5, b6, b7, b8⟩
              · rw [a1] at x0; exact absurd x0 i10
              · have eu : u' = u := by have := a2.1; omega
                subst eu
                rw [decide_eq_true (show (0 ≤ p4.toInt ∧ p4.toInt < (Pof (al w) u' : Nat)) ∧ (0 ≤ p5.toInt ∧ p5.toInt < (Pof (al w) u' : Nat)) from a4)] at b8
                have h2 := h2 _ b8 S6
                rw [if_neg (by decide +kernel)] at h2
                have ed : dR w6 = s1.1 := by
                  have x1 : dA w3 33 = t1.1 := b6.2.2.1
                  rw [show dR w6 = t2.1 from b7.1, b5.1, ← x1, hd]
                refine ⟨w6, S6, e6, ed, ?_⟩
                by_cases cc : p4 = p5
                · rw [if_pos cc] at h2 ⊢
                  exact F300_45 S6 h2
                · rw [if_neg cc] at h2 ⊢
                  have h2 := use_p S6 h2 (fun _ _ y => F199 S6 y)
                  rw [isI_t o32 e99] at h2
                  have h2 := ifb_t (show 1 ≤ p6.toInt ∧ p6.toInt ≤ 99 from ⟨by omega, by omega⟩) h2
                  have h2 := use_p S6 h2 (fun _ _ t => F232n S6 hx hy (by omega) (by omega) t)
                  rw [ed] at h2
                  by_cases c5 : p6 ≤ s1.1 (9 * x + y)
                  · rw [if_pos c5] at h2 ⊢
                    have h2 := use_p S6 h2 (fun _ _ y => F217v S6 b3 u1 y)
                    have m0 : MSK (1 <<< (p4 &&& 31)) 9 (RCH (edX (Pof (al w) u') (fun k => al w6 (610 + 132 * u' + k)) (dR w6) p6 x y) (Pof (al w) u') x 0) := MSK_b hx (by omega) (by decide)
                    have hne : x ≠ y := fun e => cc (Int32.toInt_inj.mp (by rw [hx, hy, e]))
                    obtain ⟨zr, x1, x2⟩ := (F300_l S6 u1 (plV b3 u1) (by rw [e6]; exact v3) v1 hx hy (by omega) (by omega) rfl k2).1 0 _ _ _ _ _ o32 (by omega) m0 (decide_eq_false (fun e => hne e.symm)) h2
                    rw [e6, ed] at x2
                    exact ⟨zr, x1, x2⟩
                  · rw [if_neg c5] at h2 ⊢
                    exact F300_45 S6 h2
            by_cases cc : p4 = p5
            · rw [if_pos cc] at h1
              obtain ⟨w6, _, _, _, q⟩ := ref h1.2
              rw [if_pos cc] at q
              rw [q, h1.1]
            · rw [if_neg cc] at h1
              obtain ⟨c9, hc9, h1⟩ := use_z S3 h1 (fun _ _ t => F52n S3 hx hy (by omega) (by omega) t)
              obtain ⟨_, h1⟩ := h1
              have eg : aG w3 39 c9 = s1.1 (9 * x + y) := by
                rw [aG_n hc9, ← hd]
                rfl
              rw [eg] at h1
              by_cases c5 : p6 ≤ s1.1 (9 * x + y)
              · rw [if_pos c5] at h1
                obtain ⟨q5, w5, y5, h5⟩ := h1
                have hne : x ≠ y := fun e => cc (Int32.toInt_inj.mp (by rw [hx, hy, e]))
                obtain ⟨⟨zc, x1, x2⟩, x3⟩ := F149 S3 (by decide +kernel) okv g3 g1 v1 hx hy (by omega) (by omega) hne y5
                have h1 := h5 _ x1 (by rw [x3]; exact S3)
                obtain ⟨w6, _, _, _, q⟩ := ref (by rw [h1.2, x3])
                rw [if_neg cc, if_pos c5] at q
                obtain ⟨zr, y1, y2⟩ := q
                rw [hd] at x2
                have x2 : EAR (edX (Pof (al w) u) (Vof (al w) u) s1.1 p6 x y) (Pof (al w) u) x y zc := EAR_cg (fun a ha b => edX_cg v1 (fun q hq => (g4 q hq).symm) (by omega)) x2
                rw [y1, h1.1, EAR_2 y2 x2]
              · rw [if_neg c5] at h1
                obtain ⟨w6, _, _, _, q⟩ := ref h1.2
                rw [if_neg cc, if_neg c5] at q
                rw [q, h1.1]
          · exact none0 (Or.inr ⟨u, a2.1, a4⟩) a5
end IBE
