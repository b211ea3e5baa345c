/-! ===== rest ===== -/
section JTA
variable {X : pm_X} {k k2 : Nat} {w0 w w1 w2 w3 w4 w5 w6 wj w' : pm_W} {r r2 q0 q1 q2 : Option Value} {p1 p2 p3 p4 p5 p6 i1 i2 i3 i4 i5 i6 i7 i8 i9 z z1 z2 so x : Int32} {i v j m c u P t s b d p q fx Q I J K T W N κ bm n : Nat} {l l6 l10 : Int64} {e g y : Int} {fe rk : Nat → Int} {E : Nat → Nat} {u9 u10 u12 : Value} {V : Nat → Nat → Prop} {R : Nat → Nat → Int} {a : Nat → Int32} {s1 t1 t2 : SN}
theorem RC_27 (h3 : RL3 w) (h1 : PS X k 145 0 [.ref 0, .int p1, .int p2, .int p3, .int p4, .int p5] [] w r w1) (h2 : PS X k2 273 0 [.ref 147, .int p1, .int p2, .int p3, .int p4, .int p5, pm_dead, pm_dead] [] w1 r2 w2) : r2 = r := by
  have hS := h3.1.1
  cases k with
  | zero => exact (PS_0 h1).elim
  | succ k =>
    cases k2 with
    | zero => exact (PS_0 h2).elim
    | succ k2 =>
      obtain ⟨q1, w3, z, h1⟩ := U145_0 hS h1
      obtain ⟨k', q4, zz, alt⟩ := F141 h3 z
      obtain ⟨f1, _⟩ := F98 h3 zz
      have S3 : SK w3 := f1.2.2.2
      have ea := FM_al f1
      rcases alt with ⟨a0, a1⟩ | ⟨a1, u, s1, a2, a3, a4⟩
      · have h1 := h1 _ a1 S3
        rw [if_pos rfl] at h1
        rw [h1.2] at h2
        obtain ⟨q6, w6, y6, h2⟩ := U273_0 S3 h2
        obtain ⟨S6, e6, alt2⟩ := F265 h3 zz S3 ea y6
        rcases alt2 with ⟨_, x⟩ | ⟨u, t1, t2, x, _⟩
        · have h2 := h2 _ x S6
          rw [if_pos rfl] at h2
          rw [h1.1, h2.1]
        · rw [a0] at x; exact absurd x.symm i10
      · have hu := a2.2.1
        obtain ⟨v1, v1', v3, v2, v4⟩ := VA_v h3.2 hu
        have u1 : u ≤ 1 := by have := h3.1.2.1.1.2.1; omega
        have h1 := h1 _ a4 S3
        -- the reference, loaded
        have ref : ∀ w9, SK w9 → al w9 = al w → w1 = w9 → ∃ (w6 : pm_W) (t1 t2 : SN), SK w6 ∧ al w6 = al w ∧ LD3 w w3 w6 p1 u t1 t2 ∧ (¬ (0 ≤ p4.toInt ∧ p4.toInt < (Wof (al w) u : Nat)) → r2 = some (.int (-1))) ∧ ((0 ≤ p4.toInt ∧ p4.toInt < (Wof (al w) u : Nat)) → (¬ (0 ≤ p5.toInt ∧ p5.toInt < (Pof (al w) u : Nat)) → r2 = some (.int (-1))) ∧ ((0 ≤ p5.toInt ∧ p5.toInt < (Pof (al w) u : Nat)) → PS X k2 273 32 [.ref 147, .int p1, .int p2, .int p3, .int p4, .int p5, .int 99, pm_dead] [] w6 r2 w2)) := by
          intro w9 S9 e9 hw
          rw [hw] at h2
          obtain ⟨q6, w6, y6, h2⟩ := U273_0 S9 h2
          obtain ⟨S6, e6, alt2⟩ := F265 h3 zz S9 e9 y6
          rcases alt2 with ⟨x, _⟩ | ⟨u', t1, t2, _, hLD, x⟩
          · rw [a1] at x; exact absurd x i10
          · have eu : u' = u := by have := hLD.1; have := a2.1; omega
            rw [eu] at x hLD
            have h2 := h2 _ x S6
            refine ⟨w6, t1, t2, S6, e6, hLD, fun c => ?_, fun c => ?_⟩
            · have h2 := ifb_f c h2
              exact h2.1
            · have h2 := ifb_t c h2
              have h2 := use_p S6 h2 (fun _ _ y => F217v S6 hLD.1 u1 y)
              have h2 := use_p S6 h2 (fun _ _ y => F221n (m := 610 + 132 * u) (L := Pof (al w) u) S6 (plV hLD.1 u1) (by rw [e6]; exact v3) (by omega) y)
              refine ⟨fun d => ?_, fun d => ?_⟩
              · have h2 := ifb_f d h2
                exact h2.1
              · exact ifb_t d h2
        by_cases c : 0 ≤ p4.toInt ∧ p4.toInt < (Wof (al w) u : Nat)
        · have h1 := ifb_t c h1
          obtain ⟨c1, c2, c3, c4⟩ := CVL h3 hu f1 a3
          rw [c3] at c1 h1
          have h1 := use_p S3 h1 (fun _ _ y => F61 S3 c1 y)
          by_cases d : 0 ≤ p5.toInt ∧ p5.toInt < (Pof (al w) u : Nat)
          · have h1 := ifb_t d h1
            obtain ⟨κ, hκ⟩ : ∃ κ : Nat, p4.toInt = κ := ⟨p4.toInt.toNat, by omega⟩
            obtain ⟨p, hp⟩ : ∃ p : Nat, p5.toInt = p := ⟨p5.toInt.toNat, by omega⟩
            obtain ⟨q7, w8, y8, h1⟩ := h1
            obtain ⟨f8, zc, b1, b2⟩ := F146 h3 f1 hu a3 hκ (by omega) hp (by omega) y8
            have S8 := f8.2.2.2
            have hW := h1 _ b1 S8
            obtain ⟨w6, t1, t2, S6, e6, hLD, _, g⟩ := ref w8 S8 (by rw [al_FM f8 (by decide), ea]) hW.2
            have g2 := (g c).2 d
            obtain ⟨d3, d4, d5, d6, d7, d8, d9⟩ := id hLD
            have ed : dR w6 = s1.1 := by
              have x1 : dA w3 33 = t1.1 := d7.2.2.1
              rw [show dR w6 = t2.1 from d8.1, d6.1, ← x1]
              exact a3.2.2.1
            have era : rmA w6 u = fun i j => (rmI (Vof (al w) u) s1.1 i j).toInt := by
              funext i j
              unfold rmA
              rw [ed, e6]
              rfl
            obtain ⟨zr, o1, o2⟩ := (F273_l (w0 := w6) (u := u) (κ := κ) (p := p) (a := wAf (al w) u κ) (b := wBf (al w) u κ) (V := VWt (al w) u κ s1) S6 (by rw [e6]; exact h3.2) (by rw [e6]; exact hu) u1 d3 hκ (by rw [e6]; omega) hp (by rw [e6]; omega) (by rw [e6]) (by rw [e6]) (by rw [era, e6]) k2).1 w6 99 _ (FM_refl S6) (by decide +kernel) (by decide +kernel) (fun f f0 f1 => by
              have : (99 : Int32).toInt = 99 := by decide +kernel
              omega) g2
            rw [e6] at o2
            rw [hW.1, o1, Int32.toInt_inj.mp (GWt_uq o2 b2)]
          · have h1 := ifb_f d h1
            obtain ⟨w6, t1, t2, S6, e6, hLD, _, g⟩ := ref w3 S3 ea h1.2
            rw [h1.1, (g c).1 d]
        · have h1 := ifb_f c h1
          obtain ⟨w6, t1, t2, S6, e6, hLD, g, _⟩ := ref w3 S3 ea h1.2
          rw [h1.1, g c]
end JTA
