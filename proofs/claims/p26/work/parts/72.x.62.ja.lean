/-! ===== tight, asked on both sides ===== -/
section JAA
variable {X : pm_X} {k k2 : Nat} {w0 w w1 w2 w3 w4 w5 w6 wj w' : pm_W} {r r2 q0 q1 q2 : Option Value} {p1 p2 p3 p4 p5 i0 i1 i2 i3 i4 i5 i6 i7 i8 z z1 z2 x y : Int32} {i v j m u P t s b Q I J K T p W M N κ : Nat} {R R' C ask c : Nat → Nat → Int} {e g d sl : Int} {A B : Nat → Nat} {n o : Nat → Int} {S : Nat → Bool} {a : Nat → Int32} {wv : Nat → Int32} {s1 t1 t2 : SN}
/-- the reference: worth with one more room -/
theorem F308 (hS : SK w) (hV : WSR w u P W A B n) (hp : p1.toInt = (610 + 132 * u : Nat)) (hwb : ∀ κ, κ < W → 0 ≤ (wtP (al w) u κ 3).toInt ∧ (wtP (al w) u κ 3).toInt ≤ 99) (h : PS X k 308 0 [.ref 147, .int p1, .int p2, .int p3, pm_dead] [] w r w') : FM [(147, 31), (147, 32)] [160, 161, 162, 163, 164] w w' ∧ gI w' 147 31 = -1 ∧ gI w' 147 32 = -1 ∧ ∃ z : Int32, r = some (.int z) ∧ z.toInt = vlS (fun κ => wtP (al w) u κ 3) W (bstF (fun s => CANH (rmX (rmA w u) (-1) p2.toInt p3.toInt) P W A B n s 0) (bet (fun κ => wtP (al w) u κ 3) W) (2 ^ W - 1)) := by
  cases k with
  | zero => exact (PS_0 h).elim
  | succ k =>
    have h := U308_0 hS h _ rfl _ rfl
    have f1 : FM [(147, 31), (147, 32)] [160, 161, 162, 163, 164] w (sI w 147 31 p2) := FM_sI hS (by decide)
    have S1 := f1.2.2.2
    have f2 : FM [(147, 31), (147, 32)] [160, 161, 162, 163, 164] (sI w 147 31 p2) (sI (sI w 147 31 p2) 147 32 p3) := FM_sI S1 (by decide)
    have S2 := f2.2.2.2
    have f12 := FM_trans f1 f2
    have g1 : gI (sI (sI w 147 31 p2) 147 32 p3) 147 31 = p2 := by rw [gI_sI_ne (by decide), gI_sI (SK_isF hS (by decide +kernel))]
    have g2 : gI (sI (sI w 147 31 p2) 147 32 p3) 147 32 = p3 := gI_sI (SK_isF S1 (by decide +kernel))
    have e2 : al (sI (sI w 147 31 p2) 147 32 p3) = al w := al_FM f12 (by decide)
    obtain ⟨x, w8, f8, hx, h⟩ := F287v (sl := 0) S2 (WSR_fm hV f12 (by decide) (by decide)) hp (by rw [e2]; exact hwb) z32 ⟨by omega, by omega⟩ h
    rw [e2, rmA_fm f12 (by decide) (by decide), g1, g2, m1i] at hx
    have S8 := f8.2.2.2
    have h := h _ rfl _ rfl
    have f3 : FM [(147, 31), (147, 32)] [160, 161, 162, 163, 164] w8 (sI w8 147 31 (-1)) := FM_sI S8 (by decide)
    have S3 := f3.2.2.2
    have f4 : FM [(147, 31), (147, 32)] [160, 161, 162, 163, 164] (sI w8 147 31 (-1)) (sI (sI w8 147 31 (-1)) 147 32 (-1)) := FM_sI S3 (by decide)
    rw [h.2]
    refine ⟨FM_trans f12 (FM_trans (FM_mono f8 (by intro p hp; cases hp) (fun _ h => h)) (FM_trans f3 f4)), ?_, gI_sI (SK_isF S3 (by decide +kernel)), x, h.1, hx⟩
    rw [gI_sI_ne (by decide), gI_sI (SK_isF S8 (by decide +kernel))]
theorem rmX_1 {x y : Nat} {f : Nat → Nat → Int} (hx : p4.toInt = x) (hy : p5.toInt = y) (i j : Nat) : rmX f (-1) p4.toInt p5.toInt i j = f i j + (if i = x ∧ j = y then 1 else 0) := by
  unfold rmX
  rw [if_neg (by omega), hx, hy]
  by_cases c : i = x ∧ j = y
  · rw [if_pos c, if_pos (by omega)]
  · rw [if_neg c, if_neg (by omega)]
theorem RC_33 (h3 : RL3 w) (hmf : gI w 147 31 = -1) (hmt : gI w 147 32 = -1) (h1 : PS X k 187 0 [.ref 0, .int p1, .int p2, .int p3, .int p4, .int p5] [] w r w1) (h2 : PS X k2 307 0 [.ref 147, .int p1, .int p2, .int p3, .int p4, .int p5, pm_dead] [] w1 r2 w2) : r2 = r ∧ gI w2 147 31 = -1 ∧ gI w2 147 32 = -1 := by
  have hS := h3.1.1
  cases k with
  | zero => exact (PS_0 h1).elim
  | succ k =>
    cases k2 with
    | zero => exact (PS_0 h2).elim
    | succ k2 =>
      have h1 := U187_0 hS h1
      by_cases c : p4 = p5
      · rw [if_pos c] at h1
        rw [h1.2] at h2
        have h2 := U307_0 hS h2
        rw [if_pos c] at h2
        rw [h2.1, h1.1, h2.2]
        exact ⟨rfl, hmf, hmt⟩
      · rw [if_neg c] at h1
        obtain ⟨q1, w3, z, h1⟩ := h1
        obtain ⟨k', q2, zz, alt⟩ := F97 h3 z
        obtain ⟨f1, _⟩ := F98 h3 zz
        have S3 : SK w3 := f1.2.2.2
        have ea := FM_al f1
        have none0 : (q2 = some (.int 0) ∨ ∃ u : Nat, p1.toInt = u ∧ ¬ PR2 (Pof (al w) u) p4 p5) → q1 = some (.int 0) → r2 = r ∧ gI w2 147 31 = -1 ∧ gI w2 147 32 = -1 := by
          intro hq h0
          have h1 := h1 _ h0 S3
          rw [if_pos rfl] at h1
          rw [h1.2] at h2
          have h2 := U307_0 S3 h2
          rw [if_neg c] at h2
          obtain ⟨q6, w6, y6, h2⟩ := h2
          obtain ⟨S6, e6, alt2⟩ := F245 h3 zz S3 ea y6
          have hm6 := F245m S3 (by rw [ea]; exact h3.1.2.1.1) (by rw [ea]; exact h3.2) y6
          have : q6 = some (.int 0) := by
            rcases alt2 with ⟨_, x⟩ | ⟨u, t1, t2, b1, b3, b4, b5, b6, b7, b8⟩
            · exact x
            · rcases hq with x | ⟨u', x1, x2⟩
              · rw [b1] at x; exact absurd x i10
              · have e : u' = u := by omega
                rw [e] at x2
                rw [b8, decide_eq_false (show ¬ ((0 ≤ p4.toInt ∧ p4.toInt < (Pof (al w) u : Nat)) ∧ (0 ≤ p5.toInt ∧ p5.toInt < (Pof (al w) u : Nat))) from x2)]; rfl
          have h2 := h2 _ this S6
          rw [if_pos rfl] at h2
          rw [h1.1, h2.1, h2.2, hm6.1, hm6.2, FM_i f1 (by simp), FM_i f1 (by simp)]
          exact ⟨rfl, hmf, hmt⟩
        rcases alt with ⟨a0, a1⟩ | ⟨a1, u, s1, a2, a3, ⟨a4, a5⟩ | ⟨a4, a5⟩⟩
        · exact none0 (Or.inl a0) a1
        · have h1 := h1 _ a5 S3
          rw [if_neg (by decide +kernel)] at h1
          have hu := a2.2.1
          have bd : ∀ q, 0 ≤ (s1.1 q).toInt ∧ (s1.1 q).toInt ≤ 99 := (LDR_2 h3.2 a2 a2).2.2.2.2.2.1.1.1
          obtain ⟨⟨d1, d2⟩, d3, d4⟩ := id a4
          obtain ⟨x, hx⟩ : ∃ x : Nat, p4.toInt = x := ⟨p4.toInt.toNat, by omega⟩
          obtain ⟨y, hy⟩ : ∃ y : Nat, p5.toInt = y := ⟨p5.toInt.toNat, by omega⟩
          obtain ⟨q4, w5, y5, h5⟩ := h1
          obtain ⟨_, _, _, _, _, _, b7, b8⟩ := LOOK3 h3 f1 hu a3 bd y5
          have hL := LKC h3 f1 a2 a3 y5
          obtain ⟨b1, u', s1', b2, b3, b4, b5, b6, f5, b9, b10, b12, b11⟩ := LK5_c h3 zz a1 y5
          have eu : u' = u := by have := a2.1; omega
          subst eu
          have S5 : SK w5 := f5.2.2.2
          obtain ⟨q6, w7, y7, h7⟩ := h5 b1 S5
          obtain ⟨o1, f7, hN⟩ := F188 S5 hL y7
          have S7 := f7.2.2.2
          have er7 : rmW w7 = rmW w5 := rmW_g f7 (by decide)
          have hL7 := LKw_g hL f7 (by decide) (by decide)
          obtain ⟨q8, w9, y9, h9⟩ := h7 o1 S7
          rw [← er7] at hN
          obtain ⟨f9, _, zc, c1, c2⟩ := F189 S7 hL7 (fun i j hi hj => by rw [er7, b7 i j hi hj]; have := b8 i j hi hj; omega) hN rfl hx hy (by omega) (by omega) y9
          have S9 := f9.2.2.2
          have hW := h9 _ c1 S9
          rw [hW.2] at h2
          have e9 : al w9 = al w := by rw [al_FM f9 (by decide), al_FM f7 (by decide), al_FM f5 (by decide), ea]
          have h2 := U307_0 S9 h2
          rw [if_neg c] at h2
          obtain ⟨q6', w6, y6, h2⟩ := h2
          obtain ⟨S6, e6, alt2⟩ := F245 h3 zz S9 e9 y6
          have hm := F245m S9 (by rw [e9]; exact h3.1.2.1.1) (by rw [e9]; exact h3.2) y6
          have hm6 : gI w6 147 31 = gI w 147 31 := by rw [hm.1, FM_i f9 (by simp), FM_i f7 (by simp), FM_i f5 (by simp), FM_i f1 (by simp)]
          rcases alt2 with ⟨gg1, _⟩ | ⟨u2, t1, t2, _, g1, g3, g4, g5, g6, g8⟩
          · rw [a1] at gg1; exact absurd gg1 i10
          · have eu : u2 = u' := by omega
            subst eu
            have hN3 : t1.2.2.2 ≤ 30 := by
              have x1 := g5.2.2.2.2.2
              have x2 := a3.2.2.2.2.2
              have x3 := LDR_N h3.2 h3.1.2.1.1 a2
              omega
            have hK := b11 w6 t1 t2 ⟨g1, g3, b4, g4, g5, g6, hN3⟩ e6 hm6
            have hp := plV g1 b4
            rw [decide_eq_true (show (0 ≤ p4.toInt ∧ p4.toInt < (Pof (al w) u2 : Nat)) ∧ (0 ≤ p5.toInt ∧ p5.toInt < (Pof (al w) u2 : Nat)) from a4)] at g8
            have h2 := h2 _ g8 S6
            rw [if_neg (by decide +kernel)] at h2
            have h2 := use_p S6 h2 (fun _ _ y => F217v S6 g1 b4 y)
            obtain ⟨q10, w8, y8, h2⟩ := h2
            obtain ⟨f8, m1, m2, x9, n0, n1⟩ := F308 S6 hK.2.1 hp (by rw [e6]; exact hL.2.2.2.2) y8
            have S8 := f8.2.2.2
            have h2 := h2 _ n0 S8
            have e8 : al w8 = al w := by rw [al_FM f8 (by decide), e6]
            obtain ⟨x10, w11, f11, n2, h2⟩ := F287v (sl := 0) S8 (WSR_fm hK.2.1 f8 (by decide) (by decide)) hp (by rw [e8]; exact hL.2.2.2.2) z32 ⟨by omega, by omega⟩ h2
            rw [e6] at n1
            rw [e8, rmA_fm f8 (by decide) (by decide), m1, m2, m1i] at n2
            rw [bstF_cg (fun s => (can_2 hK s).symm)] at n2
            rw [er7] at c2
            have ec : ∀ s, CANH (rmX (rmA w6 u2) (-1) p4.toInt p5.toInt) (Pof (al w) u2) (Wof (al w) u2) (wAf (al w) u2) (wBf (al w) u2) (wNf (al w) u2) s 0 ↔ CANH (fun i j => rmW w5 i j + (if i = x ∧ j = y then 1 else 0)) (Pof (al w) u2) (Wof (al w) u2) (wAf (al w) u2) (wBf (al w) u2) (wNf (al w) u2) s 0 := fun s => CANH_cg (fun i j hi hj => by rw [rmX_1 hx hy, hK.2.2.2.1 i j hi hj])
            rw [bstF_cg ec] at n1
            rw [h2.1, h2.2, hW.1, FM_i f11 (by simp), FM_i f11 (by simp)]
            refine ⟨?_, m1, m2⟩
            congr 2
            refine Int32.toInt_inj.mp ?_
            have vb : ∀ s, 0 ≤ vlS (fun κ => wtP (al w) u2 κ 3) (Wof (al w) u2) s ∧ vlS (fun κ => wtP (al w) u2 κ 3) (Wof (al w) u2) s ≤ 99 * (Wof (al w) u2 : Nat) := fun s => vlS_b hL.2.2.2.2 (Wof (al w) u2) (Nat.le_refl _)
            have v1 := vb (bstF (fun s => CANH (fun i j => rmW w5 i j + (if i = x ∧ j = y then 1 else 0)) (Pof (al w) u2) (Wof (al w) u2) (wAf (al w) u2) (wBf (al w) u2) (wNf (al w) u2) s 0) (bet (fun κ => wtP (al w) u2 κ 3) (Wof (al w) u2)) (2 ^ Wof (al w) u2 - 1))
            have v2 := vb (bstF (fun s => CANH (rmW w5) (Pof (al w) u2) (Wof (al w) u2) (wAf (al w) u2) (wBf (al w) u2) (wNf (al w) u2) s 0) (bet (fun κ => wtP (al w) u2 κ 3) (Wof (al w) u2)) (2 ^ Wof (al w) u2 - 1))
            have hW7 := hK.2.2.2.2.2.2.2.2.2.2
            rw [zi_sub n1 n2 (by omega) (by omega), c2]
        · exact none0 (Or.inr ⟨u, a2.1, a4⟩) a5
end JAA
