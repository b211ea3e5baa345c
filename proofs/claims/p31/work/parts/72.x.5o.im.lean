/-! ===== lent, weak, much ===== -/
section IML
variable {X : pm_X} {k k2 : Nat} {w0 w w1 w2 w3 w4 w5 wj w' : pm_W} {r r2 q0 q1 q2 : Option Value} {p1 p2 p3 p4 p5 i1 i2 i3 i4 i5 i6 i7 i8 z z1 z2 x y f l : Int32} {i v j m u P t s b Q A B I J K n a T p W M N : Nat} {c c' R C : Nat → Nat → Int} {S : Nat → Bool} {e g : Int} {s0 s1 s2 t1 t2 : SN}
theorem MCst_hi (h : MCst c n s t e) (hs : s < n) (hst : s ≠ t) (hc : ∀ a b, a < n → b < n → 0 ≤ c a b ∧ c a b ≤ 99) : e ≤ 99 * n := by
  have q := h.1 (fun a => decide (a = s)) (decide_eq_true rfl) (decide_eq_false (fun z => hst z.symm))
  have := cutC_1 hs hc
  omega
theorem cpW_b (hr : ∀ i j, i < P → j < P → 0 ≤ R i j ∧ R i j ≤ 99) (a b : Nat) : 0 ≤ cpW R P a b ∧ cpW R P a b ≤ 99 := by
  unfold cpW
  by_cases c : a < P ∧ b < P
  · rw [if_pos c]; exact hr a b c.1 c.2
  · rw [if_neg c]; omega
theorem cpW_z (h : P ≤ a ∨ P ≤ b) : cpW R P a b = 0 := by
  unfold cpW
  rw [if_neg (by omega)]
theorem cpW_cg {R' : Nat → Nat → Int} (h : ∀ i j, i < P → j < P → R i j = R' i j) : cpW R P = cpW R' P := by
  funext a b
  unfold cpW
  by_cases c : a < P ∧ b < P
  · rw [if_pos c, if_pos c, h a b c.1 c.2]
  · rw [if_neg c, if_neg c]
/-- the reference: lentOf -/
theorem F312 (hS : SK w) (hu : u ≤ 1) (hp : p1.toInt = (610 + 132 * u : Nat)) (hP : (al w (610 + 132 * u)).toInt = P) (hP9 : P ≤ 9) (hr : ∀ i j, i < P → j < P → 0 ≤ rmA w u i j ∧ rmA w u i j ≤ 99) (h2 : p2.toInt = s) (h3 : p3.toInt = t) (hs : s < P) (ht : t < P) (hst : s ≠ t) (h : PS X k 312 0 [.ref 147, .int p1, .int p2, .int p3, pm_dead, pm_dead] [] w r w') : FM [] [160, 161, 162, 163, 164] w w' ∧ ∃ z : Int32, r = some (.int z) ∧ MCst (cpW (rmA w u) P) 10 s t z.toInt := by
  have eM : (1000000 : Int32).toInt = 1000000 := by decide +kernel
  have eMn : (-1000000 : Int32).toInt = -1000000 := by decide +kernel
  have lp : ∀ k : Nat, (∀ (w1 : pm_W) (A : Nat) (i4 : Int32) (u5 : Value), LAYm w w1 u P A 0 → i4.toInt = A → A ≤ P → PS X k 312 7 [.ref 147, .int p1, .int p2, .int p3, .int i4, u5] [] w1 r w' → FM [] [160, 161, 162, 163, 164] w w' ∧ ∃ z : Int32, r = some (.int z) ∧ MCst (cpW (rmA w u) P) 10 s t z.toInt) ∧ (∀ (w1 : pm_W) (A B : Nat) (i4 i5 : Int32), LAYm w w1 u P A B → i4.toInt = A → A < P → i5.toInt = B → B ≤ P → PS X k 312 21 [.ref 147, .int p1, .int p2, .int p3, .int i4, .int i5] [] w1 r w' → FM [] [160, 161, 162, 163, 164] w w' ∧ ∃ z : Int32, r = some (.int z) ∧ MCst (cpW (rmA w u) P) 10 s t z.toInt) := by
    intro k
    induction k with
    | zero => exact ⟨fun _ _ _ _ _ _ _ h => (PS_0 h).elim, fun _ _ _ _ _ _ _ _ _ _ h => (PS_0 h).elim⟩
    | succ k ih =>
      obtain ⟨ih7, ih21⟩ := ih
      refine ⟨fun w1 A i4 u5 hL h4 hA h => ?_, fun w1 A B i4 i5 hL h4 hA h5 hB h => ?_⟩
      · have fm := hL.1
        have S1 : SK w1 := fm.2.2.2
        obtain ⟨_, h⟩ := U312_7 S1 h
        have eP : aG w1 148 p1 = al w (610 + 132 * u) := by rw [aG_n hp, FM_a fm (by decide)]; rfl
        rw [eP] at h
        by_cases c : al w (610 + 132 * u) ≤ i4
        · rw [if_pos c] at h
          rw [Int32.le_iff_toInt_le, hP, h4] at c
          have eA : A = P := by omega
          rw [eA] at hL
          obtain ⟨_, h⟩ := h
          obtain ⟨_, h⟩ := h _ rfl
          have h := h _ rfl
          have S2 : SK (aS w1 163 p2 1000000) := SK_aS S1
          have f3 : FM [] [163] w1 (aS (aS w1 163 p2 1000000) 163 p3 (-1000000)) := FM_trans (FM_aS S1 (by decide)) (FM_aS S2 (by decide))
          have S3 := f3.2.2.2
          have ov : ∀ a, a < 10 → ovR (aS (aS w1 163 p2 1000000) 163 p3 (-1000000)) a = (if a = s then 1000000 else 0) - (if a = t then 1000000 else 0) := by
            intro a ha
            have z0 : ovR w1 a = 0 := by unfold ovR; rw [hL.2.2.2 a ha, z32]
            rw [ovR_s S2 h3 (by omega), ovR_s S1 h2 (by omega), eM, eMn, z0]
            by_cases q1 : a = t
            · rw [if_pos q1, if_pos q1, if_neg (fun z => hst (z.symm.trans q1))]; omega
            · rw [if_neg q1, if_neg q1]
              by_cases q2 : a = s
              · rw [if_pos q2]; omega
              · rw [if_neg q2]; omega
          obtain ⟨e0, ef, ec⟩ := LAY_ev (w1 := aS (aS w1 163 p2 1000000) 163 p3 (-1000000)) hL hP9 hr (fun a ha => by rw [ov a ha]; split <;> split <;> omega) f3
          obtain ⟨q3, w4, y, h⟩ := h
          -- the least cut is there: the reference's own answer says so
          have cb := cpW_b hr
          have ftot := FM_trans (FM_mono fm (by intro x hx; cases hx) (by decide)) (FM_mono f3 (by intro x hx; cases hx) (by decide) : FM [] [160, 161, 162, 163, 164] w1 _)
          obtain ⟨f8, b, T, b1, b2, b3, b4, b5, b6⟩ := two_T S3 e0 ef ec (fun a b _ _ => (cb a b).1) (by omega) (by omega) hst (by omega) ov y
          have hT := MC_big (o := ovR (aS (aS w1 163 p2 1000000) 163 p3 (-1000000))) (show s < 10 by omega) (show t < 10 by omega) hst (by omega) (fun a b _ _ => cb a b) ov b2
          have S4 : SK w4 := f8.2.2.2
          have h := h _ b1 S4
          cases b with
          | false =>
            rw [if_pos (by decide +kernel)] at h
            obtain ⟨_, h1, h2'⟩ := h
            have eo : (aG w4 163 p2).toInt = ovR w4 s := by rw [aG_n h2]; rfl
            refine ⟨by rw [h2']; exact FM_trans ftot (FM_mono f8 (by intro x hx; cases hx) (by decide)), _, h1, ?_⟩
            rw [zi_sub eM eo (by omega) (by omega), b4 rfl]
            exact hT
          | true =>
            rw [if_neg (by decide +kernel)] at h
            refine ⟨by rw [h.2]; exact FM_trans ftot (FM_mono f8 (by intro x hx; cases hx) (by decide)), _, h.1, ?_⟩
            rw [eM, b3 rfl]
            exact hT
        · rw [if_neg c] at h
          rw [Int32.le_iff_toInt_le, hP, h4] at c
          exact ih21 w1 A 0 i4 0 hL h4 (by omega) z32 (Nat.zero_le _) h
      · have fm := hL.1
        have S1 : SK w1 := fm.2.2.2
        obtain ⟨_, h⟩ := U312_21 S1 h
        have eP : aG w1 148 p1 = al w (610 + 132 * u) := by rw [aG_n hp, FM_a fm (by decide)]; rfl
        rw [eP] at h
        by_cases c : al w (610 + 132 * u) ≤ i5
        · rw [if_pos c] at h
          rw [Int32.le_iff_toInt_le, hP, h5] at c
          have eB : B = P := by omega
          rw [eB] at hL
          exact ih7 w1 (A + 1) _ _ (LAY_n hL) (by rw [zi_inc (n := 40) (by omega) (by omega), h4]; rfl) (by omega) h
        · rw [if_neg c] at h
          rw [Int32.le_iff_toInt_le, hP, h5] at c
          have h := use_p S1 h (fun _ _ y => F231n S1 hp hu h4 h5 (by omega) (by omega) y)
          obtain ⟨_, h⟩ := h
          have h := h _ rfl
          have ea : al w1 = al w := by funext q; unfold al; rw [FM_a fm (by decide)]
          have ed : dR w1 = dR w := by funext q; unfold dR; rw [FM_a fm (by decide)]
          refine ih21 _ A (B + 1) i4 _ (LAY_s S1 hL (by omega) (by omega) hP9 (ix10 h4 h5 (by omega) (by omega)) ?_) h4 hA (by rw [zi_inc (n := 40) (by omega) (by omega), h5]; rfl) (by omega) h
          rw [ea, ed]
          rfl
  cases k with
  | zero => exact (PS_0 h).elim
  | succ k =>
    obtain ⟨q1, w2, y, h⟩ := U312_0 hS h
    obtain ⟨a1, a2, a3⟩ := F277 hS y
    exact (lp k).1 w2 0 0 _ (LAY_0 a2 a3) z32 (Nat.zero_le _) (h a1 a2.2.2.2)
/-- the class looks at a loaded state -/
theorem LOOK3 (h3 : RL3 w) (f1 : FM [(33, 0), (33, 1), (33, 2)] [39, 40, 41] w w3) (hu : u < (al w 0).toInt.toNat) (a3 : CSt w3 33 (5 + 5 * u) (Pof (al w) u) s1.1 s1.2.1 s1.2.2.1 s1.2.2.2) (hd : ∀ q, 0 ≤ (s1.1 q).toInt ∧ (s1.1 q).toInt ≤ 99) (y : PS X k 159 0 [.ref 68, .ref 33, pm_dead, pm_dead] [] w3 r w5) : r = none ∧ FM [(68, 0), (68, 7)] [74, 77] w3 w5 ∧ gR w5 68 0 = 5 + 5 * u ∧ (gI w5 (gR w5 68 0) 0).toInt = Pof (al w) u ∧ (gI w5 68 7).toInt = ((2 ^ Wof (al w) u : Nat) : Int) ∧ (∀ s, s < 2 ^ Wof (al w) u → vaW w5 s = vlS (fun κ => wtP (al w) u κ 3) (Wof (al w) u) s) ∧ (∀ i j, i < Pof (al w) u → j < Pof (al w) u → rmW w5 i j = (rmI (Vof (al w) u) s1.1 i j).toInt) ∧ ∀ i j, i < Pof (al w) u → j < Pof (al w) u → 0 ≤ (rmI (Vof (al w) u) s1.1 i j).toInt ∧ (rmI (Vof (al w) u) s1.1 i j).toInt ≤ 99 := by
  have hS := h3.1.1
  have S3 : SK w3 := f1.2.2.2
  obtain ⟨v1, _, v3, v2, v4⟩ := VA_v h3.2 hu
  obtain ⟨x1, x2, x3⟩ := VA_w h3.2 hu
  obtain ⟨u1, g0, gw, _, _, _, _, g6⟩ := VT hS h3.1.2.1 hu
  obtain ⟨g1, g2, g3, g4⟩ := CVL h3 hu f1 a3
  rw [g3] at g1
  obtain ⟨_, _, _, v6⟩ := VR S3 u1
  obtain ⟨b1, b2, b3, b4, b5, b6⟩ := F159 (W := Wof (al w) u) (wv := fun κ => wtP (al w) u κ 3) S3 g3 (okV_n u1) (by omega) (by rw [v6]; omega) g1 v1 (by rw [FM_i f1 (by simp <;> omega), gw]; exact x1) x2 (fun κ hκ => by
    rw [show 5 + 5 * u + 4 = 9 + 5 * u by omega, FM_a f1 (by simp <;> omega), g6 _ (by omega)]
    show al w _ = wtP (al w) u κ 3
    unfold wtP
    rw [show 712 + 132 * u + (4 * κ + 3) = 712 + 132 * u + 4 * κ + 3 by omega]) (fun κ hκ => by
    have q := x3 κ hκ
    exact ⟨q.2.2.2.2.2.2.2.1, q.2.2.2.2.2.2.2.2⟩) y
  have rc : ∀ i j, i < Pof (al w) u → j < Pof (al w) u → rmI (vcl w3 (5 + 5 * u)) (dA w3 33) i j = rmI (Vof (al w) u) s1.1 i j := fun i j hi hj => by
    rw [show dA w3 33 = s1.1 from a3.2.2.1]
    exact rmI_cg (fun q hq => g4 q hq) (by omega) (by omega)
  refine ⟨b1, b2, b3, ?_, b4, b5, fun i j hi hj => by rw [b6 i j hi hj, rc i j hi hj], fun i j hi hj => rmI_hi v2 hd (by omega) (by omega)⟩
  rw [b3, FM_i b2 (by simp <;> omega)]
  exact g1
/-- lent -/
theorem RC_36 (h3 : RL3 w) (h1 : PS X k 192 0 [.ref 0, .int p1, .int p2, .int p3, .int p4, .int p5] [] w r w1) (h2 : PS X k2 311 0 [.ref 147, .int p1, .int p2, .int p3, .int p4, .int p5] [] w1 r2 w2) : r2 = r := by
  have hS := h3.1.1
  cases k with
  | zero => exact (PS_0 h1).elim
  | succ k =>
    cases k2 with
    | zero => exact (PS_0 h2).elim
    | succ k2 =>
      have h1 := U192_0 hS h1
      by_cases c : p4 = p5
      · rw [if_pos c] at h1
        rw [h1.2] at h2
        have h2 := U311_0 hS h2
        rw [if_pos c] at h2
        rw [h2.1, h1.1]
      · rw [if_neg c] at h1
        obtain ⟨q1, w3, z, h1⟩ := h1
        obtain ⟨k', q2, zz, alt⟩ := F97 h3 z
        obtain ⟨f1, _⟩ := F98 h3 zz
        have S3 : SK w3 := f1.2.2.2
        have ea := FM_al f1
        have none0 : (q2 = some (.int 0) ∨ ∃ u : Nat, p1.toInt = u ∧ ¬ PR2 (Pof (al w) u) p4 p5) → q1 = some (.int 0) → r2 = r := by
          intro hq h0
          have h1 := h1 _ h0 S3
          rw [if_pos rfl] at h1
          rw [h1.2] at h2
          have h2 := U311_0 S3 h2
          rw [if_neg c] at h2
          obtain ⟨q6, w6, y6, h2⟩ := h2
          obtain ⟨S6, e6, alt2⟩ := F245 h3 zz S3 ea y6
          have : q6 = some (.int 0) := by
            rcases alt2 with ⟨_, x⟩ | ⟨u, t1, t2, b1, b3, b4, b5, b6, b7, b8⟩
            · exact x
            · rcases hq with x | ⟨u', x1, x2⟩
              · rw [b1] at x; exact absurd x i10
              · have e : u' = u := by omega
                rw [e] at x2
                rw [b8, decide_eq_false (show ¬ ((0 ≤ p4.toInt ∧ p4.toInt < (Pof (al w) u : Nat)) ∧ (0 ≤ p5.toInt ∧ p5.toInt < (Pof (al w) u : Nat))) from x2)]; rfl
          have h2 := h2 _ this S6
          rw [if_pos rfl] at h2
          rw [h1.1, h2.1]
        rcases alt with ⟨a0, a1⟩ | ⟨a1, u, s1, a2, a3, ⟨a4, a5⟩ | ⟨a4, a5⟩⟩
        · exact none0 (Or.inl a0) a1
        · have h1 := h1 _ a5 S3
          rw [if_neg (by decide +kernel)] at h1
          have hu := a2.2.1
          obtain ⟨v1, v1', v3, v2, v4⟩ := VA_v h3.2 hu
          have u1 : u ≤ 1 := by have := h3.1.2.1.1.2.1; omega
          have bd : ∀ q, 0 ≤ (s1.1 q).toInt ∧ (s1.1 q).toInt ≤ 99 := (LDR_2 h3.2 a2 a2).2.2.2.2.2.1.1.1
          obtain ⟨⟨d1, d2⟩, d3, d4⟩ := id a4
          obtain ⟨x, hx⟩ : ∃ x : Nat, p4.toInt = x := ⟨p4.toInt.toNat, by omega⟩
          obtain ⟨y, hy⟩ : ∃ y : Nat, p5.toInt = y := ⟨p5.toInt.toNat, by omega⟩
          have hne : x ≠ y := fun e => c (Int32.toInt_inj.mp (by rw [hx, hy, e]))
          obtain ⟨q4, w5, y5, h5⟩ := h1
          obtain ⟨b1, b2, b3, b4, b5, b6, b7, b8⟩ := LOOK3 h3 f1 hu a3 bd y5
          have S5 : SK w5 := b2.2.2.2
          obtain ⟨q6, w7, y7, h7⟩ := h5 b1 S5
          obtain ⟨f7, zc, c1, c2⟩ := F161 S5 b4 v1 hx hy (by omega) (by omega) hne (fun i j hi hj => by rw [b7 i j hi hj]; exact b8 i j hi hj) y7
          have h1 := h7 _ c1 f7.2.2.2
          have hm : MCst (cpW (fun i j => (rmI (Vof (al w) u) s1.1 i j).toInt) (Pof (al w) u)) 10 x y zc.toInt := by
            rw [cpW_cg (R' := fun i j => (rmI (Vof (al w) u) s1.1 i j).toInt) b7] at c2
            exact MCst_ext (by decide) (fun a b _ _ hab => cpW_z (by omega)) c2
          rw [h1.2] at h2
          have S7 : SK w7 := f7.2.2.2
          have e7 : al w7 = al w := by rw [al_FM f7 (by decide), al_FM b2 (by decide), ea]
          have h2 := U311_0 S7 h2
          rw [if_neg c] at h2
          obtain ⟨q8, w8, y8, h2⟩ := h2
          obtain ⟨S8, e8, alt2⟩ := F245 h3 zz S7 e7 y8
          rcases alt2 with ⟨x0, _⟩ | ⟨u', t1, t2, g1, g3, g4, g5, g6, g7, g8⟩
          · rw [a1] at x0; exact absurd x0 i10
          · have eu : u' = u := by have := a2.1; omega
            subst eu
            rw [decide_eq_true (show (0 ≤ p4.toInt ∧ p4.toInt < (Pof (al w) u' : Nat)) ∧ (0 ≤ p5.toInt ∧ p5.toInt < (Pof (al w) u' : Nat)) from a4)] at g8
            have h2 := h2 _ g8 S8
            rw [if_neg (by decide +kernel)] at h2
            have ed : dR w8 = s1.1 := by
              have x1 : dA w3 33 = t1.1 := g6.2.2.1
              rw [show dR w8 = t2.1 from g7.1, g5.1, ← x1]
              exact a3.2.2.1
            have h2 := use_p S8 h2 (fun _ _ y => F217v S8 g3 u1 y)
            obtain ⟨q9, w9, y9, h9⟩ := h2
            have era : rmA w8 u' = fun i j => (rmI (Vof (al w) u') s1.1 i j).toInt := by
              funext i j
              unfold rmA
              rw [ed, e8]
              rfl
            obtain ⟨f9, zr, r1, r2'⟩ := F312 S8 u1 (plV g3 u1) (by rw [e8]; exact v3) v1 (by rw [era]; exact b8) hx hy (by omega) (by omega) hne y9
            have h2 := h9 _ r1 f9.2.2.2
            rw [era] at r2'
            have ez := MCst_uq r2' hm
            rw [h2.1, h1.1, Int32.toInt_inj.mp ez]
        · exact none0 (Or.inr ⟨u, a2.1, a4⟩) a5
end IML
