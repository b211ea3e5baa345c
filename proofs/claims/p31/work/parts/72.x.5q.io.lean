/-! ===== much ===== -/
section IOM
variable {X : pm_X} {k k2 : Nat} {w0 w w1 w2 w3 w4 w5 wj w' : pm_W} {r r2 q0 q1 q2 : Option Value} {p1 p2 p3 p4 p5 i1 i2 i3 i4 i5 i6 i7 i8 z z1 z2 x y f l f1 f2 l1 l2 : Int32} {i v j m u P t s b Q A B I J K n a T p W M N κ : Nat} {C : Nat → Nat → Int} {e g d : Int} {s0 s1 s2 t1 t2 : SN}
/-- the reference, behind clearing -/
theorem F276_l (hu : u ≤ 1) (hp : i5.toInt = (610 + 132 * u : Nat)) (hP : (al w (610 + 132 * u)).toInt = P) (hP9 : P ≤ 9) (hr : ∀ i j, i < P → j < P → 0 ≤ rmA w u i j ∧ rmA w u i j ≤ 99) (h6 : i6.toInt = t) (h7 : i7.toInt = s) (h8 : i8.toInt = d) (hd : 0 ≤ d) (hd2 : d ≤ 99) (hs : s < P) (ht : t < P) (hst : s ≠ t) (he : MCst (cpW (rmA w u) P) 10 s t e) : ∀ k : Nat, (∀ (w1 : pm_W) (A : Nat) (i9 : Int32) (u10 : Value), LAYm w w1 u P A 0 → i9.toInt = A → A ≤ P → PS X k 276 96 [.ref 147, .int i1, .int i2, .int i3, .int i4, .int i5, .int i6, .int i7, .int i8, .int i9, u10] [] w1 r w' → ∃ z : Int32, r = some (.int z) ∧ z.toInt = min d e) ∧ (∀ (w1 : pm_W) (A B : Nat) (i9 i10 : Int32), LAYm w w1 u P A B → i9.toInt = A → A < P → i10.toInt = B → B ≤ P → PS X k 276 111 [.ref 147, .int i1, .int i2, .int i3, .int i4, .int i5, .int i6, .int i7, .int i8, .int i9, .int i10] [] w1 r w' → ∃ z : Int32, r = some (.int z) ∧ z.toInt = min d e) := by
  intro k
  induction k with
  | zero => exact ⟨fun _ _ _ _ _ _ _ h => (PS_0 h).elim, fun _ _ _ _ _ _ _ _ _ _ h => (PS_0 h).elim⟩
  | succ k ih =>
    obtain ⟨ih7, ih21⟩ := ih
    refine ⟨fun w1 A i9 u10 hL h9 hA h => ?_, fun w1 A B i9 i10 hL h9 hA h10 hB h => ?_⟩
    · have fm := hL.1
      have S1 : SK w1 := fm.2.2.2
      obtain ⟨_, h⟩ := U276_96 S1 h
      have eP : aG w1 148 i5 = al w (610 + 132 * u) := by rw [aG_n hp, FM_a fm (by decide)]; rfl
      rw [eP] at h
      by_cases c : al w (610 + 132 * u) ≤ i9
      · rw [if_pos c] at h
        rw [Int32.le_iff_toInt_le, hP, h9] at c
        have eA : A = P := by omega
        rw [eA] at hL
        obtain ⟨_, h⟩ := h
        obtain ⟨_, h⟩ := h _ rfl
        have h := h _ rfl
        have S2 : SK (aS w1 163 i7 i8) := SK_aS S1
        have f3 : FM [] [163] w1 (aS (aS w1 163 i7 i8) 163 i6 (-i8)) := FM_trans (FM_aS S1 (by decide)) (FM_aS S2 (by decide))
        have S3 := f3.2.2.2
        have en : (-i8).toInt = -d := zi_neg h8 (by omega) (by omega)
        have ov : ∀ a, a < 10 → ovR (aS (aS w1 163 i7 i8) 163 i6 (-i8)) a = (if a = s then d else 0) - (if a = t then d else 0) := by
          intro a ha
          have z0 : ovR w1 a = 0 := by unfold ovR; rw [hL.2.2.2 a ha, z32]
          rw [ovR_s S2 h6 (by omega), ovR_s S1 h7 (by omega), h8, en, z0]
          by_cases q1 : a = t
          · rw [if_pos q1, if_pos q1, if_neg (fun z => hst (z.symm.trans q1))]; omega
          · rw [if_neg q1, if_neg q1]
            by_cases q2 : a = s
            · rw [if_pos q2]; omega
            · rw [if_neg q2]; omega
        obtain ⟨e0, ef, ec⟩ := LAY_ev (w1 := aS (aS w1 163 i7 i8) 163 i6 (-i8)) hL hP9 hr (fun a ha => by rw [ov a ha]; split <;> split <;> omega) f3
        obtain ⟨q3, w4, y, h⟩ := h
        have cb := cpW_b hr
        obtain ⟨f8, b, b1, b2, b3, b4, b5⟩ := two_val S3 e0 ef ec (fun a b _ _ => (cb a b).1) (by omega) (by omega) hst hd ov he y
        have S4 : SK w4 := f8.2.2.2
        have h := h _ b1 S4
        cases b with
        | false =>
          rw [if_pos (by decide +kernel)] at h
          obtain ⟨_, h1, h2'⟩ := h
          have eo : (aG w4 163 i7).toInt = ovR w4 s := by rw [aG_n h7]; rfl
          exact ⟨_, h1, by rw [zi_sub h8 eo (by omega) (by omega)]; exact b3 rfl⟩
        | true =>
          rw [if_neg (by decide +kernel)] at h
          exact ⟨_, h.1, by rw [h8]; exact b2 rfl⟩
      · rw [if_neg c] at h
        rw [Int32.le_iff_toInt_le, hP, h9] at c
        exact ih21 w1 A 0 i9 0 hL h9 (by omega) z32 (Nat.zero_le _) h
    · have fm := hL.1
      have S1 : SK w1 := fm.2.2.2
      obtain ⟨_, h⟩ := U276_111 S1 h
      have eP : aG w1 148 i5 = al w (610 + 132 * u) := by rw [aG_n hp, FM_a fm (by decide)]; rfl
      rw [eP] at h
      by_cases c : al w (610 + 132 * u) ≤ i10
      · rw [if_pos c] at h
        rw [Int32.le_iff_toInt_le, hP, h10] at c
        have eB : B = P := by omega
        rw [eB] at hL
        exact ih7 w1 (A + 1) _ _ (LAY_n hL) (by rw [zi_inc (n := 40) (by omega) (by omega), h9]; rfl) (by omega) h
      · rw [if_neg c] at h
        rw [Int32.le_iff_toInt_le, hP, h10] at c
        have h := use_p S1 h (fun _ _ y => F231n S1 hp hu h9 h10 (by omega) (by omega) y)
        obtain ⟨_, h⟩ := h
        have h := h _ rfl
        have ea : al w1 = al w := by funext q; unfold al; rw [FM_a fm (by decide)]
        have ed : dR w1 = dR w := by funext q; unfold dR; rw [FM_a fm (by decide)]
        refine ih21 _ A (B + 1) i9 _ (LAY_s S1 hL (by omega) (by omega) hP9 (ix10 h9 h10 (by omega) (by omega)) ?_) h9 hA (by rw [zi_inc (n := 40) (by omega) (by omega), h10]; rfl) (by omega) h
        rw [ea, ed]
        rfl
/-- much -/
theorem RC_19 (h3 : RL3 w) (h1 : PS X k 158 0 [.ref 0, .int p1, .int p2, .int p3, .int p4, pm_dead, pm_dead, pm_dead, pm_dead] [] w r w1) (h2 : PS X k2 276 0 [.ref 147, .int p1, .int p2, .int p3, .int p4, pm_dead, pm_dead, pm_dead, pm_dead, pm_dead, pm_dead] [] w1 r2 w2) : r2 = r := by
  have hS := h3.1.1
  cases k with
  | zero => exact (PS_0 h1).elim
  | succ k =>
    cases k2 with
    | zero => exact (PS_0 h2).elim
    | succ k2 =>
      obtain ⟨q1, w3, z, h1⟩ := U158_0 hS h1
      obtain ⟨k', q2, z2, alt⟩ := F141 h3 z
      obtain ⟨f1, _⟩ := F98 h3 z2
      have S3 : SK w3 := f1.2.2.2
      have ea := FM_al f1
      have none0 : (q2 = some (.int 0) ∨ ∃ u : Nat, p1.toInt = u ∧ ¬ (0 ≤ p4.toInt ∧ p4.toInt < (Wof (al w) u : Nat))) → q1 = some (.int 0) → r2 = r := by
        intro hq h0
        have h1 := h1 _ h0 S3
        rw [if_pos rfl] at h1
        rw [h1.2] at h2
        obtain ⟨q6, w6, y6, h2⟩ := U276_0 S3 h2
        obtain ⟨S6, e6, alt2⟩ := F265 h3 z2 S3 ea y6
        have : q6 = some (.int 0) := by
          rcases alt2 with ⟨_, x⟩ | ⟨u, t1, t2, b1, b3, b8⟩
          · exact x
          · rcases hq with x | ⟨u', x1, x2⟩
            · rw [b1] at x; exact absurd x i10
            · have e : u' = u := by have := b3.1; omega
              rw [e] at x2
              rw [b8, decide_eq_false x2]; rfl
        have h2 := h2 _ this S6
        rw [if_pos rfl] at h2
        rw [h2.1, h1.1]
      rcases alt with ⟨a0, a1⟩ | ⟨a1, u, s1, a2, a3, a4⟩
      · exact none0 (Or.inl a0) a1
      · by_cases c : 0 ≤ p4.toInt ∧ p4.toInt < (Wof (al w) u : Nat)
        · rw [decide_eq_true c] at a4
          have h1 := h1 _ a4 S3
          rw [if_neg (by decide +kernel)] at h1
          have hu := a2.2.1
          obtain ⟨v1, v1', v3, v2, v4⟩ := VA_v h3.2 hu
          have u1 : u ≤ 1 := by have := h3.1.2.1.1.2.1; omega
          have okv := okV_n u1
          obtain ⟨x1, x2, x3⟩ := VA_w h3.2 hu
          obtain ⟨κ, hκ⟩ : ∃ κ : Nat, p4.toInt = κ := ⟨p4.toInt.toNat, by omega⟩
          have hκ7 : κ < 7 := by omega
          obtain ⟨y0, y0', y1, y1', yne, y2, y2', _⟩ := x3 κ (by omega)
          obtain ⟨g1, g2, g3, g4⟩ := CVL h3 hu f1 a3
          rw [g3] at h1
          have hd : dA w3 33 = s1.1 := a3.2.2.1
          have bd : ∀ q, 0 ≤ (s1.1 q).toInt ∧ (s1.1 q).toInt ≤ 99 := (LDR_2 h3.2 a2 a2).2.2.2.2.2.1.1.1
          obtain ⟨A, hA⟩ : ∃ A : Nat, (wtP (al w) u κ 0).toInt = A := ⟨(wtP (al w) u κ 0).toInt.toNat, by omega⟩
          obtain ⟨B, hB⟩ : ∃ B : Nat, (wtP (al w) u κ 1).toInt = B := ⟨(wtP (al w) u κ 1).toInt.toNat, by omega⟩
          have hAB : B ≠ A := by omega
          have h1 := use_p S3 h1 (fun _ _ y => F65w h3 f1 hu hκ hκ7 (c := 0) z32 (by decide) y)
          have h1 := use_p S3 h1 (fun _ _ y => F65w h3 f1 hu hκ hκ7 (c := 1) o32 (by decide) y)
          have h1 := use_p S3 h1 (fun _ _ y => F65w h3 f1 hu hκ hκ7 (c := 2) two32 (by decide) y)
          have h1 := use_p S3 h1 (fun _ _ y => F77n S3 (by decide +kernel) okv g3 hA hB (by omega) (by omega) y)
          rw [hd, rmI_cg (fun q hq => g4 q hq) (show A < 9 by omega) (show B < 9 by omega)] at h1
          obtain ⟨q5, w5, y5, h5⟩ := h1
          obtain ⟨b1, b2, b3, b4, b5, b6, b7, b8⟩ := LOOK3 h3 f1 hu a3 bd y5
          have S5 : SK w5 := b2.2.2.2
          obtain ⟨q7, w7, y7, h7⟩ := h5 b1 S5
          obtain ⟨f7, zc, c1, c2⟩ := F161 S5 b4 v1 hB hA (by omega) (by omega) hAB (fun i j hi hj => by rw [b7 i j hi hj]; exact b8 i j hi hj) y7
          have S7 : SK w7 := f7.2.2.2
          have h1 := h7 _ c1 S7
          have hm : MCst (cpW (fun i j => (rmI (Vof (al w) u) s1.1 i j).toInt) (Pof (al w) u)) 10 B A zc.toInt := by
            rw [cpW_cg (R' := fun i j => (rmI (Vof (al w) u) s1.1 i j).toInt) b7] at c2
            exact MCst_ext (by decide) (fun a b _ _ hab => cpW_z (by omega)) c2
          have hRm := rmI_hi v2 bd (show A < 9 by omega) (show B < 9 by omega)
          obtain ⟨RM, hRM⟩ : ∃ RM, RM = rmI (Vof (al w) u) s1.1 A B := ⟨_, rfl⟩
          have hRM' : rmI (fun k => al w (610 + 132 * u + k)) s1.1 A B = RM := hRM.symm
          rw [← hRM] at h1 hRm
          rw [h1.2] at h2
          have e7 : al w7 = al w := by rw [al_FM f7 (by decide), al_FM b2 (by decide), ea]
          obtain ⟨q6, w6, y6, h2⟩ := U276_0 S7 h2
          obtain ⟨S6, e6, alt2⟩ := F265 h3 z2 S7 e7 y6
          rcases alt2 with ⟨x0, _⟩ | ⟨u', t1, t2, d1, ⟨c1', c2', c3', c4', c5', c6', c7'⟩, d8⟩
          · rw [a1] at x0; exact absurd x0 i10
          · have eu : u' = u := by have := a2.1; omega
            subst eu
            rw [decide_eq_true c] at d8
            have h2 := h2 _ d8 S6
            rw [if_neg (by decide +kernel)] at h2
            have ed : dR w6 = s1.1 := by
              have x1 : dA w3 33 = t1.1 := c5'.2.2.1
              rw [show dR w6 = t2.1 from c6'.1, c4'.1, ← x1, hd]
            have hp := plV c1' c3'
            have era : rmA w6 u' = fun i j => (rmI (Vof (al w) u') s1.1 i j).toInt := by
              funext i j
              unfold rmA
              rw [ed, e6]
              rfl
            have h2 := use_p S6 h2 (fun _ _ y => F217v S6 c1' c3' y)
            have h2 := use_p S6 h2 (fun _ _ y => F224w (c := 0) S6 c3' hp hκ hκ7 z32 (by decide) y)
            have h2 := use_p S6 h2 (fun _ _ y => F224w (c := 1) S6 c3' hp hκ hκ7 o32 (by decide) y)
            rw [e6] at h2
            have h2 := use_p S6 h2 (fun _ _ y => F231n S6 hp c3' hA hB (by omega) (by omega) y)
            have h2 := use_p S6 h2 (fun _ _ y => F224w (c := 2) S6 c3' hp hκ hκ7 two32 (by decide) y)
            rw [e6, ed, hRM'] at h2
            -- behind the laying, whatever the most is
            have go : ∀ (mv : Int32), 0 ≤ mv.toInt → mv.toInt ≤ 99 → (∃ (r22 : Option Value) (w23 : pm_W), PS X k2 277 0 [.ref 147, pm_dead] [] w6 r22 w23 ∧ (r22 = none → SK w23 → (PS X k2 276 96 [.ref 147, .int p1, .int p2, .int p3, .int p4, .int (610 + 132 * p1), .int (wtP (al w) u' κ 0), .int (wtP (al w) u' κ 1), .int mv, .int 0, pm_dead] [] w23 r2 w2))) → ∃ zr : Int32, r2 = some (.int zr) ∧ zr.toInt = min mv.toInt zc.toInt := by
              intro mv g1 g2 h
              obtain ⟨q8, w8, y8, h⟩ := h
              obtain ⟨a1', a2', a3'⟩ := F277 S6 y8
              have h := h a1' a2'.2.2.2
              exact (F276_l c3' hp (by rw [e6]; exact v3) v1 (by rw [era]; exact b8) hA hB rfl g1 g2 (by omega) (by omega) hAB (by rw [era]; exact hm) k2).1 w8 0 0 _ (LAY_0 a2' a3') z32 (Nat.zero_le _) h
            have ref : ∃ zr : Int32, r2 = some (.int zr) ∧ zr.toInt = min (if RM < wtP (al w) u' κ 2 then RM else wtP (al w) u' κ 2).toInt zc.toInt := by
              by_cases c9 : wtP (al w) u' κ 2 ≤ RM
              · rw [if_pos c9] at h2
                rw [Int32.le_iff_toInt_le] at c9
                have h2 := use_p S6 h2 (fun _ _ y => F224w (c := 2) S6 c3' hp hκ hκ7 two32 (by decide) y)
                rw [e6] at h2
                rw [if_neg (by rw [Int32.lt_iff_toInt_lt]; omega)]
                exact go _ (by omega) (by omega) h2
              · rw [if_neg c9] at h2
                rw [Int32.le_iff_toInt_le] at c9
                have h2 := use_p S6 h2 (fun _ _ y => F231n S6 hp c3' hA hB (by omega) (by omega) y)
                rw [e6, ed, hRM'] at h2
                rw [if_pos (by rw [Int32.lt_iff_toInt_lt]; omega)]
                exact go _ (by omega) (by omega) h2
            obtain ⟨zr, r3, r4⟩ := ref
            rw [r3, h1.1]
            obtain ⟨mm, hmm⟩ : ∃ mm, mm = (if RM < wtP (al w) u' κ 2 then RM else wtP (al w) u' κ 2) := ⟨_, rfl⟩
            rw [← hmm] at r4 ⊢
            have e : zr = if zc < mm then zc else mm := by
              apply Int32.toInt_inj.mp
              rw [r4]
              by_cases c9 : zc < mm
              · rw [if_pos c9]
                rw [Int32.lt_iff_toInt_lt] at c9
                omega
              · rw [if_neg c9]
                rw [Int32.lt_iff_toInt_lt] at c9
                omega
            rw [e]
        · rw [decide_eq_false c] at a4
          exact none0 (Or.inr ⟨u, a2.1, c⟩) a4
end IOM
