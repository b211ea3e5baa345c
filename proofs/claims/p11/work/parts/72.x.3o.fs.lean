section FS
variable {X : pm_X} {k : Nat} {w0 w w' : pm_W} {r : Option Value} {p p1 p2 p3 f0 p0 f : Int32} {bs : Nat → Int32} {n i v j : Nat}
/-- a further want's four cells -/
theorem W4 {w13 w14 w15 w16 : pm_W} {c : Nat} {kk x y z u : Int32} (hS : SK w) (hl : (gA w 150).length = 272) (hk : kk.toInt = c) (hc : c + 4 ≤ 272) (i0 : aI w 150 kk) (e13 : w13 = aS w 150 kk x) (i1 : aI w13 150 (kk + 1)) (e14 : w14 = aS w13 150 (kk + 1) y) (i2 : aI w14 150 (kk + 2)) (e15 : w15 = aS w14 150 (kk + 2) z) (i3 : aI w15 150 (kk + 3)) (e16 : w16 = aS w15 150 (kk + 3) u) : FM [] [150, 151] w w16 ∧ (gA w16 150).length = 272 ∧ ∀ q, rcl w16 q = if q = c then x else if q = c + 1 then y else if q = c + 2 then z else if q = c + 3 then u else rcl w q := by
  have h1 : (kk + 1).toInt = (c + 1 : Nat) := by rw [zi_add hk o32 (by omega) (by omega)]; rfl
  have h2 : (kk + 2).toInt = (c + 2 : Nat) := by rw [zi_add hk two32 (by omega) (by omega)]; rfl
  have h3 : (kk + 3).toInt = (c + 3 : Nat) := by rw [zi_add hk three32 (by omega) (by omega)]; rfl
  have a13 : gA w13 150 = (gA w 150).set c x := by rw [e13, gA_aS (aI_isA i0), i_nat hk]
  have a14 : gA w14 150 = ((gA w 150).set c x).set (c + 1) y := by rw [e14, gA_aS (aI_isA i1), i_nat h1, a13]
  have a15 : gA w15 150 = (((gA w 150).set c x).set (c + 1) y).set (c + 2) z := by rw [e15, gA_aS (aI_isA i2), i_nat h2, a14]
  have a16 : gA w16 150 = ((((gA w 150).set c x).set (c + 1) y).set (c + 2) z).set (c + 3) u := by rw [e16, gA_aS (aI_isA i3), i_nat h3, a15]
  have s13 : SK w13 := by rw [e13]; exact SK_aS hS
  have s14 : SK w14 := by rw [e14]; exact SK_aS s13
  have s15 : SK w15 := by rw [e15]; exact SK_aS s14
  refine ⟨FM_trans (w1 := w13) (by rw [e13]; exact FM_aS hS (by decide)) (FM_trans (w1 := w14) (by rw [e14]; exact FM_aS s13 (by decide)) (FM_trans (w1 := w15) (by rw [e15]; exact FM_aS s14 (by decide)) (by rw [e16]; exact FM_aS s15 (by decide)))), by rw [a16]; simp only [List.length_set]; exact hl, fun q => ?_⟩
  unfold rcl
  rw [a16, getD_set (by simp only [List.length_set]; omega), getD_set (by simp only [List.length_set]; omega), getD_set (by simp only [List.length_set]; omega), getD_set (by omega)]
  by_cases q3 : q = c + 3
  · rw [if_pos q3, if_neg (by omega), if_neg (by omega), if_neg (by omega), if_pos q3]
  rw [if_neg q3]
  by_cases q2 : q = c + 2
  · rw [if_pos q2, if_neg (by omega), if_neg (by omega), if_pos q2]
  rw [if_neg q2]
  by_cases q1 : q = c + 1
  · rw [if_pos q1, if_neg (by omega), if_pos q1]
  rw [if_neg q1]
  by_cases q0 : q = c
  · rw [if_pos q0, if_pos q0]
  · rw [if_neg q0, if_neg q0, if_neg q1, if_neg q2, if_neg q3]
/-- the end of a want: one more -/
theorem F213_111 {x1 x2 x3 x4 x5 : Int32} {u6 : Value} (hS : SK w) (q : PS X k 213 111 [.ref 147, .int x1, .int x2, .int x3, .int x4, .int x5, u6] [] w r w') : r = none ∧ aI w 150 1 ∧ w' = aS w 150 1 (aG w 150 1 + 1) := by
  cases k with
  | zero => exact (PS_0 q).elim
  | succ k =>
    obtain ⟨h1, _, q⟩ := U213_111 hS q
    obtain ⟨z1, z2⟩ := q _ rfl
    exact ⟨z1, h1, z2⟩
/-- want: from label 17 on -/
theorem F213_17 {x1 : Int32} (hl : (gA w 150).length = 272) (hc0 : f0 = 0 → 0 ≤ (rcl w 1).toInt) (hc : (fJ bs n i 12 f0 p0 0).1 = 0 → (rcl w 1).toInt < 7) (h : RJ w bs n i 12 f0 p0 0) (q : PS X k 213 17 [.ref 147, .int x1, pm_dead, pm_dead, pm_dead, pm_dead, pm_dead] [] w r w') : r = none ∧ FM rl7 [148, 150, 151] w w' ∧ AF w w' ∧ ((∃ j, j < 4 ∧ (∀ t, t < j → tkK bs n (tP bs n i (t + 1)) = 2) ∧ tkK bs n (tP bs n i (j + 1)) ≠ 2 ∧ BK w' bs n (tP bs n i (j + 1))) ∨ ((∀ t, t < 4 → tkK bs n (tP bs n i (t + 1)) = 2) ∧ RJ w' bs n i 12 f0 p0 4 ∧ ((fJ bs n i 12 f0 p0 4).1 = 0 → (gA w' 150).length = 272 ∧ (∀ q, rcl w' q = kS 12 (rcl w) (ns32 bs n i) q) ∧ (gI w' 147 9).toInt = gS 12 (gI w 147 9).toInt (ns32 bs n i)))) := by
  have hS : SK w := h.1
  cases k with
  | zero => exact (PS_0 q).elim
  | succ k =>
    have m1 : ((-1 : Int32)).toInt = -1 := by decide +kernel
    have e99 : (99 : Int32).toInt = 99 := by decide +kernel
    have e7 : (7 : Int32).toInt = 7 := by decide +kernel
    have e102 : (102 : Int32).toInt = 102 := by decide +kernel
    obtain ⟨r1, w1, q1, q⟩ := U213_17 hS q
    -- the last step, from a state w4, whatever was read
    have last : ∀ (w4 : pm_W) (x y z u : Int32), SK w4 → (gA w4 150).length = 272 → (aI w4 150 1 ∧ (if 7 ≤ (aG w4 150 1) then (PS X k 213 111 [.ref 147, .int x1, .int x, .int y, .int z, .int u, pm_dead] [] w4 r w') else (aI w4 150 1 ∧ (aI w4 150 (102 + (4 * (aG w4 150 1))) ∧ (∀ w13 : pm_W, w13 = aS w4 150 (102 + (4 * (aG w4 150 1))) x → (aI w13 150 ((102 + (4 * (aG w4 150 1))) + 1) ∧ (∀ w14 : pm_W, w14 = aS w13 150 ((102 + (4 * (aG w4 150 1))) + 1) y → (aI w14 150 ((102 + (4 * (aG w4 150 1))) + 2) ∧ (∀ w15 : pm_W, w15 = aS w14 150 ((102 + (4 * (aG w4 150 1))) + 2) z → (aI w15 150 ((102 + (4 * (aG w4 150 1))) + 3) ∧ (∀ w16 : pm_W, w16 = aS w15 150 ((102 + (4 * (aG w4 150 1))) + 3) u → (PS X k 213 111 [.ref 147, .int x1, .int x, .int y, .int z, .int u, .int (102 + (4 * (aG w4 150 1)))] [] w16 r w')))))))))))) → r = none ∧ FM [] [150, 151] w4 w' ∧ (0 ≤ (rcl w4 1).toInt → (rcl w4 1).toInt < 7 → (gA w' 150).length = 272 ∧ ∀ q, rcl w' q = if q = 1 then rcl w4 1 + 1 else if q = 102 + 4 * (rcl w4 1).toInt.toNat then x else if q = 102 + 4 * (rcl w4 1).toInt.toNat + 1 then y else if q = 102 + 4 * (rcl w4 1).toInt.toNat + 2 then z else if q = 102 + 4 * (rcl w4 1).toInt.toNat + 3 then u else rcl w4 q) := by
      intro w4 x y z u hS4 hl4 q
      have e1 : aG w4 150 1 = rcl w4 1 := aG_n (m := 1) o32
      obtain ⟨_, q⟩ := q
      rw [e1] at q
      by_cases c : 7 ≤ rcl w4 1
      · rw [if_pos c] at q
        rw [Int32.le_iff_toInt_le, e7] at c
        obtain ⟨z1, z2, z3⟩ := F213_111 hS4 q
        rw [z3]
        exact ⟨z1, FM_aS hS4 (by decide), fun _ y => by omega⟩
      · rw [if_neg c] at q
        rw [Int32.le_iff_toInt_le, e7] at c
        obtain ⟨_, j0, q⟩ := q
        obtain ⟨j1, q⟩ := q _ rfl
        obtain ⟨j2, q⟩ := q _ rfl
        obtain ⟨j3, q⟩ := q _ rfl
        have q := q _ rfl
        obtain ⟨w16, e16⟩ : ∃ w16, w16 = aS (aS (aS (aS w4 150 (102 + (4 * (rcl w4 1))) x) 150 ((102 + (4 * (rcl w4 1))) + 1) y) 150 ((102 + (4 * (rcl w4 1))) + 2) z) 150 ((102 + (4 * (rcl w4 1))) + 3) u := ⟨_, rfl⟩
        rw [← e16] at q
        have hS16 : SK w16 := by rw [e16]; exact SK_aS (SK_aS (SK_aS (SK_aS hS4)))
        obtain ⟨z1, z2, z3⟩ := F213_111 hS16 q
        have f16 : FM [] [150, 151] w4 w16 := by
          rw [e16]
          exact FM_trans (FM_aS hS4 (by decide)) (FM_trans (FM_aS (SK_aS hS4) (by decide)) (FM_trans (FM_aS (SK_aS (SK_aS hS4)) (by decide)) (FM_aS (SK_aS (SK_aS (SK_aS hS4))) (by decide))))
        refine ⟨z1, FM_trans f16 (by rw [z3]; exact FM_aS hS16 (by decide)), fun h0 h7 => ?_⟩
        have ek : (102 + (4 * (rcl w4 1))).toInt = (102 + 4 * (rcl w4 1).toInt.toNat : Nat) := by
          rw [zi_add e102 (zi_mul four32 rfl (by omega) (by omega)) (by omega) (by omega)]
          omega
        obtain ⟨_, l16, c16⟩ := W4 hS4 hl4 ek (by omega) j0 rfl j1 rfl j2 rfl j3 e16
        have g : gA w' 150 = (gA w16 150).set 1 (aG w16 150 1 + 1) := by rw [z3, gA_aS (aI_isA z2), i_nat (n := 1) o32]
        refine ⟨by rw [g, List.length_set]; exact l16, fun q => ?_⟩
        have e16' : aG w16 150 1 = rcl w4 1 := by
          rw [aG_n (m := 1) o32]
          show rcl w16 1 = _
          rw [c16 1, if_neg (by omega), if_neg (by omega), if_neg (by omega), if_neg (by omega)]
        have e : rcl w' q = if q = 1 then aG w16 150 1 + 1 else rcl w16 q := by
          unfold rcl
          rw [g, getD_set (by omega)]
        rw [e, e16', c16 q]
    rcases R_per (by decide) (Or.inr (by rw [badI_lo (by decide) (by decide), show lwL 12 0 = 0 from by decide +kernel, show lwH 12 0 = 8 from by decide +kernel, m1]; omega)) h q1 with ⟨a1, a2, a3, x, a4, a5, a6, a7, a8⟩ | ⟨a1, a2, a3, a4, x, a5⟩
    · obtain ⟨r4, w4, q4, q⟩ := q x a4 a2.2.2.2
      have hb1 : (fJ bs n i 12 f0 p0 1).1 ≠ 0 ∨ (badI 12 1 (nv bs n i 1) (nv bs n i) ↔ (nv bs n i 1 = x.toInt ∨ ¬ (0 ≤ nv bs n i 1 ∧ nv bs n i 1 ≤ 8))) := by
        by_cases c : (fJ bs n i 12 f0 p0 1).1 = 0
        · refine Or.inr ?_
          rw [badI_tw (Or.inr (Or.inr (Or.inr rfl))), show lwL 12 1 = 0 from by decide +kernel, show lwH 12 1 = 8 from by decide +kernel, a6 c]
        · exact Or.inl c
      rcases R_per (by decide) hb1 a5 q4 with ⟨b1, b2, b3, y, b4, b5, b6, b7, b8⟩ | ⟨b1, b2, b3, b4, y, b5⟩
      · obtain ⟨r7, w7, q7, q⟩ := q y b4 b2.2.2.2
        rcases R_num (by decide) (Or.inr (by rw [badI_lo (by decide) (by decide), show lwL 12 2 = 1 from by decide +kernel, show lwH 12 2 = 99 from by decide +kernel, o32, e99])) b5 q7 with ⟨c1, c2, c3, c9, z, c4, c5, c6⟩ | ⟨c1, c2, c3, c4, c5⟩
        · obtain ⟨r10, w10, q10, q⟩ := q z c4 c2.2.2.2
          rcases R_num (by decide) (Or.inr (by rw [badI_lo (by decide) (by decide), show lwL 12 3 = 0 from by decide +kernel, show lwH 12 3 = 99 from by decide +kernel, z32, e99])) c5 q10 with ⟨d1, d2, d3, d9, u, d4, d5, d6⟩ | ⟨d1, d2, d3, d4, d5⟩
          · have q := q u d4 d2.2.2.2
            have fm : FM rl7 [148] w w10 := FM_trans a2 (FM_trans b2 (FM_trans c2 d2))
            have af : AF w w10 := AF_trans a3 (AF_trans b3 (AF_trans c3 d3))
            have g10 : gA w10 150 = gA w 150 := FM_a fm (by decide)
            have rc10 : ∀ q, rcl w10 q = rcl w q := fun q => by unfold rcl; rw [g10]
            obtain ⟨y1, y2, y3⟩ := last w10 x y z u d2.2.2.2 (by rw [g10]; exact hl) q
            refine ⟨y1, FM_trans (FM_mono fm (by decide) (by decide)) (FM_mono y2 (by decide) (by decide)), AF_trans af (AF_eq (FM_a y2 (by decide))), Or.inr ⟨fun t ht => ?_, RS_wr d5 y2, fun hz => ?_⟩⟩
            · have ct : t = 0 ∨ t = 1 ∨ t = 2 ∨ t = 3 := by omega
              rcases ct with e | e | e | e
              · rw [e]; exact a1
              · rw [e]; exact b1
              · rw [e]; exact c1
              · rw [e]; exact d1
            · have hz3 := fJ_0 (by decide) hz
              have hz2 := fJ_0 (by decide) hz3
              have hz1 := fJ_0 (by decide) hz2
              have hz0 := fJ_0 (by decide) hz1
              have h7 := hc hz0
              rw [rc10] at y3
              obtain ⟨y4, y5⟩ := y3 (hc0 hz0) h7
              refine ⟨y4, fun q => ?_, ?_⟩
              · rw [y5 q, rc10]
                show _ = (if q = 1 then rcl w 1 + 1 else if 102 + 4 * (rcl w 1).toInt.toNat ≤ q ∧ q < 106 + 4 * (rcl w 1).toInt.toNat then ns32 bs n i (q - (102 + 4 * (rcl w 1).toInt.toNat)) else rcl w q)
                obtain ⟨m, hm⟩ : ∃ m, m = 102 + 4 * (rcl w 1).toInt.toNat := ⟨_, rfl⟩
                rw [show 106 + 4 * (rcl w 1).toInt.toNat = m + 4 by omega, ← hm]
                by_cases t1 : q = 1
                · rw [if_pos t1, if_pos t1]
                rw [if_neg t1, if_neg t1]
                by_cases s0 : q = m
                · rw [if_pos s0, if_pos (by omega), s0, Nat.sub_self]; exact ns32_of (a6 hz1)
                rw [if_neg s0]
                by_cases s1 : q = m + 1
                · rw [if_pos s1, if_pos (by omega), s1, show m + 1 - m = 1 by omega]; exact ns32_of (b6 hz2)
                rw [if_neg s1]
                by_cases s2 : q = m + 2
                · rw [if_pos s2, if_pos (by omega), s2, show m + 2 - m = 2 by omega]; exact ns32_of (c6 hz3)
                rw [if_neg s2]
                by_cases s3 : q = m + 3
                · rw [if_pos s3, if_pos (by omega), s3, show m + 3 - m = 3 by omega]; exact ns32_of (d6 hz)
                · rw [if_neg s3, if_neg (by omega)]
              · rw [FM_i y2 (by decide), d9, c9, b8, mx9, a8, mx9]
                show _ = max (gI w 147 9).toInt (max (ns32 bs n i 0).toInt (ns32 bs n i 1).toInt)
                rw [← ns32_of (a6 hz1), ← ns32_of (b6 hz2)]
                omega
          · have q := q _ d5 d2.2.2.2
            have fm : FM rl7 [148] w w10 := FM_trans a2 (FM_trans b2 (FM_trans c2 d2))
            have af : AF w w10 := AF_trans a3 (AF_trans b3 (AF_trans c3 d3))
            obtain ⟨y1, y2, _⟩ := last w10 x y z _ d2.2.2.2 (by rw [FM_a fm (by decide)]; exact hl) q
            refine ⟨y1, FM_trans (FM_mono fm (by decide) (by decide)) (FM_mono y2 (by decide) (by decide)), AF_trans af (AF_eq (FM_a y2 (by decide))), Or.inl ⟨3, by decide, fun t ht => ?_, d1, BK_wr d4 y2⟩⟩
            have ct : t = 0 ∨ t = 1 ∨ t = 2 := by omega
            rcases ct with e | e | e
            · rw [e]; exact a1
            · rw [e]; exact b1
            · rw [e]; exact c1
        · obtain ⟨r10, w10, q10, q⟩ := q _ c5 c2.2.2.2
          obtain ⟨d1, d2⟩ := F210_w c4.1 c4.2.1 q10
          subst w10
          have q := q _ d1 c2.2.2.2
          have fm : FM rl7 [148] w w7 := FM_trans a2 (FM_trans b2 c2)
          have af : AF w w7 := AF_trans a3 (AF_trans b3 c3)
          obtain ⟨y1, y2, _⟩ := last w7 x y _ _ c2.2.2.2 (by rw [FM_a fm (by decide)]; exact hl) q
          refine ⟨y1, FM_trans (FM_mono fm (by decide) (by decide)) (FM_mono y2 (by decide) (by decide)), AF_trans af (AF_eq (FM_a y2 (by decide))), Or.inl ⟨2, by decide, fun t ht => ?_, c1, BK_wr c4 y2⟩⟩
          have ct : t = 0 ∨ t = 1 := by omega
          rcases ct with e | e
          · rw [e]; exact a1
          · rw [e]; exact b1
      · obtain ⟨r7, w7, q7, q⟩ := q y b5 b2.2.2.2
        obtain ⟨d1, d2⟩ := F210_w b4.1 b4.2.1 q7
        subst w7
        obtain ⟨r10, w10, q10, q⟩ := q _ d1 b2.2.2.2
        obtain ⟨d1, d2⟩ := F210_w b4.1 b4.2.1 q10
        subst w10
        have q := q _ d1 b2.2.2.2
        have fm : FM rl7 [148] w w4 := FM_trans a2 b2
        have af : AF w w4 := AF_trans a3 b3
        obtain ⟨y1, y2, _⟩ := last w4 x y _ _ b2.2.2.2 (by rw [FM_a fm (by decide)]; exact hl) q
        exact ⟨y1, FM_trans (FM_mono fm (by decide) (by decide)) (FM_mono y2 (by decide) (by decide)), AF_trans af (AF_eq (FM_a y2 (by decide))), Or.inl ⟨1, by decide, fun t ht => by rw [show t = 0 by omega]; exact a1, b1, BK_wr b4 y2⟩⟩
    · obtain ⟨r4, w4, q4, q⟩ := q x a5 a2.2.2.2
      obtain ⟨y, b1, b2, b3, b4⟩ := BK_per a4 q4
      obtain ⟨r7, w7, q7, q⟩ := q y b1 b2.2.2.2
      obtain ⟨d1, d2⟩ := F210_w b4.1 b4.2.1 q7
      subst w7
      obtain ⟨r10, w10, q10, q⟩ := q _ d1 b2.2.2.2
      obtain ⟨d1, d2⟩ := F210_w b4.1 b4.2.1 q10
      subst w10
      have q := q _ d1 b2.2.2.2
      have fm : FM rl7 [148] w w4 := FM_trans a2 b2
      have af : AF w w4 := AF_trans a3 b3
      obtain ⟨y1, y2, _⟩ := last w4 x y _ _ b2.2.2.2 (by rw [FM_a fm (by decide)]; exact hl) q
      exact ⟨y1, FM_trans (FM_mono fm (by decide) (by decide)) (FM_mono y2 (by decide) (by decide)), AF_trans af (AF_eq (FM_a y2 (by decide))), Or.inl ⟨0, by decide, fun t ht => absurd ht (Nat.not_lt_zero t), a1, BK_wr b4 y2⟩⟩
end FS
