section FR
variable {X : pm_X} {k : Nat} {w0 w w' : pm_W} {r : Option Value} {p p1 p2 p3 f0 p0 : Int32} {bs : Nat → Int32} {n i v j : Nat}
/-- fee -/
theorem VL_9 {x0 : Int32} (hl : (gA w 150).length = 272) (h : RJ w bs n i 9 f0 p0 0) (q : PS X k 207 31 [.ref 147, .int x0, .int 4, pm_dead, pm_dead] [] w r w') : r = none ∧ VL w w' bs n i f0 p0 9 := by
  have hS : SK w := h.1
  obtain ⟨k1, q⟩ := P31 hS (by decide +kernel) q
  obtain ⟨k2, q⟩ := P70 hS (by decide +kernel) q
  cases k2 with
  | zero => exact (PS_0 q).elim
  | succ k2 =>
    have q := U207_121 hS q
    rw [if_pos rfl] at q
    cases k2 with
    | zero => exact (PS_0 q).elim
    | succ k2 =>
      have q := U207_131 hS q
      have ehi : (99 : Int32).toInt = 99 := by decide +kernel
      have m1 : ((-1 : Int32)).toInt = -1 := by decide +kernel
      have hd : dueN 9 = 2 := dN _ _ (by decide +kernel)
      obtain ⟨r1, w1, q1, q⟩ := q
      -- broken: to the end
      have brk : ∀ (w10 : pm_W) (j : Nat) (u3 u4 : Value) (k' : Nat), FM rl7 [148, 150, 151] w w10 → AF w w10 → BK w10 bs n (tP bs n i (j + 1)) → FI bs n i 9 j → PS X k' 207 182 [.ref 147, .int x0, .int 4, u3, u4] [] w10 r w' → r = none ∧ VL w w' bs n i f0 p0 9 := by
        intro w10 j u3 u4 k' fm af hB hF q
        obtain ⟨y1, k2, y2⟩ := T182 fm.2.2.2 (E214_B hB) (by decide +kernel) (by decide +kernel) q
        have e := END_B hB y2
        rw [e]
        exact ⟨y1, fm, af, j, Or.inl ⟨hF, hB⟩⟩
      rcases R_per (by decide) (Or.inr (by rw [badI_lo (by decide) (by decide), show lwL 9 0 = 0 from by decide +kernel, show lwH 9 0 = 8 from by decide +kernel, m1]; omega)) h q1 with ⟨a1, a2, a3, x, a4, a5, a6, a7, a8⟩ | ⟨a1, a2, a3, a4, x, a5⟩
      · have q := q x a4 a2.2.2.2
        rw [if_pos rfl] at q
        obtain ⟨r4, w4, q4, q⟩ := q
        rcases R_num (by decide) (Or.inr (by rw [badI_lo (by decide) (by decide), show lwL 9 1 = 0 from by decide +kernel, show lwH 9 1 = 99 from by decide +kernel, z32, ehi])) a5 q4 with ⟨c1, c2, c3, c9, z, c4, c5, c6⟩ | ⟨c1, c2, c3, c4, c5⟩
        · have q := q z c4 c2.2.2.2
          rw [if_pos rfl] at q
          obtain ⟨hI, q⟩ := q
          have q := q _ rfl
          obtain ⟨w10, e10⟩ : ∃ w10, w10 = aS w4 150 (84 + x) z := ⟨_, rfl⟩
          rw [← e10] at q
          have f10 : FM [] [150, 151] w4 w10 := by rw [e10]; exact FM_aS c2.2.2.2 (by decide)
          have h10 : RJ w10 bs n i 9 f0 p0 2 := RS_wr c5 f10
          obtain ⟨y1, k', y2⟩ := T182 f10.2.2.2 (E214_R h10) (by decide +kernel) (by decide +kernel) q
          obtain ⟨g1, g2, g3⟩ := END_R (by decide) hd (fun t ht => by
            have ct : t = 0 ∨ t = 1 := by omega
            rcases ct with e | e
            · rw [e]; exact a1
            · rw [e]; exact c1) h10 y2
          have fabc : FM rl7 [148] w w4 := FM_trans a2 c2
          have fa : FM rl7 [148, 150, 151] w w' := FM_trans (FM_mono fabc (by decide) (by decide)) (FM_trans (FM_mono f10 (by decide) (by decide)) (FM_mono g1 (by decide) (by decide)))
          refine ⟨y1, fa, AF_trans (AF_trans (AF_trans a3 c3) (AF_eq (FM_a f10 (by decide)))) g2, 2, ?_⟩
          rcases g3 with ⟨g3, g4⟩ | g3
          · refine Or.inr ⟨g3, g4, fun hz => ?_⟩
            have hz1 := fJ_0 (by decide) hz
            have eo : (84 : Int32).toInt = 84 := by decide +kernel
            have ei : (84 + x).toInt = (84 + x.toInt.toNat : Nat) := by
              rw [zi_add eo rfl (by omega) (by omega)]
              omega
            have ga : gA w' 150 = (gA w 150).set (84 + x.toInt.toNat) z := by rw [FM_a g1 (by decide), e10, gA_aS (aI_isA hI), i_nat ei, FM_a fabc (by decide)]
            refine ⟨by rw [ga, List.length_set]; exact hl, fun q => ?_, ?_⟩
            · unfold rcl
              rw [ga, getD_set (by omega)]
              show _ = (if q = 84 + (ns32 bs n i 0).toInt.toNat then ns32 bs n i 1 else (gA w 150).getD q 0)
              rw [← ns32_of (a6 hz1), ← ns32_of (c6 hz)]
            · rw [FM_i g1 (by decide), e10, gI_aS, c9, a8, mx9]
              show _ = max (gI w 147 9).toInt (ns32 bs n i 0).toInt
              rw [← ns32_of (a6 hz1)]
          · exact Or.inl g3
        · have q := q _ c5 c2.2.2.2
          rw [if_pos rfl] at q
          obtain ⟨hI, q⟩ := q
          have q := q _ rfl
          have f10 : FM [] [150, 151] w4 (aS w4 150 (84 + x) 0) := FM_aS c2.2.2.2 (by decide)
          exact brk _ 1 _ _ _ (FM_trans (FM_mono (FM_trans a2 c2) (by decide) (by decide)) (FM_mono f10 (by decide) (by decide))) (AF_trans (AF_trans a3 c3) (AF_eq (FM_a f10 (by decide)))) (BK_wr c4 f10) (FI_lt (by decide) (by omega) (fun t ht => by rw [show t = 0 by omega]; exact a1) c1) q
      · have q := q x a5 a2.2.2.2
        rw [if_pos rfl] at q
        obtain ⟨r4, w4, q4, q⟩ := q
        obtain ⟨d1, d2⟩ := F210_w a4.1 a4.2.1 q4
        subst w4
        have q := q _ d1 a2.2.2.2
        rw [if_pos rfl] at q
        obtain ⟨hI, q⟩ := q
        have q := q _ rfl
        have f10 : FM [] [150, 151] w1 (aS w1 150 (84 + x) 0) := FM_aS a2.2.2.2 (by decide)
        exact brk _ 0 _ _ _ (FM_trans (FM_mono a2 (by decide) (by decide)) (FM_mono f10 (by decide) (by decide))) (AF_trans a3 (AF_eq (FM_a f10 (by decide)))) (BK_wr a4 f10) (FI_lt (by decide) (by omega) (fun t ht => absurd ht (Nat.not_lt_zero t)) a1) q
/-- risk -/
theorem VL_10 {x0 : Int32} (hl : (gA w 150).length = 272) (h : RJ w bs n i 10 f0 p0 0) (q : PS X k 207 31 [.ref 147, .int x0, .int 5, pm_dead, pm_dead] [] w r w') : r = none ∧ VL w w' bs n i f0 p0 10 := by
  have hS : SK w := h.1
  obtain ⟨k1, q⟩ := P31 hS (by decide +kernel) q
  obtain ⟨k2, q⟩ := P70 hS (by decide +kernel) q
  cases k2 with
  | zero => exact (PS_0 q).elim
  | succ k2 =>
    have q := U207_121 hS q
    rw [if_neg (show ¬ (5 : Int32) = 4 from by decide +kernel), if_pos rfl] at q
    cases k2 with
    | zero => exact (PS_0 q).elim
    | succ k2 =>
      have q := U207_131 hS q
      have ehi : (100 : Int32).toInt = 100 := by decide +kernel
      have m1 : ((-1 : Int32)).toInt = -1 := by decide +kernel
      have hd : dueN 10 = 2 := dN _ _ (by decide +kernel)
      obtain ⟨r1, w1, q1, q⟩ := q
      -- broken: to the end
      have brk : ∀ (w10 : pm_W) (j : Nat) (u3 u4 : Value) (k' : Nat), FM rl7 [148, 150, 151] w w10 → AF w w10 → BK w10 bs n (tP bs n i (j + 1)) → FI bs n i 10 j → PS X k' 207 182 [.ref 147, .int x0, .int 5, u3, u4] [] w10 r w' → r = none ∧ VL w w' bs n i f0 p0 10 := by
        intro w10 j u3 u4 k' fm af hB hF q
        obtain ⟨y1, k2, y2⟩ := T182 fm.2.2.2 (E214_B hB) (by decide +kernel) (by decide +kernel) q
        have e := END_B hB y2
        rw [e]
        exact ⟨y1, fm, af, j, Or.inl ⟨hF, hB⟩⟩
      rcases R_per (by decide) (Or.inr (by rw [badI_lo (by decide) (by decide), show lwL 10 0 = 0 from by decide +kernel, show lwH 10 0 = 8 from by decide +kernel, m1]; omega)) h q1 with ⟨a1, a2, a3, x, a4, a5, a6, a7, a8⟩ | ⟨a1, a2, a3, a4, x, a5⟩
      · have q := q x a4 a2.2.2.2
        rw [if_neg (show ¬ (5 : Int32) = 4 from by decide +kernel)] at q
        obtain ⟨r4, w4, q4, q⟩ := q
        rcases R_num (by decide) (Or.inr (by rw [badI_lo (by decide) (by decide), show lwL 10 1 = 0 from by decide +kernel, show lwH 10 1 = 100 from by decide +kernel, z32, ehi])) a5 q4 with ⟨c1, c2, c3, c9, z, c4, c5, c6⟩ | ⟨c1, c2, c3, c4, c5⟩
        · have q := q z c4 c2.2.2.2
          rw [if_neg (show ¬ (5 : Int32) = 4 from by decide +kernel)] at q
          obtain ⟨hI, q⟩ := q
          have q := q _ rfl
          obtain ⟨w10, e10⟩ : ∃ w10, w10 = aS w4 150 (93 + x) z := ⟨_, rfl⟩
          rw [← e10] at q
          have f10 : FM [] [150, 151] w4 w10 := by rw [e10]; exact FM_aS c2.2.2.2 (by decide)
          have h10 : RJ w10 bs n i 10 f0 p0 2 := RS_wr c5 f10
          obtain ⟨y1, k', y2⟩ := T182 f10.2.2.2 (E214_R h10) (by decide +kernel) (by decide +kernel) q
          obtain ⟨g1, g2, g3⟩ := END_R (by decide) hd (fun t ht => by
            have ct : t = 0 ∨ t = 1 := by omega
            rcases ct with e | e
            · rw [e]; exact a1
            · rw [e]; exact c1) h10 y2
          have fabc : FM rl7 [148] w w4 := FM_trans a2 c2
          have fa : FM rl7 [148, 150, 151] w w' := FM_trans (FM_mono fabc (by decide) (by decide)) (FM_trans (FM_mono f10 (by decide) (by decide)) (FM_mono g1 (by decide) (by decide)))
          refine ⟨y1, fa, AF_trans (AF_trans (AF_trans a3 c3) (AF_eq (FM_a f10 (by decide)))) g2, 2, ?_⟩
          rcases g3 with ⟨g3, g4⟩ | g3
          · refine Or.inr ⟨g3, g4, fun hz => ?_⟩
            have hz1 := fJ_0 (by decide) hz
            have eo : (93 : Int32).toInt = 93 := by decide +kernel
            have ei : (93 + x).toInt = (93 + x.toInt.toNat : Nat) := by
              rw [zi_add eo rfl (by omega) (by omega)]
              omega
            have ga : gA w' 150 = (gA w 150).set (93 + x.toInt.toNat) z := by rw [FM_a g1 (by decide), e10, gA_aS (aI_isA hI), i_nat ei, FM_a fabc (by decide)]
            refine ⟨by rw [ga, List.length_set]; exact hl, fun q => ?_, ?_⟩
            · unfold rcl
              rw [ga, getD_set (by omega)]
              show _ = (if q = 93 + (ns32 bs n i 0).toInt.toNat then ns32 bs n i 1 else (gA w 150).getD q 0)
              rw [← ns32_of (a6 hz1), ← ns32_of (c6 hz)]
            · rw [FM_i g1 (by decide), e10, gI_aS, c9, a8, mx9]
              show _ = max (gI w 147 9).toInt (ns32 bs n i 0).toInt
              rw [← ns32_of (a6 hz1)]
          · exact Or.inl g3
        · have q := q _ c5 c2.2.2.2
          rw [if_neg (show ¬ (5 : Int32) = 4 from by decide +kernel)] at q
          obtain ⟨hI, q⟩ := q
          have q := q _ rfl
          have f10 : FM [] [150, 151] w4 (aS w4 150 (93 + x) 0) := FM_aS c2.2.2.2 (by decide)
          exact brk _ 1 _ _ _ (FM_trans (FM_mono (FM_trans a2 c2) (by decide) (by decide)) (FM_mono f10 (by decide) (by decide))) (AF_trans (AF_trans a3 c3) (AF_eq (FM_a f10 (by decide)))) (BK_wr c4 f10) (FI_lt (by decide) (by omega) (fun t ht => by rw [show t = 0 by omega]; exact a1) c1) q
      · have q := q x a5 a2.2.2.2
        rw [if_neg (show ¬ (5 : Int32) = 4 from by decide +kernel)] at q
        obtain ⟨r4, w4, q4, q⟩ := q
        obtain ⟨d1, d2⟩ := F210_w a4.1 a4.2.1 q4
        subst w4
        have q := q _ d1 a2.2.2.2
        rw [if_neg (show ¬ (5 : Int32) = 4 from by decide +kernel)] at q
        obtain ⟨hI, q⟩ := q
        have q := q _ rfl
        have f10 : FM [] [150, 151] w1 (aS w1 150 (93 + x) 0) := FM_aS a2.2.2.2 (by decide)
        exact brk _ 0 _ _ _ (FM_trans (FM_mono a2 (by decide) (by decide)) (FM_mono f10 (by decide) (by decide))) (AF_trans a3 (AF_eq (FM_a f10 (by decide)))) (BK_wr a4 f10) (FI_lt (by decide) (by omega) (fun t ht => absurd ht (Nat.not_lt_zero t)) a1) q
end FR
