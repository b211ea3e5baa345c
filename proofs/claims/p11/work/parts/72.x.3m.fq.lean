section FQ
variable {X : pm_X} {k : Nat} {w0 w w' : pm_W} {r : Option Value} {p p1 p2 p3 f0 p0 : Int32} {bs : Nat → Int32} {n i v j : Nat}
theorem P31 {x y : Int32} (hS : SK w) (h2 : y ≠ 2) (q : PS X k 207 31 [.ref 147, .int x, .int y, pm_dead, pm_dead] [] w r w') : ∃ k', PS X k' 207 70 [.ref 147, .int x, .int y, pm_dead, pm_dead] [] w r w' := by
  cases k with
  | zero => exact (PS_0 q).elim
  | succ k =>
    have q := U207_31 hS q
    rw [if_neg h2] at q
    exact ⟨_, q⟩
theorem P70 {x y : Int32} {u3 u4 : Value} (hS : SK w) (h3 : y ≠ 3) (q : PS X k 207 70 [.ref 147, .int x, .int y, u3, u4] [] w r w') : ∃ k', PS X k' 207 121 [.ref 147, .int x, .int y, u3, u4] [] w r w' := by
  cases k with
  | zero => exact (PS_0 q).elim
  | succ k =>
    have q := U207_70 hS q
    rw [if_neg h3] at q
    exact ⟨_, q⟩
theorem P121 {x y : Int32} {u3 u4 : Value} (hS : SK w) (h4 : y ≠ 4) (h5 : y ≠ 5) (q : PS X k 207 121 [.ref 147, .int x, .int y, u3, u4] [] w r w') : ∃ k', PS X k' 207 182 [.ref 147, .int x, .int y, u3, u4] [] w r w' := by
  cases k with
  | zero => exact (PS_0 q).elim
  | succ k =>
    have q := U207_121 hS q
    rw [if_neg h4, if_neg h5] at q
    exact ⟨_, q⟩
theorem P182 {x y : Int32} {u3 u4 : Value} (hS : SK w) (h6 : y ≠ 6) (q : PS X k 207 182 [.ref 147, .int x, .int y, u3, u4] [] w r w') : ∃ k', PS X k' 207 201 [.ref 147, .int x, .int y, u3, u4] [] w r w' := by
  cases k with
  | zero => exact (PS_0 q).elim
  | succ k =>
    have q := U207_182 hS q
    rw [if_neg h6] at q
    exact ⟨_, q⟩
/-- no fault behind, none before -/
theorem fJ_0 (hj : j < 8) (hz : (fJ bs n i v f0 p0 (j + 1)).1 = 0) : (fJ bs n i v f0 p0 j).1 = 0 := by
  rw [fJ_s hj] at hz
  have hz : ntF (bJ bs n i v j) 2 (fJ bs n i v f0 p0 j).1 = 0 := hz
  by_cases c : (fJ bs n i v f0 p0 j).1 = 0
  · exact c
  · rw [ntF_any (b' := false) (kd' := 2) c] at hz
    exact hz
theorem ntF_z {b : Bool} {kd f : Int32} (hk : kd ≠ 0) (h : ntF b kd f = 0) : f = 0 ∧ b = false := by
  cases b with
  | false =>
    unfold ntF at h
    exact ⟨h, rfl⟩
  | true =>
    rw [ntF_t] at h
    by_cases c : f = 0
    · rw [if_pos c] at h; exact absurd h hk
    · rw [if_neg c] at h; exact absurd h c
theorem fJ_00 : ∀ l : Nat, (fJ bs n i v f0 p0 l).1 = 0 → f0 = 0
  | 0, h => h
  | l + 1, h => by
    have h : ntF (decide (8 ≤ l)) 3 (ntF (bJ bs n i v l) 2 (fJ bs n i v f0 p0 l).1) = 0 := h
    refine fJ_00 l ?_
    by_cases c : (fJ bs n i v f0 p0 l).1 = 0
    · exact c
    · rw [ntF_any (b := bJ bs n i v l) (b' := false) (kd' := 2) c, show ntF false 2 (fJ bs n i v f0 p0 l).1 = (fJ bs n i v f0 p0 l).1 from rfl, ntF_any (b' := false) (kd' := 3) c] at h
      exact h
/-- slack -/
theorem VL_11 {x0 : Int32} (hl : (gA w 150).length = 272) (h : RJ w bs n i 11 f0 p0 0) (q : PS X k 207 31 [.ref 147, .int x0, .int 6, pm_dead, pm_dead] [] w r w') : r = none ∧ VL w w' bs n i f0 p0 11 := by
  have hS : SK w := h.1
  obtain ⟨k1, q⟩ := P31 hS (by decide +kernel) q
  obtain ⟨k2, q⟩ := P70 hS (by decide +kernel) q
  obtain ⟨k3, q⟩ := P121 hS (by decide +kernel) (by decide +kernel) q
  cases k3 with
  | zero => exact (PS_0 q).elim
  | succ k3 =>
    have q := U207_182 hS q
    rw [if_pos rfl] at q
    obtain ⟨r4, w5, q1, q2⟩ := q
    have e9 : (9 : Int32).toInt = 9 := by decide +kernel
    have hd : dueN 11 = 1 := dN _ _ (by decide +kernel)
    rcases R_num (by decide) (Or.inr (by rw [badI_lo (by decide) (by decide), show lwL 11 0 = 0 from by decide +kernel, show lwH 11 0 = 9 from by decide +kernel, z32, e9])) h q1 with ⟨z1, z2, z3, z9, x, z4, z5, z6⟩ | ⟨z1, z2, z3, z4, z5⟩
    · obtain ⟨hI, q⟩ := q2 x z4 z2.2.2.2
      have q := q _ rfl
      obtain ⟨w7, e7⟩ : ∃ w7, w7 = aS w5 150 2 x := ⟨_, rfl⟩
      rw [← e7] at q
      have f7 : FM [] [150, 151] w5 w7 := by rw [e7]; exact FM_aS z2.2.2.2 (by decide)
      have h7 : RJ w7 bs n i 11 f0 p0 1 := RS_wr z5 f7
      obtain ⟨y1, k', y2⟩ := T201 f7.2.2.2 (E214_R h7) (by decide +kernel) q
      obtain ⟨g1, g2, g3⟩ := END_R (by decide) hd (fun t ht => by rw [show t = 0 by omega]; exact z1) h7 y2
      have fa : FM rl7 [148, 150, 151] w w' := FM_trans (FM_mono z2 (by decide) (by decide)) (FM_trans (FM_mono f7 (by decide) (by decide)) (FM_mono g1 (by decide) (by decide)))
      refine ⟨y1, fa, AF_trans (AF_trans z3 (AF_eq (FM_a f7 (by decide)))) g2, 1, ?_⟩
      rcases g3 with ⟨g3, g4⟩ | g3
      · refine Or.inr ⟨g3, g4, fun hz => ?_⟩
        have ga : gA w' 150 = (gA w 150).set 2 x := by rw [FM_a g1 (by decide), e7, gA_aS (aI_isA hI), i_nat (n := 2) two32, FM_a z2 (by decide)]
        refine ⟨by rw [ga, List.length_set]; exact hl, fun q => ?_, ?_⟩
        · unfold rcl
          rw [ga, getD_set (by omega), ns32_of (z6 hz)]
          rfl
        · rw [FM_i g1 (by decide), e7, gI_aS, z9]
          rfl
      · exact Or.inl g3
    · obtain ⟨hI, q⟩ := q2 _ z5 z2.2.2.2
      have q := q _ rfl
      obtain ⟨w7, e7⟩ : ∃ w7, w7 = aS w5 150 2 0 := ⟨_, rfl⟩
      rw [← e7] at q
      have f7 : FM [] [150, 151] w5 w7 := by rw [e7]; exact FM_aS z2.2.2.2 (by decide)
      have h7 := BK_wr z4 f7
      obtain ⟨y1, k', y2⟩ := T201 f7.2.2.2 (E214_B h7) (by decide +kernel) q
      have e := END_B h7 y2
      rw [e]
      exact ⟨y1, FM_trans (FM_mono z2 (by decide) (by decide)) (FM_mono f7 (by decide) (by decide)), AF_trans z3 (AF_eq (FM_a f7 (by decide))), 0, Or.inl ⟨FI_lt (by decide) (by omega) (fun t ht => absurd ht (Nat.not_lt_zero t)) z1, h7⟩⟩
theorem rem10 {u : Int32} {t : Nat} (hu : u.toInt = t) (ht : t < 81) : (u - u / 10 * 10) = 0 ↔ t % 10 = 0 := by
  have e := i32_of hu (by omega)
  have h : (List.range 81).all (fun t => decide ((Int32.ofNat t - Int32.ofNat t / 10 * 10) = 0) == decide (t % 10 = 0)) = true := by decide +kernel
  have q := List.all_eq_true.mp h t (List.mem_range.mpr ht)
  rw [e]
  exact decide_eq_decide.mp (eq_of_beq q)
/-- all words: the loop -/
theorem L86 {x0 y x : Int32} : ∀ (k : Nat) (w : pm_W) (t : Nat) (u : Int32), SK w → (gA w 150).length = 272 → u.toInt = t → t ≤ 81 → PS X k 207 86 [.ref 147, .int x0, .int y, .int x, .int u] [] w r w' → ∃ (k' : Nat) (w1 : pm_W) (u' : Int32), FM [] [150, 151] w w1 ∧ (gA w1 150).length = 272 ∧ (∀ q, rcl w1 q = if 3 + t ≤ q ∧ q < 84 then (if (q - 3) % 10 = 0 then 0 else x) else rcl w q) ∧ PS X k' 207 121 [.ref 147, .int x0, .int y, .int x, .int u'] [] w1 r w' := by
  intro k
  have e81 : (81 : Int32).toInt = 81 := by decide +kernel
  induction k with
  | zero => intro w t u hS hl hu ht h; exact (PS_0 h).elim
  | succ k ih =>
    intro w t u hS hl hu ht h
    have h := U207_86 hS h
    by_cases c : 81 ≤ u
    · rw [if_pos c] at h
      rw [Int32.le_iff_toInt_le, e81, hu] at c
      exact ⟨k, w, u, FM_refl hS, hl, fun q => by rw [if_neg (by omega)], h⟩
    · rw [if_neg c] at h
      rw [Int32.le_iff_toInt_le, e81, hu] at c
      have ei : (3 + u).toInt = (3 + t : Nat) := by
        rw [zi_add three32 hu (by omega) (by omega)]
        omega
      have em : (u - u / 10 * 10) = 0 ↔ t % 10 = 0 := rem10 hu (by omega)
      have go : ∀ (z : Int32), z = (if t % 10 = 0 then 0 else x) → aI w 150 (3 + u) → PS X k 207 86 [.ref 147, .int x0, .int y, .int x, .int (u + 1)] [] (aS w 150 (3 + u) z) r w' → ∃ (k' : Nat) (w1 : pm_W) (u' : Int32), FM [] [150, 151] w w1 ∧ (gA w1 150).length = 272 ∧ (∀ q, rcl w1 q = if 3 + t ≤ q ∧ q < 84 then (if (q - 3) % 10 = 0 then 0 else x) else rcl w q) ∧ PS X k' 207 121 [.ref 147, .int x0, .int y, .int x, .int u'] [] w1 r w' := by
        intro z hz hI q
        have g1 : gA (aS w 150 (3 + u) z) 150 = (gA w 150).set (3 + t) z := by rw [gA_aS (aI_isA hI), i_nat ei]
        obtain ⟨k', w1, u', a1, a2, a3, a4⟩ := ih _ (t + 1) (u + 1) (SK_aS hS) (by rw [g1, List.length_set]; exact hl) (by rw [zi_inc (n := 81) (by omega) (by omega), hu]; rfl) (by omega) q
        refine ⟨k', w1, u', FM_trans (FM_aS hS (by decide)) a1, a2, fun q => ?_, a4⟩
        rw [a3 q]
        unfold rcl
        rw [g1, getD_set (by omega)]
        by_cases c1 : q = 3 + t
        · rw [if_neg (by omega), if_pos c1, if_pos (by omega), hz, show (q - 3) % 10 = t % 10 by omega]
        · by_cases c2 : 3 + t ≤ q ∧ q < 84
          · rw [if_pos (by omega), if_pos c2]
          · rw [if_neg (by omega), if_neg c1, if_neg c2]
      by_cases c2 : (u - u / 10 * 10) = 0
      · rw [if_pos c2] at h
        exact go 0 (by rw [if_pos (em.mp c2)]) h.1 (h.2 _ rfl)
      · rw [if_neg c2] at h
        exact go x (by rw [if_neg (fun z => c2 (em.mpr z))]) h.1 (h.2 _ rfl)
/-- all -/
theorem VL_8 {x0 : Int32} (hl : (gA w 150).length = 272) (h : RJ w bs n i 8 f0 p0 0) (q : PS X k 207 31 [.ref 147, .int x0, .int 3, pm_dead, pm_dead] [] w r w') : r = none ∧ VL w w' bs n i f0 p0 8 := by
  have hS : SK w := h.1
  obtain ⟨k1, q⟩ := P31 hS (by decide +kernel) q
  cases k1 with
  | zero => exact (PS_0 q).elim
  | succ k1 =>
    have q := U207_70 hS q
    rw [if_pos rfl] at q
    obtain ⟨r4, w5, q1, q2⟩ := q
    have e99 : (99 : Int32).toInt = 99 := by decide +kernel
    have hd : dueN 8 = 1 := dN _ _ (by decide +kernel)
    rcases R_num (by decide) (Or.inr (by rw [badI_lo (by decide) (by decide), show lwL 8 0 = 0 from by decide +kernel, show lwH 8 0 = 99 from by decide +kernel, z32, e99])) h q1 with ⟨z1, z2, z3, z9, x, z4, z5, z6⟩ | ⟨z1, z2, z3, z4, z5⟩
    · have q := q2 x z4 z2.2.2.2
      have hl5 : (gA w5 150).length = 272 := by rw [FM_a z2 (by decide)]; exact hl
      obtain ⟨k2, w7, u', f7, l7, c7, q⟩ := L86 _ w5 0 0 z2.2.2.2 hl5 z32 (by omega) q
      have h7 : RJ w7 bs n i 8 f0 p0 1 := RS_wr z5 f7
      obtain ⟨y1, k', y2⟩ := T121 f7.2.2.2 (E214_R h7) (by decide +kernel) (by decide +kernel) (by decide +kernel) (by decide +kernel) q
      obtain ⟨g1, g2, g3⟩ := END_R (by decide) hd (fun t ht => by rw [show t = 0 by omega]; exact z1) h7 y2
      have fa : FM rl7 [148, 150, 151] w w' := FM_trans (FM_mono z2 (by decide) (by decide)) (FM_trans (FM_mono f7 (by decide) (by decide)) (FM_mono g1 (by decide) (by decide)))
      refine ⟨y1, fa, AF_trans (AF_trans z3 (AF_eq (FM_a f7 (by decide)))) g2, 1, ?_⟩
      rcases g3 with ⟨g3, g4⟩ | g3
      · refine Or.inr ⟨g3, g4, fun hz => ?_⟩
        refine ⟨by rw [FM_a g1 (by decide)]; exact l7, fun q => ?_, ?_⟩
        · have e : rcl w' q = rcl w7 q := by unfold rcl; rw [FM_a g1 (by decide)]
          have e5 : rcl w5 q = rcl w q := by unfold rcl; rw [FM_a z2 (by decide)]
          rw [e, c7 q, e5, ns32_of (z6 hz)]
          rfl
        · rw [FM_i g1 (by decide), FM_i f7 (by decide), z9]
          rfl
      · exact Or.inl g3
    · have q := q2 _ z5 z2.2.2.2
      have hl5 : (gA w5 150).length = 272 := by rw [FM_a z2 (by decide)]; exact hl
      obtain ⟨k2, w7, u', f7, l7, c7, q⟩ := L86 _ w5 0 0 z2.2.2.2 hl5 z32 (by omega) q
      have h7 := BK_wr z4 f7
      obtain ⟨y1, k', y2⟩ := T121 f7.2.2.2 (E214_B h7) (by decide +kernel) (by decide +kernel) (by decide +kernel) (by decide +kernel) q
      have e := END_B h7 y2
      rw [e]
      exact ⟨y1, FM_trans (FM_mono z2 (by decide) (by decide)) (FM_mono f7 (by decide) (by decide)), AF_trans z3 (AF_eq (FM_a f7 (by decide))), 0, Or.inl ⟨FI_lt (by decide) (by omega) (fun t ht => absurd ht (Nat.not_lt_zero t)) z1, h7⟩⟩
theorem BK_per {than : Int32} (h : BK w bs n i) (q : PS X k 212 0 [.ref 147, .int than, pm_dead] [] w r w') : ∃ x : Int32, r = some (.int x) ∧ FM rl7 [148] w w' ∧ AF w w' ∧ BK w' bs n i := by
  obtain ⟨s1, s2, s3, s4⟩ := h
  obtain ⟨x, z1, z2, z3, z4⟩ := F212_w s1 s2 q
  exact ⟨x, z1, z2, AF_eq z3, z2.2.2.2, by rw [z4]; exact s2, by unfold qF; rw [z3]; exact s3, by unfold qP; rw [z3]; exact s4⟩
theorem mx9 {x y : Int32} : (if x ≤ y then y else x).toInt = max y.toInt x.toInt := by
  by_cases c : x ≤ y
  · rw [if_pos c]
    rw [Int32.le_iff_toInt_le] at c
    omega
  · rw [if_neg c]
    rw [Int32.le_iff_toInt_le] at c
    omega
/-- word -/
theorem VL_7 {x0 : Int32} (hl : (gA w 150).length = 272) (h : RJ w bs n i 7 f0 p0 0) (q : PS X k 207 31 [.ref 147, .int x0, .int 2, pm_dead, pm_dead] [] w r w') : r = none ∧ VL w w' bs n i f0 p0 7 := by
  have hS : SK w := h.1
  cases k with
  | zero => exact (PS_0 q).elim
  | succ k =>
    have q := U207_31 hS q
    rw [if_pos rfl] at q
    have e8 : (8 : Int32).toInt = 8 := eight32
    have e99 : (99 : Int32).toInt = 99 := by decide +kernel
    have m1 : ((-1 : Int32)).toInt = -1 := by decide +kernel
    have hd : dueN 7 = 3 := dN _ _ (by decide +kernel)
    have e9 : (9 : Int32).toInt = 9 := by decide +kernel
    obtain ⟨r1, w1, q1, q⟩ := q
    -- broken: to the end
    have brk : ∀ (w10 : pm_W) (j : Nat) (u3 u4 : Value) (k' : Nat), FM rl7 [148, 150, 151] w w10 → AF w w10 → BK w10 bs n (tP bs n i (j + 1)) → FI bs n i 7 j → PS X k' 207 70 [.ref 147, .int x0, .int 2, u3, u4] [] w10 r w' → r = none ∧ VL w w' bs n i f0 p0 7 := by
      intro w10 j u3 u4 k' fm af hB hF q
      obtain ⟨y1, k2, y2⟩ := T70 fm.2.2.2 (E214_B hB) (by decide +kernel) (by decide +kernel) (by decide +kernel) (by decide +kernel) (by decide +kernel) q
      have e := END_B hB y2
      rw [e]
      exact ⟨y1, fm, af, j, Or.inl ⟨hF, hB⟩⟩
    rcases R_per (by decide) (Or.inr (by rw [badI_lo (by decide) (by decide), show lwL 7 0 = 0 from by decide +kernel, show lwH 7 0 = 8 from by decide +kernel, m1]; omega)) h q1 with ⟨a1, a2, a3, x, a4, a5, a6, a7, a8⟩ | ⟨a1, a2, a3, a4, x, a5⟩
    · obtain ⟨r4, w4, q4, q⟩ := q x a4 a2.2.2.2
      have hb1 : (fJ bs n i 7 f0 p0 1).1 ≠ 0 ∨ (badI 7 1 (nv bs n i 1) (nv bs n i) ↔ (nv bs n i 1 = x.toInt ∨ ¬ (0 ≤ nv bs n i 1 ∧ nv bs n i 1 ≤ 8))) := by
        by_cases c : (fJ bs n i 7 f0 p0 1).1 = 0
        · refine Or.inr ?_
          rw [badI_tw (Or.inr (Or.inr (Or.inl rfl))), show lwL 7 1 = 0 from by decide +kernel, show lwH 7 1 = 8 from by decide +kernel, a6 c]
        · exact Or.inl c
      rcases R_per (by decide) hb1 a5 q4 with ⟨b1, b2, b3, y, b4, b5, b6, b7, b8⟩ | ⟨b1, b2, b3, b4, y, b5⟩
      · obtain ⟨r7, w7, q7, q⟩ := q y b4 b2.2.2.2
        rcases R_num (by decide) (Or.inr (by rw [badI_lo (by decide) (by decide), show lwL 7 2 = 0 from by decide +kernel, show lwH 7 2 = 99 from by decide +kernel, z32, e99])) b5 q7 with ⟨c1, c2, c3, c9, z, c4, c5, c6⟩ | ⟨c1, c2, c3, c4, c5⟩
        · obtain ⟨hI, q⟩ := q z c4 c2.2.2.2
          have q := q _ rfl
          obtain ⟨w10, e10⟩ : ∃ w10, w10 = aS w7 150 (3 + 9 * x + y) z := ⟨_, rfl⟩
          rw [← e10] at q
          have f10 : FM [] [150, 151] w7 w10 := by rw [e10]; exact FM_aS c2.2.2.2 (by decide)
          have h10 : RJ w10 bs n i 7 f0 p0 3 := RS_wr c5 f10
          obtain ⟨y1, k', y2⟩ := T70 f10.2.2.2 (E214_R h10) (by decide +kernel) (by decide +kernel) (by decide +kernel) (by decide +kernel) (by decide +kernel) q
          obtain ⟨g1, g2, g3⟩ := END_R (by decide) hd (fun t ht => by
            have ct : t = 0 ∨ t = 1 ∨ t = 2 := by omega
            rcases ct with e | e | e
            · rw [e]; exact a1
            · rw [e]; exact b1
            · rw [e]; exact c1) h10 y2
          have fabc : FM rl7 [148] w w7 := FM_trans a2 (FM_trans b2 c2)
          have fa : FM rl7 [148, 150, 151] w w' := FM_trans (FM_mono fabc (by decide) (by decide)) (FM_trans (FM_mono f10 (by decide) (by decide)) (FM_mono g1 (by decide) (by decide)))
          refine ⟨y1, fa, AF_trans (AF_trans (AF_trans a3 (AF_trans b3 c3)) (AF_eq (FM_a f10 (by decide)))) g2, 3, ?_⟩
          rcases g3 with ⟨g3, g4⟩ | g3
          · refine Or.inr ⟨g3, g4, fun hz => ?_⟩
            have hz2 := fJ_0 (by decide) hz
            have hz1 := fJ_0 (by decide) hz2
            have ei : (3 + 9 * x + y).toInt = (3 + (9 * x.toInt.toNat + y.toInt.toNat) : Nat) := by
              rw [zi_add (zi_add three32 (zi_mul e9 rfl (by omega) (by omega)) (by omega) (by omega)) rfl (by omega) (by omega)]
              omega
            have ga : gA w' 150 = (gA w 150).set (3 + (9 * x.toInt.toNat + y.toInt.toNat)) z := by rw [FM_a g1 (by decide), e10, gA_aS (aI_isA hI), i_nat ei, FM_a fabc (by decide)]
            refine ⟨by rw [ga, List.length_set]; exact hl, fun q => ?_, ?_⟩
            · unfold rcl
              rw [ga, getD_set (by omega)]
              show _ = (if q = 3 + (9 * (ns32 bs n i 0).toInt.toNat + (ns32 bs n i 1).toInt.toNat) then ns32 bs n i 2 else (gA w 150).getD q 0)
              rw [← ns32_of (a6 hz1), ← ns32_of (b6 hz2), ← ns32_of (c6 hz)]
            · rw [FM_i g1 (by decide), e10, gI_aS, c9, b8, mx9, a8, mx9]
              show _ = max (gI w 147 9).toInt (max (ns32 bs n i 0).toInt (ns32 bs n i 1).toInt)
              rw [← ns32_of (a6 hz1), ← ns32_of (b6 hz2)]
              omega
          · exact Or.inl g3
        · obtain ⟨hI, q⟩ := q _ c5 c2.2.2.2
          have q := q _ rfl
          have f10 : FM [] [150, 151] w7 (aS w7 150 (3 + 9 * x + y) 0) := FM_aS c2.2.2.2 (by decide)
          exact brk _ 2 _ _ _ (FM_trans (FM_mono (FM_trans a2 (FM_trans b2 c2)) (by decide) (by decide)) (FM_mono f10 (by decide) (by decide))) (AF_trans (AF_trans a3 (AF_trans b3 c3)) (AF_eq (FM_a f10 (by decide)))) (BK_wr c4 f10) (FI_lt (by decide) (by omega) (fun t ht => by
            have ct : t = 0 ∨ t = 1 := by omega
            rcases ct with e | e
            · rw [e]; exact a1
            · rw [e]; exact b1) c1) q
      · obtain ⟨r7, w7, q7, q⟩ := q y b5 b2.2.2.2
        obtain ⟨d1, d2⟩ := F210_w b4.1 b4.2.1 q7
        subst w7
        obtain ⟨hI, q⟩ := q _ d1 b2.2.2.2
        have q := q _ rfl
        have f10 : FM [] [150, 151] w4 (aS w4 150 (3 + 9 * x + y) 0) := FM_aS b2.2.2.2 (by decide)
        exact brk _ 1 _ _ _ (FM_trans (FM_mono (FM_trans a2 b2) (by decide) (by decide)) (FM_mono f10 (by decide) (by decide))) (AF_trans (AF_trans a3 b3) (AF_eq (FM_a f10 (by decide)))) (BK_wr b4 f10) (FI_lt (by decide) (by omega) (fun t ht => by rw [show t = 0 by omega]; exact a1) b1) q
    · obtain ⟨r4, w4, q4, q⟩ := q x a5 a2.2.2.2
      obtain ⟨y, b1, b2, b3, b4⟩ := BK_per a4 q4
      obtain ⟨r7, w7, q7, q⟩ := q y b1 b2.2.2.2
      obtain ⟨d1, d2⟩ := F210_w b4.1 b4.2.1 q7
      subst w7
      obtain ⟨hI, q⟩ := q _ d1 b2.2.2.2
      have q := q _ rfl
      have f10 : FM [] [150, 151] w4 (aS w4 150 (3 + 9 * x + y) 0) := FM_aS b2.2.2.2 (by decide)
      exact brk _ 0 _ _ _ (FM_trans (FM_mono (FM_trans a2 b2) (by decide) (by decide)) (FM_mono f10 (by decide) (by decide))) (AF_trans (AF_trans a3 b3) (AF_eq (FM_a f10 (by decide)))) (BK_wr b4 f10) (FI_lt (by decide) (by omega) (fun t ht => absurd ht (Nat.not_lt_zero t)) a1) q
end FQ
