section
section FQ
variable {X : pm_X} {k : Nat} {w0 w w' : pm_W} {r : Option Value} {p p1 p2 p3 f0 p0 : Int32} {bs : Nat → Int32} {n i v j : Nat}
theorem P31 {x y : Int32} (hS : SK w) (h2 : y ≠ 2) (q : PS X k 207 31 [.ref 147, .int x, .int y, pm_dead, pm_dead] [] w r w') : ∃ k', PS X k' 207 70 [.ref 147, .int x, .int y, pm_dead, pm_dead] [] w r w' := by
  cases k with
  | zero => exact (PS_0 q).elim
  | succ k =>
    have q := U207_31 hS q
    rw [if_neg h2] at q
    exact ⟨_, q⟩
theorem P70 {x y : Int32} {u3 u4 : Value} (hS : SK w) (h3 : y ≠ 3) (q : PS X k 207 70 [.ref 147, .int x, .int y, u3, u4] [] w r w') : ∃ k', PS X k' 207 121 [.ref 147, .int x, .int y, u3, u4] [] w r w' := by
  cases k with
  | zero => exact (PS_0 q).elim
  | succ k =>
    have q := U207_70 hS q
    rw [if_neg h3] at q
    exact ⟨_, q⟩
theorem P121 {x y : Int32} {u3 u4 : Value} (hS : SK w) (h4 : y ≠ 4) (h5 : y ≠ 5) (q : PS X k 207 121 [.ref 147, .int x, .int y, u3, u4] [] w r w') : ∃ k', PS X k' 207 182 [.ref 147, .int x, .int y, u3, u4] [] w r w' := by
  cases k with
  | zero => exact (PS_0 q).elim
  | succ k =>
    have q := U207_121 hS q
    rw [if_neg h4, if_neg h5] at q
    exact ⟨_, q⟩
theorem P182 {x y : Int32} {u3 u4 : Value} (hS : SK w) (h6 : y ≠ 6) (q : PS X k 207 182 [.ref 147, .int x, .int y, u3, u4] [] w r w') : ∃ k', PS X k' 207 201 [.ref 147, .int x, .int y, u3, u4] [] w r w' := by
  cases k with
  | zero => exact (PS_0 q).elim
  | succ k =>
    have q := U207_182 hS q
    rw [if_neg h6] at q
    exact ⟨_, q⟩
/-- no fault behind, none before -/
theorem fJ_0 (hj : j < 8) (hz : (fJ bs n i v f0 p0 (j + 1)).1 = 0) : (fJ bs n i v f0 p0 j).1 = 0 := by
  rw [fJ_s hj] at hz
  have hz : ntF (bJ bs n i v j) 2 (fJ bs n i v f0 p0 j).1 = 0 := hz
  by_cases c : (fJ bs n i v f0 p0 j).1 = 0
  · exact c
  · rw [ntF_any (b' := false) (kd' := 2) c] at hz
    exact hz
theorem ntF_z {b : Bool} {kd f : Int32} (hk : kd ≠ 0) (h : ntF b kd f = 0) : f = 0 ∧ b = false := by
  cases b with
  | false =>
    unfold ntF at h
    exact ⟨h, rfl⟩
  | true =>
    rw [ntF_t] at h
    by_cases c : f = 0
    · rw [if_pos c] at h; exact absurd h hk
    · rw [if_neg c] at h; exact absurd h c
theorem fJ_00 : ∀ l : Nat, (fJ bs n i v f0 p0 l).1 = 0 → f0 = 0
  | 0, h => h
  | l + 1, h => by
    have h : ntF (decide (8 ≤ l)) 3 (ntF (bJ bs n i v l) 2 (fJ bs n i v f0 p0 l).1) = 0 := h
    refine fJ_00 l ?_
    by_cases c : (fJ bs n i v f0 p0 l).1 = 0
    · exact c
    · rw [ntF_any (b := bJ bs n i v l) (b' := false) (kd' := 2) c, show ntF false 2 (fJ bs n i v f0 p0 l).1 = (fJ bs n i v f0 p0 l).1 from rfl, ntF_any (b' := false) (kd' := 3) c] at h
      exact h
/-- slack -/
theorem VL_11 {x0 : Int32} (hl : (gA w 150).length = 272) (h : RJ w bs n i 11 f0 p0 0) (q : PS X k 207 31 [.ref 147, .int x0, .int 6, pm_dead, pm_dead] [] w r w') : r = none ∧ VL w w' bs n i f0 p0 11 := by
  have hS : SK w := h.1
  obtain ⟨k1, q⟩ := P31 hS (by decide +kernel) q
  obtain ⟨k2, q⟩ := P70 hS (by decide +kernel) q
  obtain ⟨k3, q⟩ := P121 hS (by decide +kernel) (by decide +kernel) q
  cases k3 with
  | zero => exact (PS_0 q).elim
  | succ k3 =>
    have q := U207_182 hS q
    rw [if_pos rfl] at q
    obtain ⟨r4, w5, q1, q2⟩ := q
    have e9 : (9 : Int32).toInt = 9 := by decide +kernel
    have hd : dueN 11 = 1 := dN _ _ (by decide +kernel)
    rcases R_num (by decide) (Or.inr (by rw [badI_lo (by decide) (by decide), show lwL 11 0 = 0 from by decide +kernel, show lwH 11 0 = 9 from by decide +kernel, z32, e9])) h q1 with ⟨z1, z2, z3, z9, x, z4, z5, z6⟩ | ⟨z1, z2, z3, z4, z5⟩
    · obtain ⟨hI, q⟩ := q2 x z4 z2.2.2.2
      have q := q _ rfl
      obtain ⟨w7, e7⟩ : ∃ w7, w7 = aS w5 150 2 x := ⟨_, rfl⟩
      rw [← e7] at q
      have f7 : FM [] [150, 151] w5 w7 := by rw [e7]; exact FM_aS z2.2.2.2 (by decide)
      have h7 : RJ w7 bs n i 11 f0 p0 1 := RS_wr z5 f7
      obtain ⟨y1, k', y2⟩ := T201 f7.2.2.2 (E214_R h7) (by decide +kernel) q
      obtain ⟨g1, g2, g3⟩ := END_R (by decide) hd (fun t ht => by rw [show t = 0 by omega]; exact z1) h7 y2
      have fa : FM rl7 [148, 150, 151] w w' := FM_trans (FM_mono z2 (by decide) (by decide)) (FM_trans (FM_mono f7 (by decide) (by decide)) (FM_mono g1 (by decide) (by decide)))
      refine ⟨y1, fa, AF_trans (AF_trans z3 (AF_eq (FM_a f7 (by decide)))) g2, 1, ?_⟩
      rcases g3 with ⟨g3, g4⟩ | g3
      · refine Or.inr ⟨g3, g4, fun hz => ?_⟩
        have ga : gA w' 150 = (gA w 150).set 2 x := by rw [FM_a g1 (by decide), e7, gA_aS (aI_isA hI), i_nat (n := 2) two32, FM_a z2 (by decide)]
        refine ⟨by rw [ga, List.length_set]; exact hl, fun q => ?_, ?_⟩
        · unfold rcl
          rw [ga, getD_set (by omega), ns32_of (z6 hz)]
          rfl
        · rw [FM_i g1 (by decide), e7, gI_aS, z9]
          rfl
      · exact Or.inl g3
    · obtain ⟨hI, q⟩ := q2 _ z5 z2.2.2.2
      have q := q _ rfl
      obtain ⟨w7, e7⟩ : ∃ w7, w7 = aS w5 150 2 0 := ⟨_, rfl⟩
      rw [← e7] at q
      have f7 : FM [] [150, 151] w5 w7 := by rw [e7]; exact FM_aS z2.2.2.2 (by decide)
      have h7 := BK_wr z4 f7
      obtain ⟨y1, k', y2⟩ := T201 f7.2.2.2 (E214_B h7) (by decide +kernel) q
      have e := END_B h7 y2
      rw [e]
      exact ⟨y1, FM_trans (FM_mono z2 (by decide) (by decide)) (FM_mono f7 (by decide) (by decide)), AF_trans z3 (AF_eq (FM_a f7 (by decide))), 0, Or.inl ⟨FI_lt (by decide) (by omega) (fun t ht => absurd ht (Nat.not_lt_zero t)) z1, h7⟩⟩
theorem rem10 {u : Int32} {t : Nat} (hu : u.toInt = t) (ht : t < 81) : (u - u / 10 * 10) = 0 ↔ t % 10 = 0 := by
  have e := i32_of hu (by omega)
  have h : (List.range 81).all (fun t => decide ((Int32.ofNat t - Int32.ofNat t / 10 * 10) = 0) == decide (t % 10 = 0)) = true := by decide +kernel
  have q := List.all_eq_true.mp h t (List.mem_range.mpr ht)
  rw [e]
  exact decide_eq_decide.mp (eq_of_beq q)
/-- all words: the loop -/
theorem L86 {x0 y x : Int32} : ∀ (k : Nat) (w : pm_W) (t : Nat) (u : Int32), SK w → (gA w 150).length = 272 → u.toInt = t → t ≤ 81 → PS X k 207 86 [.ref 147, .int x0, .int y, .int x, .int u] [] w r w' → ∃ (k' : Nat) (w1 : pm_W) (u' : Int32), FM [] [150, 151] w w1 ∧ (gA w1 150).length = 272 ∧ (∀ q, rcl w1 q = if 3 + t ≤ q ∧ q < 84 then (if (q - 3) % 10 = 0 then 0 else x) else rcl w q) ∧ PS X k' 207 121 [.ref 147, .int x0, .int y, .int x, .int u'] [] w1 r w' := by
  intro k
  have e81 : (81 : Int32).toInt = 81 := by decide +kernel
  induction k with
  | zero => intro w t u hS hl hu ht h; exact (PS_0 h).elim
  | succ k ih =>
    intro w t u hS hl hu ht h
    have h := U207_86 hS h
    by_cases c : 81 ≤ u
    · rw [if_pos c] at h
      rw [Int32.le_iff_toInt_le, e81, hu] at c
      exact ⟨k, w, u, FM_refl hS, hl, fun q => by rw [if_neg (by omega)], h⟩
    · rw [if_neg c] at h
      rw [Int32.le_iff_toInt_le, e81, hu] at c
      have ei : (3 + u).toInt = (3 + t : Nat) := by
        rw [zi_add three32 hu (by omega) (by omega)]
        omega
      have em : (u - u / 10 * 10) = 0 ↔ t % 10 = 0 := rem10 hu (by omega)
      have go : ∀ (z : Int32), z = (if t % 10 = 0 then 0 else x) → aI w 150 (3 + u) → PS X k 207 86 [.ref 147, .int x0, .int y, .int x, .int (u + 1)] [] (aS w 150 (3 + u) z) r w' → ∃ (k' : Nat) (w1 : pm_W) (u' : Int32), FM [] [150, 151] w w1 ∧ (gA w1 150).length = 272 ∧ (∀ q, rcl w1 q = if 3 + t ≤ q ∧ q < 84 then (if (q - 3) % 10 = 0 then 0 else x) else rcl w q) ∧ PS X k' 207 121 [.ref 147, .int x0, .int y, .int x, .int u'] [] w1 r w' := by
        intro z hz hI q
        have g1 : gA (aS w 150 (3 + u) z) 150 = (gA w 150).set (3 + t) z := by rw [gA_aS (aI_isA hI), i_nat ei]
        obtain ⟨k', w1, u', a1, a2, a3, a4⟩ := ih _ (t + 1) (u + 1) (SK_aS hS) (by rw [g1, List.length_set]; exact hl) (by rw [zi_inc (n := 81) (by omega) (by omega), hu]; rfl) (by omega) q
        refine ⟨k', w1, u', FM_trans (FM_aS hS (by decide)) a1, a2, fun q => ?_, a4⟩
        rw [a3 q]
        unfold rcl
        rw [g1, getD_set (by omega)]
        by_cases c1 : q = 3 + t
        · rw [if_neg (by omega), if_pos c1, if_pos (by omega), hz, show (q - 3) % 10 = t % 10 by omega]
        · by_cases c2 : 3 + t ≤ q ∧ q < 84
          · rw [if_pos (by omega), if_pos c2]
          · rw [if_neg (by omega), if_neg c1, if_neg c2]
      by_cases c2 : (u - u / 10 * 10) = 0
      · rw [if_pos c2] at h
        exact go 0 (by rw [if_pos (em.mp c2)]) h.1 (h.2 _ rfl)
      · rw [if_neg c2] at h
        exact go x (by rw [if_neg (fun z => c2 (em.mpr z))]) h.1 (h.2 _ rfl)
/-- all -/
theorem VL_8 {x0 : Int32} (hl : (gA w 150).length = 272) (h : RJ w bs n i 8 f0 p0 0) (q : PS X k 207 31 [.ref 147, .int x0, .int 3, pm_dead, pm_dead] [] w r w') : r = none ∧ VL w w' bs n i f0 p0 8 := by
  have hS : SK w := h.1
  obtain ⟨k1, q⟩ := P31 hS (by decide +kernel) q
  cases k1 with
  | zero => exact (PS_0 q).elim
  | succ k1 =>
    have q := U207_70 hS q
    rw [if_pos rfl] at q
    obtain ⟨r4, w5, q1, q2⟩ := q
    have e99 : (99 : Int32).toInt = 99 := by decide +kernel
    have hd : dueN 8 = 1 := dN _ _ (by decide +kernel)
    rcases R_num (by decide) (Or.inr (by rw [badI_lo (by decide) (by decide), show lwL 8 0 = 0 from by decide +kernel, show lwH 8 0 = 99 from by decide +kernel, z32, e99])) h q1 with ⟨z1, z2, z3, z9, x, z4, z5, z6⟩ | ⟨z1, z2, z3, z4, z5⟩
    · have q := q2 x z4 z2.2.2.2
      have hl5 : (gA w5 150).length = 272 := by rw [FM_a z2 (by decide)]; exact hl
      obtain ⟨k2, w7, u', f7, l7, c7, q⟩ := L86 _ w5 0 0 z2.2.2.2 hl5 z32 (by omega) q
      have h7 : RJ w7 bs n i 8 f0 p0 1 := RS_wr z5 f7
      obtain ⟨y1, k', y2⟩ := T121 f7.2.2.2 (E214_R h7) (by decide +kernel) (by decide +kernel) (by decide +kernel) (by decide +kernel) q
      obtain ⟨g1, g2, g3⟩ := END_R (by decide) hd (fun t ht => by rw [show t = 0 by omega]; exact z1) h7 y2
      have fa : FM rl7 [148, 150, 151] w w' := FM_trans (FM_mono z2 (by decide) (by decide)) (FM_trans (FM_mono f7 (by decide) (by decide)) (FM_mono g1 (by decide) (by decide)))
      refine ⟨y1, fa, AF_trans (AF_trans z3 (AF_eq (FM_a f7 (by decide)))) g2, 1, ?_⟩
      rcases g3 with ⟨g3, g4⟩ | g3
      · refine Or.inr ⟨g3, g4, fun hz => ?_⟩
        refine ⟨by rw [FM_a g1 (by decide)]; exact l7, fun q => ?_, ?_⟩
        · have e : rcl w' q = rcl w7 q := by unfold rcl; rw [FM_a g1 (by decide)]
          have e5 : rcl w5 q = rcl w q := by unfold rcl; rw [FM_a z2 (by decide)]
          rw [e, c7 q, e5, ns32_of (z6 hz)]
          rfl
        · rw [FM_i g1 (by decide), FM_i f7 (by decide), z9]
          rfl
      · exact Or.inl g3
    · have q := q2 _ z5 z2.2.2.2
      have hl5 : (gA w5 150).length = 272 := by rw [FM_a z2 (by decide)]; exact hl
      obtain ⟨k2, w7, u', f7, l7, c7, q⟩ := L86 _ w5 0 0 z2.2.2.2 hl5 z32 (by omega) q
      have h7 := BK_wr z4 f7
      obtain ⟨y1, k', y2⟩ := T121 f7.2.2.2 (E214_B h7) (by decide +kernel) (by decide +kernel) (by decide +kernel) (by decide +kernel) q
      have e := END_B h7 y2
      rw [e]
      exact ⟨y1, FM_trans (FM_mono z2 (by decide) (by decide)) (FM_mono f7 (by decide) (by decide)), AF_trans z3 (AF_eq (FM_a f7 (by decide))), 0, Or.inl ⟨FI_lt (by decide) (by omega) (fun t ht => absurd ht (Nat.not_lt_zero t)) z1, h7⟩⟩
theorem BK_per {than : Int32} (h : BK w bs n i) (q : PS X k 212 0 [.ref 147, .int than, pm_dead] [] w r w') : ∃ x : Int32, r = some (.int x) ∧ FM rl7 [148] w w' ∧ AF w w' ∧ BK w' bs n i := by
  obtain ⟨s1, s2, s3, s4⟩ := h
  obtain ⟨x, z1, z2, z3, z4⟩ := F212_w s1 s2 q
  exact ⟨x, z1, z2, AF_eq z3, z2.2.2.2, by rw [z4]; exact s2, by unfold qF; rw [z3]; exact s3, by unfold qP; rw [z3]; exact s4⟩
theorem mx9 {x y : Int32} : (if x ≤ y then y else x).toInt = max y.toInt x.toInt := by
  by_cases c : x ≤ y
  · rw [if_pos c]
    rw [Int32.le_iff_toInt_le] at c
    omega
  · rw [if_neg c]
    rw [Int32.le_iff_toInt_le] at c
    omega
/-- word -/
theorem VL_7 {x0 : Int32} (hl : (gA w 150).length = 272) (h : RJ w bs n i 7 f0 p0 0) (q : PS X k 207 31 [.ref 147, .int x0, .int 2, pm_dead, pm_dead] [] w r w') : r = none ∧ VL w w' bs n i f0 p0 7 := by
  have hS : SK w := h.1
  cases k with
  | zero => exact (PS_0 q).elim
  | succ k =>
    have q := U207_31 hS q
    rw [if_pos rfl] at q
    have e8 : (8 : Int32).toInt = 8 := eight32
    have e99 : (99 : Int32).toInt = 99 := by decide +kernel
    have m1 : ((-1 : Int32)).toInt = -1 := by decide +kernel
    have hd : dueN 7 = 3 := dN _ _ (by decide +kernel)
    have e9 : (9 : Int32).toInt = 9 := by decide +kernel
    obtain ⟨r1, w1, q1, q⟩ := q
    -- broken: to the end
    have brk : ∀ (w10 : pm_W) (j : Nat) (u3 u4 : Value) (k' : Nat), FM rl7 [148, 150, 151] w w10 → AF w w10 → BK w10 bs n (tP bs n i (j + 1)) → FI bs n i 7 j → PS X k' 207 70 [.ref 147, .int x0, .int 2, u3, u4] [] w10 r w' → r = none ∧ VL w w' bs n i f0 p0 7 := by
      intro w10 j u3 u4 k' fm af hB hF q
      obtain ⟨y1, k2, y2⟩ := T70 fm.2.2.2 (E214_B hB) (by decide +kernel) (by decide +kernel) (by decide +kernel) (by decide +kernel) (by decide +kernel) q
      have e := END_B hB y2
      rw [e]
      exact ⟨y1, fm, af, j, Or.inl ⟨hF, hB⟩⟩
    rcases R_per (by decide) (Or.inr (by rw [badI_lo (by decide) (by decide), show lwL 7 0 = 0 from by decide +kernel, show lwH 7 0 = 8 from by decide +kernel, m1]; omega)) h q1 with ⟨a1, a2, a3, x, a4, a5, a6, a7, a8⟩ | ⟨a1, a2, a3, a4, x, a5⟩
    · obtain ⟨r4, w4, q4, q⟩ := q x a4 a2.2.2.2
      have hb1 : (fJ bs n i 7 f0 p0 1).1 ≠ 0 ∨ (badI 7 1 (nv bs n i 1) (nv bs n i) ↔ (nv bs n i 1 = x.toInt ∨ ¬ (0 ≤ nv bs n i 1 ∧ nv bs n i 1 ≤ 8))) := by
        by_cases c : (fJ bs n i 7 f0 p0 1).1 = 0
        · refine Or.inr ?_
          rw [badI_tw (Or.inr (Or.inr (Or.inl rfl))), show lwL 7 1 = 0 from by decide +kernel, show lwH 7 1 = 8 from by decide +kernel, a6 c]
        · exact Or.inl c
      rcases R_per (by decide) hb1 a5 q4 with ⟨b1, b2, b3, y, b4, b5, b6, b7, b8⟩ | ⟨b1, b2, b3, b4, y, b5⟩
      · obtain ⟨r7, w7, q7, q⟩ := q y b4 b2.2.2.2
        rcases R_num (by decide) (Or.inr (by rw [badI_lo (by decide) (by decide), show lwL 7 2 = 0 from by decide +kernel, show lwH 7 2 = 99 from by decide +kernel, z32, e99])) b5 q7 with ⟨c1, c2, c3, c9, z, c4, c5, c6⟩ | ⟨c1, c2, c3, c4, c5⟩
        · obtain ⟨hI, q⟩ := q z c4 c2.2.2.2
          have q := q _ rfl
          obtain ⟨w10, e10⟩ : ∃ w10, w10 = aS w7 150 (3 + 9 * x + y) z := ⟨_, rfl⟩
          rw [← e10] at q
          have f10 : FM [] [150, 151] w7 w10 := by rw [e10]; exact FM_aS c2.2.2.2 (by decide)
          have h10 : RJ w10 bs n i 7 f0 p0 3 := RS_wr c5 f10
          obtain ⟨y1, k', y2⟩ := T70 f10.2.2.2 (E214_R h10) (by decide +kernel) (by decide +kernel) (by decide +kernel) (by decide +kernel) (by decide +kernel) q
          obtain ⟨g1, g2, g3⟩ := END_R (by decide) hd (fun t ht => by
            have ct : t = 0 ∨ t = 1 ∨ t = 2 := by omega
            rcases ct with e | e | e
            · rw [e]; exact a1
            · rw [e]; exact b1
            · rw [e]; exact c1) h10 y2
          have fabc : FM rl7 [148] w w7 := FM_trans a2 (FM_trans b2 c2)
          have fa : FM rl7 [148, 150, 151] w w' := FM_trans (FM_mono fabc (by decide) (by decide)) (FM_trans (FM_mono f10 (by decide) (by decide)) (FM_mono g1 (by decide) (by decide)))
          refine ⟨y1, fa, AF_trans (AF_trans (AF_trans a3 (AF_trans b3 c3)) (AF_eq (FM_a f10 (by decide)))) g2, 3, ?_⟩
          rcases g3 with ⟨g3, g4⟩ | g3
          · refine Or.inr ⟨g3, g4, fun hz => ?_⟩
            have hz2 := fJ_0 (by decide) hz
            have hz1 := fJ_0 (by decide) hz2
            have ei : (3 + 9 * x + y).toInt = (3 + (9 * x.toInt.toNat + y.toInt.toNat) : Nat) := by
              rw [zi_add (zi_add three32 (zi_mul e9 rfl (by omega) (by omega)) (by omega) (by omega)) rfl (by omega) (by omega)]
              omega
            have ga : gA w' 150 = (gA w 150).set (3 + (9 * x.toInt.toNat + y.toInt.toNat)) z := by rw [FM_a g1 (by decide), e10, gA_aS (aI_isA hI), i_nat ei, FM_a fabc (by decide)]
            refine ⟨by rw [ga, List.length_set]; exact hl, fun q => ?_, ?_⟩
            · unfold rcl
              rw [ga, getD_set (by omega)]
              show _ = (if q = 3 + (9 * (ns32 bs n i 0).toInt.toNat + (ns32 bs n i 1).toInt.toNat) then ns32 bs n i 2 else (gA w 150).getD q 0)
              rw [← ns32_of (a6 hz1), ← ns32_of (b6 hz2), ← ns32_of (c6 hz)]
            · rw [FM_i g1 (by decide), e10, gI_aS, c9, b8, mx9, a8, mx9]
              show _ = max (gI w 147 9).toInt (max (ns32 bs n i 0).toInt (ns32 bs n i 1).toInt)
              rw [← ns32_of (a6 hz1), ← ns32_of (b6 hz2)]
              omega
          · exact Or.inl g3
        · obtain ⟨hI, q⟩ := q _ c5 c2.2.2.2
          have q := q _ rfl
          have f10 : FM [] [150, 151] w7 (aS w7 150 (3 + 9 * x + y) 0) := FM_aS c2.2.2.2 (by decide)
          exact brk _ 2 _ _ _ (FM_trans (FM_mono (FM_trans a2 (FM_trans b2 c2)) (by decide) (by decide)) (FM_mono f10 (by decide) (by decide))) (AF_trans (AF_trans a3 (AF_trans b3 c3)) (AF_eq (FM_a f10 (by decide)))) (BK_wr c4 f10) (FI_lt (by decide) (by omega) (fun t ht => by
            have ct : t = 0 ∨ t = 1 := by omega
            rcases ct with e | e
            · rw [e]; exact a1
            · rw [e]; exact b1) c1) q
      · obtain ⟨r7, w7, q7, q⟩ := q y b5 b2.2.2.2
        obtain ⟨d1, d2⟩ := F210_w b4.1 b4.2.1 q7
        subst w7
        obtain ⟨hI, q⟩ := q _ d1 b2.2.2.2
        have q := q _ rfl
        have f10 : FM [] [150, 151] w4 (aS w4 150 (3 + 9 * x + y) 0) := FM_aS b2.2.2.2 (by decide)
        exact brk _ 1 _ _ _ (FM_trans (FM_mono (FM_trans a2 b2) (by decide) (by decide)) (FM_mono f10 (by decide) (by decide))) (AF_trans (AF_trans a3 b3) (AF_eq (FM_a f10 (by decide)))) (BK_wr b4 f10) (FI_lt (by decide) (by omega) (fun t ht => by rw [show t = 0 by omega]; exact a1) b1) q
    · obtain ⟨r4, w4, q4, q⟩ := q x a5 a2.2.2.2
      obtain ⟨y, b1, b2, b3, b4⟩ := BK_per a4 q4
      obtain ⟨r7, w7, q7, q⟩ := q y b1 b2.2.2.2
      obtain ⟨d1, d2⟩ := F210_w b4.1 b4.2.1 q7
      subst w7
      obtain ⟨hI, q⟩ := q _ d1 b2.2.2.2
      have q := q _ rfl
      have f10 : FM [] [150, 151] w4 (aS w4 150 (3 + 9 * x + y) 0) := FM_aS b2.2.2.2 (by decide)
      exact brk _ 0 _ _ _ (FM_trans (FM_mono (FM_trans a2 b2) (by decide) (by decide)) (FM_mono f10 (by decide) (by decide))) (AF_trans (AF_trans a3 b3) (AF_eq (FM_a f10 (by decide)))) (BK_wr b4 f10) (FI_lt (by decide) (by omega) (fun t ht => absurd ht (Nat.not_lt_zero t)) a1) q
end FQ
end
section
section FR
variable {X : pm_X} {k : Nat} {w0 w w' : pm_W} {r : Option Value} {p p1 p2 p3 f0 p0 : Int32} {bs : Nat → Int32} {n i v j : Nat}
/-- fee -/
theorem VL_9 {x0 : Int32} (hl : (gA w 150).length = 272) (h : RJ w bs n i 9 f0 p0 0) (q : PS X k 207 31 [.ref 147, .int x0, .int 4, pm_dead, pm_dead] [] w r w') : r = none ∧ VL w w' bs n i f0 p0 9 := by
  have hS : SK w := h.1
  obtain ⟨k1, q⟩ := P31 hS (by decide +kernel) q
  obtain ⟨k2, q⟩ := P70 hS (by decide +kernel) q
  cases k2 with
  | zero => exact (PS_0 q).elim
  | succ k2 =>
    have q := U207_121 hS q
    rw [if_pos rfl] at q
    cases k2 with
    | zero => exact (PS_0 q).elim
    | succ k2 =>
      have q := U207_131 hS q
      have ehi : (99 : Int32).toInt = 99 := by decide +kernel
      have m1 : ((-1 : Int32)).toInt = -1 := by decide +kernel
      have hd : dueN 9 = 2 := dN _ _ (by decide +kernel)
      obtain ⟨r1, w1, q1, q⟩ := q
      -- broken: to the end
      have brk : ∀ (w10 : pm_W) (j : Nat) (u3 u4 : Value) (k' : Nat), FM rl7 [148, 150, 151] w w10 → AF w w10 → BK w10 bs n (tP bs n i (j + 1)) → FI bs n i 9 j → PS X k' 207 182 [.ref 147, .int x0, .int 4, u3, u4] [] w10 r w' → r = none ∧ VL w w' bs n i f0 p0 9 := by
        intro w10 j u3 u4 k' fm af hB hF q
        obtain ⟨y1, k2, y2⟩ := T182 fm.2.2.2 (E214_B hB) (by decide +kernel) (by decide +kernel) q
        have e := END_B hB y2
        rw [e]
        exact ⟨y1, fm, af, j, Or.inl ⟨hF, hB⟩⟩
      rcases R_per (by decide) (Or.inr (by rw [badI_lo (by decide) (by decide), show lwL 9 0 = 0 from by decide +kernel, show lwH 9 0 = 8 from by decide +kernel, m1]; omega)) h q1 with ⟨a1, a2, a3, x, a4, a5, a6, a7, a8⟩ | ⟨a1, a2, a3, a4, x, a5⟩
      · have q := q x a4 a2.2.2.2
        rw [if_pos rfl] at q
        obtain ⟨r4, w4, q4, q⟩ := q
        rcases R_num (by decide) (Or.inr (by rw [badI_lo (by decide) (by decide), show lwL 9 1 = 0 from by decide +kernel, show lwH 9 1 = 99 from by decide +kernel, z32, ehi])) a5 q4 with ⟨c1, c2, c3, c9, z, c4, c5, c6⟩ | ⟨c1, c2, c3, c4, c5⟩
        · have q := q z c4 c2.2.2.2
          rw [if_pos rfl] at q
          obtain ⟨hI, q⟩ := q
          have q := q _ rfl
          obtain ⟨w10, e10⟩ : ∃ w10, w10 = aS w4 150 (84 + x) z := ⟨_, rfl⟩
          rw [← e10] at q
          have f10 : FM [] [150, 151] w4 w10 := by rw [e10]; exact FM_aS c2.2.2.2 (by decide)
          have h10 : RJ w10 bs n i 9 f0 p0 2 := RS_wr c5 f10
          obtain ⟨y1, k', y2⟩ := T182 f10.2.2.2 (E214_R h10) (by decide +kernel) (by decide +kernel) q
          obtain ⟨g1, g2, g3⟩ := END_R (by decide) hd (fun t ht => by
            have ct : t = 0 ∨ t = 1 := by omega
            rcases ct with e | e
            · rw [e]; exact a1
            · rw [e]; exact c1) h10 y2
          have fabc : FM rl7 [148] w w4 := FM_trans a2 c2
          have fa : FM rl7 [148, 150, 151] w w' := FM_trans (FM_mono fabc (by decide) (by decide)) (FM_trans (FM_mono f10 (by decide) (by decide)) (FM_mono g1 (by decide) (by decide)))
          refine ⟨y1, fa, AF_trans (AF_trans (AF_trans a3 c3) (AF_eq (FM_a f10 (by decide)))) g2, 2, ?_⟩
          rcases g3 with ⟨g3, g4⟩ | g3
          · refine Or.inr ⟨g3, g4, fun hz => ?_⟩
            have hz1 := fJ_0 (by decide) hz
            have eo : (84 : Int32).toInt = 84 := by decide +kernel
            have ei : (84 + x).toInt = (84 + x.toInt.toNat : Nat) := by
              rw [zi_add eo rfl (by omega) (by omega)]
              omega
            have ga : gA w' 150 = (gA w 150).set (84 + x.toInt.toNat) z := by rw [FM_a g1 (by decide), e10, gA_aS (aI_isA hI), i_nat ei, FM_a fabc (by decide)]
            refine ⟨by rw [ga, List.length_set]; exact hl, fun q => ?_, ?_⟩
            · unfold rcl
              rw [ga, getD_set (by omega)]
              show _ = (if q = 84 + (ns32 bs n i 0).toInt.toNat then ns32 bs n i 1 else (gA w 150).getD q 0)
              rw [← ns32_of (a6 hz1), ← ns32_of (c6 hz)]
            · rw [FM_i g1 (by decide), e10, gI_aS, c9, a8, mx9]
              show _ = max (gI w 147 9).toInt (ns32 bs n i 0).toInt
              rw [← ns32_of (a6 hz1)]
          · exact Or.inl g3
        · have q := q _ c5 c2.2.2.2
          rw [if_pos rfl] at q
          obtain ⟨hI, q⟩ := q
          have q := q _ rfl
          have f10 : FM [] [150, 151] w4 (aS w4 150 (84 + x) 0) := FM_aS c2.2.2.2 (by decide)
          exact brk _ 1 _ _ _ (FM_trans (FM_mono (FM_trans a2 c2) (by decide) (by decide)) (FM_mono f10 (by decide) (by decide))) (AF_trans (AF_trans a3 c3) (AF_eq (FM_a f10 (by decide)))) (BK_wr c4 f10) (FI_lt (by decide) (by omega) (fun t ht => by rw [show t = 0 by omega]; exact a1) c1) q
      · have q := q x a5 a2.2.2.2
        rw [if_pos rfl] at q
        obtain ⟨r4, w4, q4, q⟩ := q
        obtain ⟨d1, d2⟩ := F210_w a4.1 a4.2.1 q4
        subst w4
        have q := q _ d1 a2.2.2.2
        rw [if_pos rfl] at q
        obtain ⟨hI, q⟩ := q
        have q := q _ rfl
        have f10 : FM [] [150, 151] w1 (aS w1 150 (84 + x) 0) := FM_aS a2.2.2.2 (by decide)
        exact brk _ 0 _ _ _ (FM_trans (FM_mono a2 (by decide) (by decide)) (FM_mono f10 (by decide) (by decide))) (AF_trans a3 (AF_eq (FM_a f10 (by decide)))) (BK_wr a4 f10) (FI_lt (by decide) (by omega) (fun t ht => absurd ht (Nat.not_lt_zero t)) a1) q
/-- risk -/
theorem VL_10 {x0 : Int32} (hl : (gA w 150).length = 272) (h : RJ w bs n i 10 f0 p0 0) (q : PS X k 207 31 [.ref 147, .int x0, .int 5, pm_dead, pm_dead] [] w r w') : r = none ∧ VL w w' bs n i f0 p0 10 := by
  have hS : SK w := h.1
  obtain ⟨k1, q⟩ := P31 hS (by decide +kernel) q
  obtain ⟨k2, q⟩ := P70 hS (by decide +kernel) q
  cases k2 with
  | zero => exact (PS_0 q).elim
  | succ k2 =>
    have q := U207_121 hS q
    rw [if_neg (show ¬ (5 : Int32) = 4 from by decide +kernel), if_pos rfl] at q
    cases k2 with
    | zero => exact (PS_0 q).elim
    | succ k2 =>
      have q := U207_131 hS q
      have ehi : (100 : Int32).toInt = 100 := by decide +kernel
      have m1 : ((-1 : Int32)).toInt = -1 := by decide +kernel
      have hd : dueN 10 = 2 := dN _ _ (by decide +kernel)
      obtain ⟨r1, w1, q1, q⟩ := q
      -- broken: to the end
      have brk : ∀ (w10 : pm_W) (j : Nat) (u3 u4 : Value) (k' : Nat), FM rl7 [148, 150, 151] w w10 → AF w w10 → BK w10 bs n (tP bs n i (j + 1)) → FI bs n i 10 j → PS X k' 207 182 [.ref 147, .int x0, .int 5, u3, u4] [] w10 r w' → r = none ∧ VL w w' bs n i f0 p0 10 := by
        intro w10 j u3 u4 k' fm af hB hF q
        obtain ⟨y1, k2, y2⟩ := T182 fm.2.2.2 (E214_B hB) (by decide +kernel) (by decide +kernel) q
        have e := END_B hB y2
        rw [e]
        exact ⟨y1, fm, af, j, Or.inl ⟨hF, hB⟩⟩
      rcases R_per (by decide) (Or.inr (by rw [badI_lo (by decide) (by decide), show lwL 10 0 = 0 from by decide +kernel, show lwH 10 0 = 8 from by decide +kernel, m1]; omega)) h q1 with ⟨a1, a2, a3, x, a4, a5, a6, a7, a8⟩ | ⟨a1, a2, a3, a4, x, a5⟩
      · have q := q x a4 a2.2.2.2
        rw [if_neg (show ¬ (5 : Int32) = 4 from by decide +kernel)] at q
        obtain ⟨r4, w4, q4, q⟩ := q
        rcases R_num (by decide) (Or.inr (by rw [badI_lo (by decide) (by decide), show lwL 10 1 = 0 from by decide +kernel, show lwH 10 1 = 100 from by decide +kernel, z32, ehi])) a5 q4 with ⟨c1, c2, c3, c9, z, c4, c5, c6⟩ | ⟨c1, c2, c3, c4, c5⟩
        · have q := q z c4 c2.2.2.2
          rw [if_neg (show ¬ (5 : Int32) = 4 from by decide +kernel)] at q
          obtain ⟨hI, q⟩ := q
          have q := q _ rfl
          obtain ⟨w10, e10⟩ : ∃ w10, w10 = aS w4 150 (93 + x) z := ⟨_, rfl⟩
          rw [← e10] at q
          have f10 : FM [] [150, 151] w4 w10 := by rw [e10]; exact FM_aS c2.2.2.2 (by decide)
          have h10 : RJ w10 bs n i 10 f0 p0 2 := RS_wr c5 f10
          obtain ⟨y1, k', y2⟩ := T182 f10.2.2.2 (E214_R h10) (by decide +kernel) (by decide +kernel) q
          obtain ⟨g1, g2, g3⟩ := END_R (by decide) hd (fun t ht => by
            have ct : t = 0 ∨ t = 1 := by omega
            rcases ct with e | e
            · rw [e]; exact a1
            · rw [e]; exact c1) h10 y2
          have fabc : FM rl7 [148] w w4 := FM_trans a2 c2
          have fa : FM rl7 [148, 150, 151] w w' := FM_trans (FM_mono fabc (by decide) (by decide)) (FM_trans (FM_mono f10 (by decide) (by decide)) (FM_mono g1 (by decide) (by decide)))
          refine ⟨y1, fa, AF_trans (AF_trans (AF_trans a3 c3) (AF_eq (FM_a f10 (by decide)))) g2, 2, ?_⟩
          rcases g3 with ⟨g3, g4⟩ | g3
          · refine Or.inr ⟨g3, g4, fun hz => ?_⟩
            have hz1 := fJ_0 (by decide) hz
            have eo : (93 : Int32).toInt = 93 := by decide +kernel
            have ei : (93 + x).toInt = (93 + x.toInt.toNat : Nat) := by
              rw [zi_add eo rfl (by omega) (by omega)]
              omega
            have ga : gA w' 150 = (gA w 150).set (93 + x.toInt.toNat) z := by rw [FM_a g1 (by decide), e10, gA_aS (aI_isA hI), i_nat ei, FM_a fabc (by decide)]
            refine ⟨by rw [ga, List.length_set]; exact hl, fun q => ?_, ?_⟩
            · unfold rcl
              rw [ga, getD_set (by omega)]
              show _ = (if q = 93 + (ns32 bs n i 0).toInt.toNat then ns32 bs n i 1 else (gA w 150).getD q 0)
              rw [← ns32_of (a6 hz1), ← ns32_of (c6 hz)]
            · rw [FM_i g1 (by decide), e10, gI_aS, c9, a8, mx9]
              show _ = max (gI w 147 9).toInt (ns32 bs n i 0).toInt
              rw [← ns32_of (a6 hz1)]
          · exact Or.inl g3
        · have q := q _ c5 c2.2.2.2
          rw [if_neg (show ¬ (5 : Int32) = 4 from by decide +kernel)] at q
          obtain ⟨hI, q⟩ := q
          have q := q _ rfl
          have f10 : FM [] [150, 151] w4 (aS w4 150 (93 + x) 0) := FM_aS c2.2.2.2 (by decide)
          exact brk _ 1 _ _ _ (FM_trans (FM_mono (FM_trans a2 c2) (by decide) (by decide)) (FM_mono f10 (by decide) (by decide))) (AF_trans (AF_trans a3 c3) (AF_eq (FM_a f10 (by decide)))) (BK_wr c4 f10) (FI_lt (by decide) (by omega) (fun t ht => by rw [show t = 0 by omega]; exact a1) c1) q
      · have q := q x a5 a2.2.2.2
        rw [if_neg (show ¬ (5 : Int32) = 4 from by decide +kernel)] at q
        obtain ⟨r4, w4, q4, q⟩ := q
        obtain ⟨d1, d2⟩ := F210_w a4.1 a4.2.1 q4
        subst w4
        have q := q _ d1 a2.2.2.2
        rw [if_neg (show ¬ (5 : Int32) = 4 from by decide +kernel)] at q
        obtain ⟨hI, q⟩ := q
        have q := q _ rfl
        have f10 : FM [] [150, 151] w1 (aS w1 150 (93 + x) 0) := FM_aS a2.2.2.2 (by decide)
        exact brk _ 0 _ _ _ (FM_trans (FM_mono a2 (by decide) (by decide)) (FM_mono f10 (by decide) (by decide))) (AF_trans a3 (AF_eq (FM_a f10 (by decide)))) (BK_wr a4 f10) (FI_lt (by decide) (by omega) (fun t ht => absurd ht (Nat.not_lt_zero t)) a1) q
end FR
end
section
section FS
variable {X : pm_X} {k : Nat} {w0 w w' : pm_W} {r : Option Value} {p p1 p2 p3 f0 p0 f : Int32} {bs : Nat → Int32} {n i v j : Nat}
/-- a further want's four cells -/
theorem W4 {w13 w14 w15 w16 : pm_W} {c : Nat} {kk x y z u : Int32} (hS : SK w) (hl : (gA w 150).length = 272) (hk : kk.toInt = c) (hc : c + 4 ≤ 272) (i0 : aI w 150 kk) (e13 : w13 = aS w 150 kk x) (i1 : aI w13 150 (kk + 1)) (e14 : w14 = aS w13 150 (kk + 1) y) (i2 : aI w14 150 (kk + 2)) (e15 : w15 = aS w14 150 (kk + 2) z) (i3 : aI w15 150 (kk + 3)) (e16 : w16 = aS w15 150 (kk + 3) u) : FM [] [150, 151] w w16 ∧ (gA w16 150).length = 272 ∧ ∀ q, rcl w16 q = if q = c then x else if q = c + 1 then y else if q = c + 2 then z else if q = c + 3 then u else rcl w q := by
  have h1 : (kk + 1).toInt = (c + 1 : Nat) := by rw [zi_add hk o32 (by omega) (by omega)]; rfl
  have h2 : (kk + 2).toInt = (c + 2 : Nat) := by rw [zi_add hk two32 (by omega) (by omega)]; rfl
  have h3 : (kk + 3).toInt = (c + 3 : Nat) := by rw [zi_add hk three32 (by omega) (by omega)]; rfl
  have a13 : gA w13 150 = (gA w 150).set c x := by rw [e13, gA_aS (aI_isA i0), i_nat hk]
  have a14 : gA w14 150 = ((gA w 150).set c x).set (c + 1) y := by rw [e14, gA_aS (aI_isA i1), i_nat h1, a13]
  have a15 : gA w15 150 = (((gA w 150).set c x).set (c + 1) y).set (c + 2) z := by rw [e15, gA_aS (aI_isA i2), i_nat h2, a14]
  have a16 : gA w16 150 = ((((gA w 150).set c x).set (c + 1) y).set (c + 2) z).set (c + 3) u := by rw [e16, gA_aS (aI_isA i3), i_nat h3, a15]
  have s13 : SK w13 := by rw [e13]; exact SK_aS hS
  have s14 : SK w14 := by rw [e14]; exact SK_aS s13
  have s15 : SK w15 := by rw [e15]; exact SK_aS s14
  refine ⟨FM_trans (w1 := w13) (by rw [e13]; exact FM_aS hS (by decide)) (FM_trans (w1 := w14) (by rw [e14]; exact FM_aS s13 (by decide)) (FM_trans (w1 := w15) (by rw [e15]; exact FM_aS s14 (by decide)) (by rw [e16]; exact FM_aS s15 (by decide)))), by rw [a16]; simp only [List.length_set]; exact hl, fun q => ?_⟩
  unfold rcl
  rw [a16, getD_set (by simp only [List.length_set]; omega), getD_set (by simp only [List.length_set]; omega), getD_set (by simp only [List.length_set]; omega), getD_set (by omega)]
  by_cases q3 : q = c + 3
  · rw [if_pos q3, if_neg (by omega), if_neg (by omega), if_neg (by omega), if_pos q3]
  rw [if_neg q3]
  by_cases q2 : q = c + 2
  · rw [if_pos q2, if_neg (by omega), if_neg (by omega), if_pos q2]
  rw [if_neg q2]
  by_cases q1 : q = c + 1
  · rw [if_pos q1, if_neg (by omega), if_pos q1]
  rw [if_neg q1]
  by_cases q0 : q = c
  · rw [if_pos q0, if_pos q0]
  · rw [if_neg q0, if_neg q0, if_neg q1, if_neg q2, if_neg q3]
/-- the end of a want: one more -/
theorem F213_111 {x1 x2 x3 x4 x5 : Int32} {u6 : Value} (hS : SK w) (q : PS X k 213 111 [.ref 147, .int x1, .int x2, .int x3, .int x4, .int x5, u6] [] w r w') : r = none ∧ aI w 150 1 ∧ w' = aS w 150 1 (aG w 150 1 + 1) := by
  cases k with
  | zero => exact (PS_0 q).elim
  | succ k =>
    obtain ⟨h1, _, q⟩ := U213_111 hS q
    obtain ⟨z1, z2⟩ := q _ rfl
    exact ⟨z1, h1, z2⟩
/-- want: from label 17 on -/
theorem F213_17 {x1 : Int32} (hl : (gA w 150).length = 272) (hc0 : f0 = 0 → 0 ≤ (rcl w 1).toInt) (hc : (fJ bs n i 12 f0 p0 0).1 = 0 → (rcl w 1).toInt < 7) (h : RJ w bs n i 12 f0 p0 0) (q : PS X k 213 17 [.ref 147, .int x1, pm_dead, pm_dead, pm_dead, pm_dead, pm_dead] [] w r w') : r = none ∧ FM rl7 [148, 150, 151] w w' ∧ AF w w' ∧ ((∃ j, j < 4 ∧ (∀ t, t < j → tkK bs n (tP bs n i (t + 1)) = 2) ∧ tkK bs n (tP bs n i (j + 1)) ≠ 2 ∧ BK w' bs n (tP bs n i (j + 1))) ∨ ((∀ t, t < 4 → tkK bs n (tP bs n i (t + 1)) = 2) ∧ RJ w' bs n i 12 f0 p0 4 ∧ ((fJ bs n i 12 f0 p0 4).1 = 0 → (gA w' 150).length = 272 ∧ (∀ q, rcl w' q = kS 12 (rcl w) (ns32 bs n i) q) ∧ (gI w' 147 9).toInt = gS 12 (gI w 147 9).toInt (ns32 bs n i)))) := by
  have hS : SK w := h.1
  cases k with
  | zero => exact (PS_0 q).elim
  | succ k =>
    have m1 : ((-1 : Int32)).toInt = -1 := by decide +kernel
    have e99 : (99 : Int32).toInt = 99 := by decide +kernel
    have e7 : (7 : Int32).toInt = 7 := by decide +kernel
    have e102 : (102 : Int32).toInt = 102 := by decide +kernel
    obtain ⟨r1, w1, q1, q⟩ := U213_17 hS q
    -- the last step, from a state w4, whatever was read
    have last : ∀ (w4 : pm_W) (x y z u : Int32), SK w4 → (gA w4 150).length = 272 → (aI w4 150 1 ∧ (if 7 ≤ (aG w4 150 1) then (PS X k 213 111 [.ref 147, .int x1, .int x, .int y, .int z, .int u, pm_dead] [] w4 r w') else (aI w4 150 1 ∧ (aI w4 150 (102 + (4 * (aG w4 150 1))) ∧ (∀ w13 : pm_W, w13 = aS w4 150 (102 + (4 * (aG w4 150 1))) x → (aI w13 150 ((102 + (4 * (aG w4 150 1))) + 1) ∧ (∀ w14 : pm_W, w14 = aS w13 150 ((102 + (4 * (aG w4 150 1))) + 1) y → (aI w14 150 ((102 + (4 * (aG w4 150 1))) + 2) ∧ (∀ w15 : pm_W, w15 = aS w14 150 ((102 + (4 * (aG w4 150 1))) + 2) z → (aI w15 150 ((102 + (4 * (aG w4 150 1))) + 3) ∧ (∀ w16 : pm_W, w16 = aS w15 150 ((102 + (4 * (aG w4 150 1))) + 3) u → (PS X k 213 111 [.ref 147, .int x1, .int x, .int y, .int z, .int u, .int (102 + (4 * (aG w4 150 1)))] [] w16 r w')))))))))))) → r = none ∧ FM [] [150, 151] w4 w' ∧ (0 ≤ (rcl w4 1).toInt → (rcl w4 1).toInt < 7 → (gA w' 150).length = 272 ∧ ∀ q, rcl w' q = if q = 1 then rcl w4 1 + 1 else if q = 102 + 4 * (rcl w4 1).toInt.toNat then x else if q = 102 + 4 * (rcl w4 1).toInt.toNat + 1 then y else if q = 102 + 4 * (rcl w4 1).toInt.toNat + 2 then z else if q = 102 + 4 * (rcl w4 1).toInt.toNat + 3 then u else rcl w4 q) := by
      intro w4 x y z u hS4 hl4 q
      have e1 : aG w4 150 1 = rcl w4 1 := aG_n (m := 1) o32
      obtain ⟨_, q⟩ := q
      rw [e1] at q
      by_cases c : 7 ≤ rcl w4 1
      · rw [if_pos c] at q
        rw [Int32.le_iff_toInt_le, e7] at c
        obtain ⟨z1, z2, z3⟩ := F213_111 hS4 q
        rw [z3]
        exact ⟨z1, FM_aS hS4 (by decide), fun _ y => by omega⟩
      · rw [if_neg c] at q
        rw [Int32.le_iff_toInt_le, e7] at c
        obtain ⟨_, j0, q⟩ := q
        obtain ⟨j1, q⟩ := q _ rfl
        obtain ⟨j2, q⟩ := q _ rfl
        obtain ⟨j3, q⟩ := q _ rfl
        have q := q _ rfl
        obtain ⟨w16, e16⟩ : ∃ w16, w16 = aS (aS (aS (aS w4 150 (102 + (4 * (rcl w4 1))) x) 150 ((102 + (4 * (rcl w4 1))) + 1) y) 150 ((102 + (4 * (rcl w4 1))) + 2) z) 150 ((102 + (4 * (rcl w4 1))) + 3) u := ⟨_, rfl⟩
        rw [← e16] at q
        have hS16 : SK w16 := by rw [e16]; exact SK_aS (SK_aS (SK_aS (SK_aS hS4)))
        obtain ⟨z1, z2, z3⟩ := F213_111 hS16 q
        have f16 : FM [] [150, 151] w4 w16 := by
          rw [e16]
          exact FM_trans (FM_aS hS4 (by decide)) (FM_trans (FM_aS (SK_aS hS4) (by decide)) (FM_trans (FM_aS (SK_aS (SK_aS hS4)) (by decide)) (FM_aS (SK_aS (SK_aS (SK_aS hS4))) (by decide))))
        refine ⟨z1, FM_trans f16 (by rw [z3]; exact FM_aS hS16 (by decide)), fun h0 h7 => ?_⟩
        have ek : (102 + (4 * (rcl w4 1))).toInt = (102 + 4 * (rcl w4 1).toInt.toNat : Nat) := by
          rw [zi_add e102 (zi_mul four32 rfl (by omega) (by omega)) (by omega) (by omega)]
          omega
        obtain ⟨_, l16, c16⟩ := W4 hS4 hl4 ek (by omega) j0 rfl j1 rfl j2 rfl j3 e16
        have g : gA w' 150 = (gA w16 150).set 1 (aG w16 150 1 + 1) := by rw [z3, gA_aS (aI_isA z2), i_nat (n := 1) o32]
        refine ⟨by rw [g, List.length_set]; exact l16, fun q => ?_⟩
        have e16' : aG w16 150 1 = rcl w4 1 := by
          rw [aG_n (m := 1) o32]
          show rcl w16 1 = _
          rw [c16 1, if_neg (by omega), if_neg (by omega), if_neg (by omega), if_neg (by omega)]
        have e : rcl w' q = if q = 1 then aG w16 150 1 + 1 else rcl w16 q := by
          unfold rcl
          rw [g, getD_set (by omega)]
        rw [e, e16', c16 q]
    rcases R_per (by decide) (Or.inr (by rw [badI_lo (by decide) (by decide), show lwL 12 0 = 0 from by decide +kernel, show lwH 12 0 = 8 from by decide +kernel, m1]; omega)) h q1 with ⟨a1, a2, a3, x, a4, a5, a6, a7, a8⟩ | ⟨a1, a2, a3, a4, x, a5⟩
    · obtain ⟨r4, w4, q4, q⟩ := q x a4 a2.2.2.2
      have hb1 : (fJ bs n i 12 f0 p0 1).1 ≠ 0 ∨ (badI 12 1 (nv bs n i 1) (nv bs n i) ↔ (nv bs n i 1 = x.toInt ∨ ¬ (0 ≤ nv bs n i 1 ∧ nv bs n i 1 ≤ 8))) := by
        by_cases c : (fJ bs n i 12 f0 p0 1).1 = 0
        · refine Or.inr ?_
          rw [badI_tw (Or.inr (Or.inr (Or.inr rfl))), show lwL 12 1 = 0 from by decide +kernel, show lwH 12 1 = 8 from by decide +kernel, a6 c]
        · exact Or.inl c
      rcases R_per (by decide) hb1 a5 q4 with ⟨b1, b2, b3, y, b4, b5, b6, b7, b8⟩ | ⟨b1, b2, b3, b4, y, b5⟩
      · obtain ⟨r7, w7, q7, q⟩ := q y b4 b2.2.2.2
        rcases R_num (by decide) (Or.inr (by rw [badI_lo (by decide) (by decide), show lwL 12 2 = 1 from by decide +kernel, show lwH 12 2 = 99 from by decide +kernel, o32, e99])) b5 q7 with ⟨c1, c2, c3, c9, z, c4, c5, c6⟩ | ⟨c1, c2, c3, c4, c5⟩
        · obtain ⟨r10, w10, q10, q⟩ := q z c4 c2.2.2.2
          rcases R_num (by decide) (Or.inr (by rw [badI_lo (by decide) (by decide), show lwL 12 3 = 0 from by decide +kernel, show lwH 12 3 = 99 from by decide +kernel, z32, e99])) c5 q10 with ⟨d1, d2, d3, d9, u, d4, d5, d6⟩ | ⟨d1, d2, d3, d4, d5⟩
          · have q := q u d4 d2.2.2.2
            have fm : FM rl7 [148] w w10 := FM_trans a2 (FM_trans b2 (FM_trans c2 d2))
            have af : AF w w10 := AF_trans a3 (AF_trans b3 (AF_trans c3 d3))
            have g10 : gA w10 150 = gA w 150 := FM_a fm (by decide)
            have rc10 : ∀ q, rcl w10 q = rcl w q := fun q => by unfold rcl; rw [g10]
            obtain ⟨y1, y2, y3⟩ := last w10 x y z u d2.2.2.2 (by rw [g10]; exact hl) q
            refine ⟨y1, FM_trans (FM_mono fm (by decide) (by decide)) (FM_mono y2 (by decide) (by decide)), AF_trans af (AF_eq (FM_a y2 (by decide))), Or.inr ⟨fun t ht => ?_, RS_wr d5 y2, fun hz => ?_⟩⟩
            · have ct : t = 0 ∨ t = 1 ∨ t = 2 ∨ t = 3 := by omega
              rcases ct with e | e | e | e
              · rw [e]; exact a1
              · rw [e]; exact b1
              · rw [e]; exact c1
              · rw [e]; exact d1
            · have hz3 := fJ_0 (by decide) hz
              have hz2 := fJ_0 (by decide) hz3
              have hz1 := fJ_0 (by decide) hz2
              have hz0 := fJ_0 (by decide) hz1
              have h7 := hc hz0
              rw [rc10] at y3
              obtain ⟨y4, y5⟩ := y3 (hc0 hz0) h7
              refine ⟨y4, fun q => ?_, ?_⟩
              · rw [y5 q, rc10]
                show _ = (if q = 1 then rcl w 1 + 1 else if 102 + 4 * (rcl w 1).toInt.toNat ≤ q ∧ q < 106 + 4 * (rcl w 1).toInt.toNat then ns32 bs n i (q - (102 + 4 * (rcl w 1).toInt.toNat)) else rcl w q)
                obtain ⟨m, hm⟩ : ∃ m, m = 102 + 4 * (rcl w 1).toInt.toNat := ⟨_, rfl⟩
                rw [show 106 + 4 * (rcl w 1).toInt.toNat = m + 4 by omega, ← hm]
                by_cases t1 : q = 1
                · rw [if_pos t1, if_pos t1]
                rw [if_neg t1, if_neg t1]
                by_cases s0 : q = m
                · rw [if_pos s0, if_pos (by omega), s0, Nat.sub_self]; exact ns32_of (a6 hz1)
                rw [if_neg s0]
                by_cases s1 : q = m + 1
                · rw [if_pos s1, if_pos (by omega), s1, show m + 1 - m = 1 by omega]; exact ns32_of (b6 hz2)
                rw [if_neg s1]
                by_cases s2 : q = m + 2
                · rw [if_pos s2, if_pos (by omega), s2, show m + 2 - m = 2 by omega]; exact ns32_of (c6 hz3)
                rw [if_neg s2]
                by_cases s3 : q = m + 3
                · rw [if_pos s3, if_pos (by omega), s3, show m + 3 - m = 3 by omega]; exact ns32_of (d6 hz)
                · rw [if_neg s3, if_neg (by omega)]
              · rw [FM_i y2 (by decide), d9, c9, b8, mx9, a8, mx9]
                show _ = max (gI w 147 9).toInt (max (ns32 bs n i 0).toInt (ns32 bs n i 1).toInt)
                rw [← ns32_of (a6 hz1), ← ns32_of (b6 hz2)]
                omega
          · have q := q _ d5 d2.2.2.2
            have fm : FM rl7 [148] w w10 := FM_trans a2 (FM_trans b2 (FM_trans c2 d2))
            have af : AF w w10 := AF_trans a3 (AF_trans b3 (AF_trans c3 d3))
            obtain ⟨y1, y2, _⟩ := last w10 x y z _ d2.2.2.2 (by rw [FM_a fm (by decide)]; exact hl) q
            refine ⟨y1, FM_trans (FM_mono fm (by decide) (by decide)) (FM_mono y2 (by decide) (by decide)), AF_trans af (AF_eq (FM_a y2 (by decide))), Or.inl ⟨3, by decide, fun t ht => ?_, d1, BK_wr d4 y2⟩⟩
            have ct : t = 0 ∨ t = 1 ∨ t = 2 := by omega
            rcases ct with e | e | e
            · rw [e]; exact a1
            · rw [e]; exact b1
            · rw [e]; exact c1
        · obtain ⟨r10, w10, q10, q⟩ := q _ c5 c2.2.2.2
          obtain ⟨d1, d2⟩ := F210_w c4.1 c4.2.1 q10
          subst w10
          have q := q _ d1 c2.2.2.2
          have fm : FM rl7 [148] w w7 := FM_trans a2 (FM_trans b2 c2)
          have af : AF w w7 := AF_trans a3 (AF_trans b3 c3)
          obtain ⟨y1, y2, _⟩ := last w7 x y _ _ c2.2.2.2 (by rw [FM_a fm (by decide)]; exact hl) q
          refine ⟨y1, FM_trans (FM_mono fm (by decide) (by decide)) (FM_mono y2 (by decide) (by decide)), AF_trans af (AF_eq (FM_a y2 (by decide))), Or.inl ⟨2, by decide, fun t ht => ?_, c1, BK_wr c4 y2⟩⟩
          have ct : t = 0 ∨ t = 1 := by omega
          rcases ct with e | e
          · rw [e]; exact a1
          · rw [e]; exact b1
      · obtain ⟨r7, w7, q7, q⟩ := q y b5 b2.2.2.2
        obtain ⟨d1, d2⟩ := F210_w b4.1 b4.2.1 q7
        subst w7
        obtain ⟨r10, w10, q10, q⟩ := q _ d1 b2.2.2.2
        obtain ⟨d1, d2⟩ := F210_w b4.1 b4.2.1 q10
        subst w10
        have q := q _ d1 b2.2.2.2
        have fm : FM rl7 [148] w w4 := FM_trans a2 b2
        have af : AF w w4 := AF_trans a3 b3
        obtain ⟨y1, y2, _⟩ := last w4 x y _ _ b2.2.2.2 (by rw [FM_a fm (by decide)]; exact hl) q
        exact ⟨y1, FM_trans (FM_mono fm (by decide) (by decide)) (FM_mono y2 (by decide) (by decide)), AF_trans af (AF_eq (FM_a y2 (by decide))), Or.inl ⟨1, by decide, fun t ht => by rw [show t = 0 by omega]; exact a1, b1, BK_wr b4 y2⟩⟩
    · obtain ⟨r4, w4, q4, q⟩ := q x a5 a2.2.2.2
      obtain ⟨y, b1, b2, b3, b4⟩ := BK_per a4 q4
      obtain ⟨r7, w7, q7, q⟩ := q y b1 b2.2.2.2
      obtain ⟨d1, d2⟩ := F210_w b4.1 b4.2.1 q7
      subst w7
      obtain ⟨r10, w10, q10, q⟩ := q _ d1 b2.2.2.2
      obtain ⟨d1, d2⟩ := F210_w b4.1 b4.2.1 q10
      subst w10
      have q := q _ d1 b2.2.2.2
      have fm : FM rl7 [148] w w4 := FM_trans a2 b2
      have af : AF w w4 := AF_trans a3 b3
      obtain ⟨y1, y2, _⟩ := last w4 x y _ _ b2.2.2.2 (by rw [FM_a fm (by decide)]; exact hl) q
      exact ⟨y1, FM_trans (FM_mono fm (by decide) (by decide)) (FM_mono y2 (by decide) (by decide)), AF_trans af (AF_eq (FM_a y2 (by decide))), Or.inl ⟨0, by decide, fun t ht => absurd ht (Nat.not_lt_zero t), a1, BK_wr b4 y2⟩⟩
end FS
end
section
section FT
variable {X : pm_X} {k : Nat} {w0 w w' : pm_W} {r : Option Value} {p p1 p2 p3 f0 p0 f : Int32} {bs : Nat → Int32} {n i v j : Nat}
/-- one fault more at the sentence's first token, which lies behind -/
theorem also3 {kd : Int32} (hS : SK w) (hi : i ≤ n) (hk : tkK bs n i ≠ 0) (h : RS w bs n (tP bs n i 1) f p) (hat : f ≠ 0 → p.toInt < tkS bs n i ∨ (p = pl bs n i ∧ f = 2)) (h2 : (2 : Int) ≤ kd.toInt) (q : PS X k 211 0 [.ref 147, .int kd, .int (pl bs n i)] [] w r w') : r = none ∧ FM [] [148] w w' ∧ AF w w' ∧ RS w' bs n (tP bs n i 1) (ntF true kd f) (ntP true (pl bs n i) f p) := by
  have n6 := RS_n6 h
  obtain ⟨z1, z2, z3, _, z5⟩ := F211 hS q
  obtain ⟨s1, s2, s3, s4, s5, s6, s7, s8, s9, s10⟩ := h
  obtain ⟨g2, g3⟩ := z5 s2
  have ff : qF w' = ntF true kd f ∧ qP w' = ntP true (pl bs n i) f p := by
    rw [ntF_t, ntP_t]
    by_cases c0 : f = 0
    · rw [if_pos c0, if_pos c0]
      exact g3 (fun z => z.1 (s7.trans c0))
    · rw [if_neg c0, if_neg c0, g2 ⟨by rw [s7]; exact c0, by
        rw [s8, s7]
        rcases hat c0 with y | ⟨y, y2⟩
        · exact Or.inl (by rw [pl_i n6 hi]; exact y)
        · exact Or.inr ⟨y, by rw [y2, two32]; exact h2⟩⟩]
      exact ⟨s7, s8⟩
  have b := tkN_b hk
  have s := tkS_b (bs := bs) (n := n) (i := tkN bs n i)
  refine ⟨z1, z2, z3, z2.2.2.2, by rw [FM_i z2 (by decide)]; exact s2, RTk_FM s3 z2 (by decide) (by decide) (by decide) (by decide) (by decide), (AF_rb z3).trans s4, (rn_FM z2 (by decide)).trans s5, ?_, ff.1, ff.2, fun hz => ?_, s10⟩
  · unfold RB
    rw [FM_i z2 (by decide), rn_FM z2 (by decide), AF_rb z3]
    exact s6
  · left
    show (ntP true (pl bs n i) f p).toInt < (tkS bs n (tkN bs n i) : Nat)
    rw [ntP_t]
    by_cases c0 : f = 0
    · rw [if_pos c0, pl_i n6 hi]
      omega
    · rw [if_neg c0]
      rcases hat c0 with y | ⟨y, _⟩
      · omega
      · rw [y, pl_i n6 hi]; omega
/-- one want too many -/
def tm12 (w : pm_W) : Bool := decide (7 ≤ (rcl w 1).toInt)
theorem VL_12 (hl : (gA w 150).length = 272) (hc0 : f = 0 → 0 ≤ (rcl w 1).toInt) (hi : i ≤ n) (hk : tkK bs n i ≠ 0) (hat : f ≠ 0 → p.toInt < tkS bs n i ∨ (p = pl bs n i ∧ f = 2)) (h : RS w bs n (tP bs n i 1) f p) (q : PS X k 207 31 [.ref 147, .int (pl bs n i), .int 7, pm_dead, pm_dead] [] w r w') : r = none ∧ VL w w' bs n i (ntF (tm12 w) 3 f) (ntP (tm12 w) (pl bs n i) f p) 12 := by
  have hS : SK w := h.1
  have e7 : (7 : Int32).toInt = 7 := by decide +kernel
  obtain ⟨k1, q⟩ := P31 hS (by decide +kernel) q
  obtain ⟨k2, q⟩ := P70 hS (by decide +kernel) q
  obtain ⟨k3, q⟩ := P121 hS (by decide +kernel) (by decide +kernel) q
  obtain ⟨k4, q⟩ := P182 hS (by decide +kernel) q
  cases k4 with
  | zero => exact (PS_0 q).elim
  | succ k4 =>
    have q := U207_201 hS q
    rw [if_pos rfl] at q
    obtain ⟨r1, w2, q1, q2⟩ := q
    have hd : dueN 12 = 4 := dN _ _ (by decide +kernel)
    cases k4 with
    | zero => exact (PS_0 q1).elim
    | succ k4 =>
      obtain ⟨_, q1⟩ := U213_0 hS q1
      rw [aG_n (m := 1) o32] at q1
      have q1 : if rcl w 1 < 7 then _ else _ := q1
      -- the state from label 17 on
      have s17 : ∃ (w3 : pm_W) (k5 : Nat), FM [] [148] w w3 ∧ AF w w3 ∧ RJ w3 bs n i 12 (ntF (tm12 w) 3 f) (ntP (tm12 w) (pl bs n i) f p) 0 ∧ PS X k5 213 17 [.ref 147, .int (pl bs n i), pm_dead, pm_dead, pm_dead, pm_dead, pm_dead] [] w3 r1 w2 := by
        by_cases c : rcl w 1 < 7
        · rw [if_pos c] at q1
          rw [Int32.lt_iff_toInt_lt, e7] at c
          refine ⟨w, _, FM_refl hS, AF_refl, ?_, q1⟩
          unfold tm12
          rw [decide_eq_false (by omega)]
          exact h
        · rw [if_neg c] at q1
          rw [Int32.lt_iff_toInt_lt, e7] at c
          obtain ⟨r3, w3, q3, q4⟩ := q1
          obtain ⟨z1, z2, z3, z4⟩ := also3 hS hi hk h hat (by rw [three32]; decide) q3
          refine ⟨w3, _, z2, z3, ?_, q4 z1 z2.2.2.2⟩
          unfold tm12
          rw [decide_eq_true (by omega)]
          exact z4
      obtain ⟨w3, k5, f3, a3, h3, q3⟩ := s17
      have g3 : gA w3 150 = gA w 150 := FM_a f3 (by decide)
      have rc3 : ∀ q, rcl w3 q = rcl w q := fun q => by unfold rcl; rw [g3]
      have hc3 : (fJ bs n i 12 (ntF (tm12 w) 3 f) (ntP (tm12 w) (pl bs n i) f p) 0).1 = 0 → (rcl w3 1).toInt < 7 := by
        intro hz
        have hz : ntF (tm12 w) 3 f = 0 := hz
        rw [rc3]
        by_cases c : 7 ≤ (rcl w 1).toInt
        · exfalso
          unfold tm12 at hz
          rw [decide_eq_true c, ntF_t] at hz
          by_cases c0 : f = 0
          · rw [if_pos c0] at hz; exact absurd hz (by decide +kernel)
          · rw [if_neg c0] at hz; exact c0 hz
        · omega
      obtain ⟨z1, z2, z3, z4⟩ := F213_17 (by rw [g3]; exact hl) (fun hz => by rw [rc3]; exact hc0 (ntF_z (by decide +kernel) hz).1) hc3 h3 q3
      have q := q2 z1 z2.2.2.2
      have fa : FM rl7 [148, 150, 151] w w2 := FM_trans (FM_mono f3 (by decide) (by decide)) z2
      have aa : AF w w2 := AF_trans a3 z3
      rcases z4 with ⟨j, y1, y2, y3, y4⟩ | ⟨y1, y2, y3⟩
      · obtain ⟨x1, k', x2⟩ := T212 fa.2.2.2 (E214_B y4) q
        have e := END_B y4 x2
        rw [e]
        exact ⟨x1, fa, aa, j, Or.inl ⟨FI_lt (by decide) (by omega) y2 y3, y4⟩⟩
      · obtain ⟨x1, k', x2⟩ := T212 fa.2.2.2 (E214_R y2) q
        obtain ⟨g1, g2, g4⟩ := END_R (by decide) hd y1 y2 x2
        refine ⟨x1, FM_trans fa (FM_mono g1 (by decide) (by decide)), AF_trans aa g2, 4, ?_⟩
        rcases g4 with ⟨g4, g5⟩ | g4
        · refine Or.inr ⟨g4, g5, fun hz => ?_⟩
          obtain ⟨u1, u2, u3⟩ := y3 hz
          have g150 : gA w' 150 = gA w2 150 := FM_a g1 (by decide)
          refine ⟨by rw [g150]; exact u1, fun q => ?_, ?_⟩
          · have e : rcl w' q = rcl w2 q := by unfold rcl; rw [g150]
            rw [e, u2 q]
            have ef : rcl w3 = rcl w := funext rc3
            rw [ef]
          · rw [FM_i g1 (by decide), u3, FM_i f3 (by decide)]
        · exact Or.inl g4
end FT
end
section
section FU
variable {X : pm_X} {k : Nat} {w0 w w' : pm_W} {r : Option Value} {p p1 p2 p3 f0 p0 f : Int32} {bs : Nat → Int32} {n i v j : Nat}
theorem VL_lift {w2 : pm_W} (f2 : FM rl6 [148] w w2) (a2 : AF w w2) (h : VL w2 w' bs n i f0 p0 v) : VL w w' bs n i f0 p0 v := by
  obtain ⟨z1, z2, m, z3⟩ := h
  have g : gA w2 150 = gA w 150 := FM_a f2 (by decide)
  have rc : rcl w2 = rcl w := by funext q; unfold rcl; rw [g]
  have g9 : gI w2 147 9 = gI w 147 9 := FM_i f2 (by decide)
  rw [rc, g9] at z3
  exact ⟨FM_trans (FM_mono f2 (by decide) (by decide)) z1, AF_trans a2 z2, m, z3⟩
def tmV (w : pm_W) (v : Nat) : Bool := cond (Nat.beq v 12) (tm12 w) false
theorem tmV_n (h : v ≠ 12) : tmV w v = false := by
  unfold tmV
  cases hb : Nat.beq v 12 with
  | true => exact absurd (Nat.eq_of_beq_eq_true hb) h
  | false => rfl
/-- a village's line -/
theorem F207 (hl : (gA w 150).length = 272) (hc0 : f = 0 → 0 ≤ (rcl w 1).toInt) (h : RS w bs n i f p) (q : PS X k 207 0 [.ref 147, pm_dead, pm_dead, pm_dead, pm_dead] [] w r w') : r = none ∧ ((vbT true bs n i = -1 ∧ FM rl7 [148, 150, 151] w w' ∧ AF w w' ∧ BK w' bs n i) ∨ ∃ v : Nat, vbT true bs n i = v ∧ 6 ≤ v ∧ v ≤ 12 ∧ tkK bs n i = 1 ∧ VL w w' bs n i (ntF (tmV w v) 3 f) (ntP (tmV w v) (pl bs n i) f p) v) := by
  have hS : SK w := h.1
  have hpl := RS_pl h
  cases k with
  | zero => exact (PS_0 q).elim
  | succ k =>
    obtain ⟨r1, w2, q1, q⟩ := U207_0 hS q
    rw [hpl] at q
    have e7 : (7 : Int32).toInt = 7 := by decide +kernel
    have hat := h.2.2.2.2.2.2.2.2.1
    have hi := h.2.2.2.2.2.2.2.2.2
    rcases F208 h q1 with ⟨c1, c2, c3, c4, f2, a2, h2, er⟩ | ⟨c1, f2, a2, hB, er⟩
    · rw [o32] at c3
      rw [e7] at c4
      obtain ⟨c, hc⟩ : ∃ c, c = wdC bs (tkS bs n i) (tkN bs n i) := ⟨_, rfl⟩
      rw [← hc] at c2 c3 c4 er
      have q := q c er f2.2.2.2
      have evb : vbT true bs n i = c.toInt + 5 := by
        unfold vbT vbR
        rw [if_pos c1, if_pos rfl, ← hc, if_pos ⟨c3, c4⟩]
      have fr : FM rl6 [148] w w2 := FM_mono f2 (by decide) (by decide)
      have hl2 : (gA w2 150).length = 272 := by rw [FM_a f2 (by decide)]; exact hl
      have hk : tkK bs n i ≠ 0 := by rw [c1]; decide
      have rc1 : rcl w2 1 = rcl w 1 := by unfold rcl; rw [FM_a f2 (by decide)]
      have go : ∀ (v : Nat) (y : Int32), c = y → y.toInt + 5 = v → 6 ≤ v → v ≤ 12 → (r = none ∧ VL w2 w' bs n i (ntF (tmV w v) 3 f) (ntP (tmV w v) (pl bs n i) f p) v) → r = none ∧ ((vbT true bs n i = -1 ∧ FM rl7 [148, 150, 151] w w' ∧ AF w w' ∧ BK w' bs n i) ∨ ∃ v : Nat, vbT true bs n i = v ∧ 6 ≤ v ∧ v ≤ 12 ∧ tkK bs n i = 1 ∧ VL w w' bs n i (ntF (tmV w v) 3 f) (ntP (tmV w v) (pl bs n i) f p) v) := by
        rintro v y ey hv h6 h12 ⟨z1, z2⟩
        exact ⟨z1, Or.inr ⟨v, by rw [evb, ey]; exact hv, h6, h12, c1, VL_lift fr a2 z2⟩⟩
      have cc : c = 1 ∨ c = 2 ∨ c = 3 ∨ c = 4 ∨ c = 5 ∨ c = 6 ∨ c = 7 := by
        have t : c.toInt = 1 ∨ c.toInt = 2 ∨ c.toInt = 3 ∨ c.toInt = 4 ∨ c.toInt = 5 ∨ c.toInt = 6 ∨ c.toInt = 7 := by omega
        rcases t with t | t | t | t | t | t | t
        · exact Or.inl (Int32.toInt_inj.mp (by rw [t]; decide +kernel))
        · exact Or.inr (Or.inl (Int32.toInt_inj.mp (by rw [t]; decide +kernel)))
        · exact Or.inr (Or.inr (Or.inl (Int32.toInt_inj.mp (by rw [t]; decide +kernel))))
        · exact Or.inr (Or.inr (Or.inr (Or.inl (Int32.toInt_inj.mp (by rw [t]; decide +kernel)))))
        · exact Or.inr (Or.inr (Or.inr (Or.inr (Or.inl (Int32.toInt_inj.mp (by rw [t]; decide +kernel))))))
        · exact Or.inr (Or.inr (Or.inr (Or.inr (Or.inr (Or.inl (Int32.toInt_inj.mp (by rw [t]; decide +kernel)))))))
        · exact Or.inr (Or.inr (Or.inr (Or.inr (Or.inr (Or.inr (Int32.toInt_inj.mp (by rw [t]; decide +kernel)))))))
      rcases cc with e | e | e | e | e | e | e
      · rw [if_pos e] at q
        rw [e] at q
        refine go 6 1 e (by rw [o32]; rfl) (by decide) (by decide) ?_
        rw [tmV_n (by decide)]
        exact VL_6 hl2 h2 q
      · rw [if_neg (by rw [e]; decide +kernel), e] at q
        refine go 7 2 e (by rw [two32]; rfl) (by decide) (by decide) ?_
        rw [tmV_n (by decide)]
        exact VL_7 hl2 h2 q
      · rw [if_neg (by rw [e]; decide +kernel), e] at q
        refine go 8 3 e (by rw [three32]; rfl) (by decide) (by decide) ?_
        rw [tmV_n (by decide)]
        exact VL_8 hl2 h2 q
      · rw [if_neg (by rw [e]; decide +kernel), e] at q
        refine go 9 4 e (by rw [four32]; rfl) (by decide) (by decide) ?_
        rw [tmV_n (by decide)]
        exact VL_9 hl2 h2 q
      · rw [if_neg (by rw [e]; decide +kernel), e] at q
        refine go 10 5 e (by rw [show (5 : Int32).toInt = 5 from by decide +kernel]; rfl) (by decide) (by decide) ?_
        rw [tmV_n (by decide)]
        exact VL_10 hl2 h2 q
      · rw [if_neg (by rw [e]; decide +kernel), e] at q
        refine go 11 6 e (by rw [six32]; rfl) (by decide) (by decide) ?_
        rw [tmV_n (by decide)]
        exact VL_11 hl2 h2 q
      · rw [if_neg (by rw [e]; decide +kernel), e] at q
        refine go 12 7 e (by rw [e7]; rfl) (by decide) (by decide) ?_
        have et : tmV w 12 = tm12 w2 := by
          show tm12 w = tm12 w2
          unfold tm12
          rw [rc1]
        rw [et]
        exact VL_12 hl2 (fun hz => by rw [rc1]; exact hc0 hz) hi hk hat h2 q
    · have q := q 0 er f2.2.2.2
      rw [if_neg (by decide +kernel)] at q
      obtain ⟨y1, k', y2⟩ := T31 f2.2.2.2 (E214_B hB) (by decide +kernel) (by decide +kernel) (by decide +kernel) (by decide +kernel) (by decide +kernel) (by decide +kernel) q
      have e := END_B hB y2
      rw [e]
      refine ⟨y1, Or.inl ⟨?_, FM_mono f2 (by decide) (by decide), a2, hB⟩⟩
      unfold vbT vbR
      by_cases ck : tkK bs n i = 1
      · rw [if_pos ck, if_pos rfl, if_neg]
        intro z
        refine c1 ⟨ck, fun y => ?_, by rw [o32]; exact z.1, by rw [e7]; exact z.2⟩
        rw [y, show (99 : Int32).toInt = 99 from by decide +kernel] at z
        omega
      · rw [if_neg ck]
end FU
end
section
/-! ===== the reference's row line ===== -/
section FV
variable {X : pm_X} {k : Nat} {w0 w w' : pm_W} {r : Option Value} {p p1 p2 p3 f0 p0 f : Int32} {bs : Nat → Int32} {n i v j : Nat}
/-- as RS, the fault aside -/
def R0 (w : pm_W) (bs : Nat → Int32) (n i : Nat) : Prop := SK w ∧ gI w 147 8 = 0 ∧ RTk w bs n i ∧ rb w = bs ∧ rn w = n ∧ RB w ∧ i ≤ n
theorem RS_R0 (h : RS w bs n i f p) : R0 w bs n i := by
  obtain ⟨s1, s2, s3, s4, s5, s6, _, _, _, s10⟩ := h
  exact ⟨s1, s2, s3, s4, s5, s6, s10⟩
theorem R0_RS (h : R0 w bs n i) (hf : qF w = f) (hp : qP w = p) (hlt : f ≠ 0 → p.toInt < tkS bs n i ∨ (p = pl bs n i ∧ f = 2)) : RS w bs n i f p := by
  obtain ⟨s1, s2, s3, s4, s5, s6, s10⟩ := h
  exact ⟨s1, s2, s3, s4, s5, s6, hf, hp, hlt, s10⟩
theorem R0_next (h : R0 w bs n i) (hk : tkK bs n i ≠ 0) (q : PS X k 201 0 [.ref 147, pm_dead, pm_dead] [] w r w') : r = none ∧ FM [(147, 3), (147, 4), (147, 5), (147, 6), (147, 7)] [] w w' ∧ R0 w' bs n (tkN bs n i) := by
  obtain ⟨hS, h8, hT, hb, hn, hR, hi⟩ := h
  obtain ⟨z1, z2, z3⟩ := RTk_next hS hR hb hn hT q
  exact ⟨z1, z2, z2.2.2.2, by rw [FM_i z2 (by decide)]; exact h8, z3, (rb_FM z2 (by decide)).trans hb, (rn_FM z2 (by decide)).trans hn, RB_FM hR z2 (by decide) (by decide), (tkN_b hk).2.2⟩
theorem R0_pl (h : R0 w bs n i) : gI w 147 4 = pl bs n i := by
  obtain ⟨_, _, hT, _, hn, hR, hi⟩ := h
  refine i32_of hT.2.1 ?_
  have := (tkN_n (bs := bs) (n := n) (i := i) hi).1
  unfold rn at hn
  have := hR.2.1
  omega
theorem F209_0 (h : R0 w bs n i) (q : PS X k 209 0 [.ref 147] [] w r w') : r = none ∧ FM [(147, 8)] [148] w w' ∧ AF w w' ∧ BK w' bs n i := by
  obtain ⟨z1, z2, z3, z4, _⟩ := F209 h.1 q
  obtain ⟨z5, z6, z7⟩ := z4 h.2.1
  refine ⟨z1, z2, z3, z2.2.2.2, ?_, z6, ?_⟩
  · rw [z5]; decide +kernel
  · rw [z7]; exact R0_pl h
theorem F208_0 (h : R0 w bs n i) (q : PS X k 208 0 [.ref 147, .int p1, .int p2, pm_dead] [] w r w') : (tkK bs n i = 1 ∧ wdC bs (tkS bs n i) (tkN bs n i) ≠ 99 ∧ p1.toInt ≤ (wdC bs (tkS bs n i) (tkN bs n i)).toInt ∧ (wdC bs (tkS bs n i) (tkN bs n i)).toInt ≤ p2.toInt ∧ FM [(147, 3), (147, 4), (147, 5), (147, 6), (147, 7)] [] w w' ∧ R0 w' bs n (tkN bs n i) ∧ r = some (.int (wdC bs (tkS bs n i) (tkN bs n i)))) ∨ (¬ (tkK bs n i = 1 ∧ wdC bs (tkS bs n i) (tkN bs n i) ≠ 99 ∧ p1.toInt ≤ (wdC bs (tkS bs n i) (tkN bs n i)).toInt ∧ (wdC bs (tkS bs n i) (tkN bs n i)).toInt ≤ p2.toInt) ∧ FM [(147, 8)] [148] w w' ∧ AF w w' ∧ BK w' bs n i ∧ r = some (.int 0)) := by
  cases k with
  | zero => exact (PS_0 q).elim
  | succ k =>
    have hh := h
    obtain ⟨hS, h8, hT, hb, hn, hR, hi2⟩ := h
    have q := U208_0 hS q
    rw [if_pos h8] at q
    by_cases c : gI w 147 5 = 3
    · rw [if_pos c] at q
      rw [hT.1, rTk_3] at c
      have ew := hT.2.2.2.2 c.1
      have q := use_p hS q (fun _ _ z => F199 hS z)
      rw [ew] at q
      have ein : isI (wdC bs (tkS bs n i) (tkN bs n i)) p1 p2 = true ↔ (p1.toInt ≤ (wdC bs (tkS bs n i) (tkN bs n i)).toInt ∧ (wdC bs (tkS bs n i) (tkN bs n i)).toInt ≤ p2.toInt) := by
        unfold isI
        rw [Bool.and_eq_true, decide_eq_true_iff, decide_eq_true_iff]
      by_cases ci : b2i (isI (wdC bs (tkS bs n i) (tkN bs n i)) p1 p2) = 0
      · rw [if_pos ci] at q
        rw [b2i_0] at ci
        obtain ⟨r1, w1, q1, q2⟩ := q
        obtain ⟨z1, z2, z3, z4⟩ := F209_0 hh q1
        have q := q2 z1 z2.2.2.2
        rw [q.2]
        refine Or.inr ⟨fun z => ?_, z2, z3, z4, q.1⟩
        rw [ein.mpr ⟨z.2.2.1, z.2.2.2⟩] at ci
        exact Bool.noConfusion ci
      · rw [if_neg ci] at q
        rw [b2i_0, Bool.not_eq_false, ein] at ci
        obtain ⟨r3, w3, q3, q4⟩ := q
        obtain ⟨z1, z2, z3⟩ := R0_next hh (by rw [c.1]; decide) q3
        have q := q4 z1 z2.2.2.2
        rw [q.2]
        exact Or.inl ⟨c.1, c.2, ci.1, ci.2, z2, z3, q.1⟩
    · rw [if_neg c] at q
      rw [hT.1, rTk_3] at c
      obtain ⟨r1, w1, q1, q2⟩ := q
      obtain ⟨z1, z2, z3, z4⟩ := F209_0 hh q1
      have q := q2 z1 z2.2.2.2
      rw [q.2]
      exact Or.inr ⟨fun z => c ⟨z.1, z.2.1⟩, z2, z3, z4, q.1⟩
/-- eight[], by cell -/
def ecl (w : pm_W) (q : Nat) : Int32 := (gA w 151).getD q 0
theorem RJ_wr {w1 : pm_W} (h : RJ w bs n i v f0 p0 j) (fm : FM [] [150, 151] w w1) : RJ w1 bs n i v f0 p0 j := RS_wr h fm
/-- eight times none -/
theorem L33 {x y : Int32} : ∀ (k : Nat) (w : pm_W) (t : Nat) (u : Int32), SK w → (gA w 151).length = 8 → u.toInt = t → t ≤ 8 → PS X k 215 33 [.ref 147, .int x, .int y, .int u] [] w r w' → ∃ (k' : Nat) (w1 : pm_W) (u' : Int32), FM [] [151] w w1 ∧ (gA w1 151).length = 8 ∧ (∀ q, q < 8 → ecl w1 q = if t ≤ q then -1 else ecl w q) ∧ (if y = 11 then PS X k' 215 64 [.ref 147, .int x, .int y, .int u'] [] w1 r w' else (if y = 12 then PS X k' 215 64 [.ref 147, .int x, .int y, .int u'] [] w1 r w' else PS X k' 215 104 [.ref 147, .int x, .int y, .int u'] [] w1 r w')) := by
  intro k
  induction k with
  | zero => intro w t u hS hl hu ht h; exact (PS_0 h).elim
  | succ k ih =>
    intro w t u hS hl hu ht h
    have h := U215_33 hS h
    by_cases c : 8 ≤ u
    · rw [if_pos c] at h
      rw [Int32.le_iff_toInt_le, eight32, hu] at c
      exact ⟨k, w, u, FM_refl hS, hl, fun q hq => by rw [if_neg (by omega)], h⟩
    · rw [if_neg c] at h
      rw [Int32.le_iff_toInt_le, eight32, hu] at c
      obtain ⟨hI, h⟩ := h
      have h := h _ rfl
      have g1 : gA (aS w 151 u (-1)) 151 = (gA w 151).set t (-1) := by rw [gA_aS (aI_isA hI), i_nat hu]
      obtain ⟨k', w1, u', a1, a2, a3, a4⟩ := ih _ (t + 1) (u + 1) (SK_aS hS) (by rw [g1, List.length_set]; exact hl) (by rw [zi_inc (n := 8) (by omega) (by omega), hu]; rfl) (by omega) h
      refine ⟨k', w1, u', FM_trans (FM_aS hS (by decide)) a1, a2, fun q hq => ?_, a4⟩
      rw [a3 q hq]
      unfold ecl
      rw [g1, getD_set (by omega)]
      by_cases c1 : q = t
      · rw [if_neg (by omega), if_pos c1, if_pos (by omega)]
      · by_cases c2 : t ≤ q
        · rw [if_pos (by omega), if_pos c2]
        · rw [if_neg (by omega), if_neg c1, if_neg c2]
end FV
end
section
section FW
variable {X : pm_X} {k : Nat} {w0 w w' : pm_W} {r : Option Value} {p p1 p2 p3 f0 p0 f : Int32} {bs : Nat → Int32} {n i v j : Nat}
/-- the eight numbers stored -/
theorem L183 {x y : Int32} {c : Nat} (hc : c < 30) : ∀ (k : Nat) (w : pm_W) (t : Nat) (u : Int32), SK w → (gA w 150).length = 272 → (rcl w 0).toInt = c → u.toInt = t → t ≤ 8 → PS X k 215 183 [.ref 147, .int x, .int y, .int u] [] w r w' → ∃ (k' : Nat) (w1 : pm_W) (u' : Int32), FM [] [150] w w1 ∧ (gA w1 150).length = 272 ∧ (∀ q, rcl w1 q = if 2 + 9 * c + t ≤ q ∧ q < 10 + 9 * c then ecl w (q - (2 + 9 * c)) else rcl w q) ∧ PS X k' 215 219 [.ref 147, .int x, .int y, .int u'] [] w1 r w' := by
  intro k
  have e9 : (9 : Int32).toInt = 9 := by decide +kernel
  induction k with
  | zero => intro w t u hS hl h0 hu ht h; exact (PS_0 h).elim
  | succ k ih =>
    intro w t u hS hl h0 hu ht h
    have h := U215_183 hS h
    by_cases c8 : 8 ≤ u
    · rw [if_pos c8] at h
      rw [Int32.le_iff_toInt_le, eight32, hu] at c8
      exact ⟨k, w, u, FM_refl hS, hl, fun q => by rw [if_neg (by omega)], h⟩
    · rw [if_neg c8] at h
      rw [Int32.le_iff_toInt_le, eight32, hu] at c8
      obtain ⟨_, _, hI, h⟩ := h
      have h := h _ rfl
      have e0 : aG w 150 0 = rcl w 0 := aG_n (m := 0) z32
      rw [e0, aG_n (m := t) hu] at h
      rw [e0] at hI
      have ei : ((2 + (9 * rcl w 0)) + u).toInt = (2 + 9 * c + t : Nat) := by
        rw [zi_add (zi_add two32 (zi_mul e9 h0 (by omega) (by omega)) (by omega) (by omega)) hu (by omega) (by omega)]
        omega
      obtain ⟨w1, e1⟩ : ∃ w1, w1 = aS w 150 ((2 + (9 * rcl w 0)) + u) ((gA w 151).getD t 0) := ⟨_, rfl⟩
      rw [← e1] at h
      have g1 : gA w1 150 = (gA w 150).set (2 + 9 * c + t) ((gA w 151).getD t 0) := by rw [e1, gA_aS (aI_isA hI), i_nat ei]
      have rc1 : ∀ q, rcl w1 q = if q = 2 + 9 * c + t then (gA w 151).getD t 0 else rcl w q := by
        intro q
        unfold rcl
        rw [g1, getD_set (by omega)]
      have g2 : gA w1 151 = gA w 151 := by rw [e1]; exact gA_aS_ne (by decide)
      have hS1 : SK w1 := by rw [e1]; exact SK_aS hS
      obtain ⟨k', w2, u', a1, a2, a3, a4⟩ := ih w1 (t + 1) (u + 1) hS1 (by rw [g1, List.length_set]; exact hl) (by rw [rc1, if_neg (by omega)]; exact h0) (by rw [zi_inc (n := 8) (by omega) (by omega), hu]; rfl) (by omega) h
      refine ⟨k', w2, u', FM_trans (w1 := w1) (by rw [e1]; exact FM_aS hS (by decide)) a1, a2, fun q => ?_, a4⟩
      rw [a3 q, rc1 q]
      by_cases c1 : q = 2 + 9 * c + t
      · rw [if_neg (by omega), if_pos c1, if_pos (by omega), c1, show 2 + 9 * c + t - (2 + 9 * c) = t by omega]
        rfl
      · by_cases c2 : 2 + 9 * c + t ≤ q ∧ q < 10 + 9 * c
        · rw [if_pos (by omega), if_pos c2]
          unfold ecl
          rw [g2]
        · rw [if_neg (by omega), if_neg c1, if_neg c2]
theorem L183w {x y : Int32} : ∀ (k : Nat) (w : pm_W) (u : Int32), SK w → PS X k 215 183 [.ref 147, .int x, .int y, .int u] [] w r w' → ∃ (k' : Nat) (w1 : pm_W) (u' : Int32), FM [] [150] w w1 ∧ PS X k' 215 219 [.ref 147, .int x, .int y, .int u'] [] w1 r w' := by
  intro k
  induction k with
  | zero => intro w u hS h; exact (PS_0 h).elim
  | succ k ih =>
    intro w u hS h
    have h := U215_183 hS h
    by_cases c8 : 8 ≤ u
    · rw [if_pos c8] at h
      exact ⟨k, w, u, FM_refl hS, h⟩
    · rw [if_neg c8] at h
      obtain ⟨_, _, hI, h⟩ := h
      have h := h _ rfl
      obtain ⟨k', w2, u', a1, a4⟩ := ih _ (u + 1) (SK_aS hS) h
      exact ⟨k', w2, u', FM_trans (FM_aS hS (by decide)) a1, a4⟩
/-- a row's cells behind a further act -/
def rowR (c : Nat → Int32) (y : Int32) (e : Nat → Int32) (q : Nat) : Int32 := if q = 0 then c 0 + 1 else if q = 1 + 9 * (c 0).toInt.toNat then y else if 2 + 9 * (c 0).toInt.toNat ≤ q ∧ q < 10 + 9 * (c 0).toInt.toNat then e (q - (2 + 9 * (c 0).toInt.toNat)) else c q
/-- from label 219 on: counted, then the line's end -/
theorem T219 {x y u : Int32} (hS : SK w) (hE : ∀ w1 : pm_W, FM [] [150] w w1 → E214 X w1) (q : PS X k 215 219 [.ref 147, .int x, .int y, .int u] [] w r w') : r = none ∧ aI w 150 0 ∧ ∃ (w1 : pm_W) (k' : Nat), w1 = aS w 150 0 (rcl w 0 + 1) ∧ PS X k' 214 0 [.ref 147] [] w1 none w' := by
  cases k with
  | zero => exact (PS_0 q).elim
  | succ k =>
    obtain ⟨_, hI, q⟩ := U215_219 hS q
    have q := q _ rfl
    have e0 : aG w 150 0 = rcl w 0 := aG_n (m := 0) z32
    rw [e0] at q
    obtain ⟨r1, w2, q1, q2⟩ := q
    obtain ⟨e, hS2⟩ := hE _ (FM_aS hS (by decide)) _ _ _ q1
    subst e
    have q := q2 rfl hS2
    rw [q.2]
    exact ⟨q.1, hI, _, _, rfl, q1⟩
/-- from label 150 on: stored, counted, the line's end -/
theorem T150 {x y u : Int32} (hS : SK w) (hl : (gA w 150).length = 272) (hE : ∀ w1 : pm_W, FM [] [150] w w1 → E214 X w1) (q : PS X k 215 150 [.ref 147, .int x, .int y, .int u] [] w r w') : r = none ∧ ∃ (w1 : pm_W) (k' : Nat), FM [] [150] w w1 ∧ (0 ≤ (rcl w 0).toInt → (rcl w 0).toInt < 30 → (gA w1 150).length = 272 ∧ ∀ q, rcl w1 q = rowR (rcl w) (y - 11) (ecl w) q) ∧ PS X k' 214 0 [.ref 147] [] w1 none w' := by
  cases k with
  | zero => exact (PS_0 q).elim
  | succ k =>
    obtain ⟨_, q⟩ := U215_150 hS q
    have e0 : aG w 150 0 = rcl w 0 := aG_n (m := 0) z32
    have e9 : (9 : Int32).toInt = 9 := by decide +kernel
    have e30 : (30 : Int32).toInt = 30 := by decide +kernel
    rw [e0] at q
    by_cases c : 30 ≤ rcl w 0
    · rw [if_pos c] at q
      rw [Int32.le_iff_toInt_le, e30] at c
      obtain ⟨z1, _, w1, k', z2, z3⟩ := T219 hS hE q
      exact ⟨z1, w1, k', by rw [z2]; exact FM_aS hS (by decide), fun _ y => by omega, z3⟩
    · rw [if_neg c] at q
      rw [Int32.le_iff_toInt_le, e30] at c
      obtain ⟨_, hI, q⟩ := q
      have q := q _ rfl
      by_cases c0 : 0 ≤ (rcl w 0).toInt
      · obtain ⟨cn0, hcn⟩ : ∃ cn0, cn0 = (rcl w 0).toInt.toNat := ⟨_, rfl⟩
        have ec : (rcl w 0).toInt = cn0 := by omega
        have ei : (1 + (9 * rcl w 0)).toInt = (1 + 9 * cn0 : Nat) := by
          rw [zi_add o32 (zi_mul e9 ec (by omega) (by omega)) (by omega) (by omega)]
          omega
        obtain ⟨w1, e1⟩ : ∃ w1, w1 = aS w 150 (1 + (9 * rcl w 0)) (y - 11) := ⟨_, rfl⟩
        rw [← e1] at q
        have hS1 : SK w1 := by rw [e1]; exact SK_aS hS
        have f1 : FM [] [150] w w1 := by rw [e1]; exact FM_aS hS (by decide)
        have g1 : gA w1 150 = (gA w 150).set (1 + 9 * cn0) (y - 11) := by rw [e1, gA_aS (aI_isA hI), i_nat ei]
        have rc1 : ∀ q, rcl w1 q = if q = 1 + 9 * cn0 then y - 11 else rcl w q := by
          intro q
          unfold rcl
          rw [g1, getD_set (by omega)]
        have ec1 : ∀ q, ecl w1 q = ecl w q := fun q => by unfold ecl; rw [FM_a f1 (by decide)]
        obtain ⟨k', w2, u', f2, l2, c2, q⟩ := L183 (c := cn0) (by omega) _ w1 0 0 hS1 (by rw [g1, List.length_set]; exact hl) (by rw [rc1, if_neg (by omega)]; exact ec) z32 (by omega) q
        have f12 := FM_trans f1 f2
        obtain ⟨z1, zI, w3, k3, z2, z3⟩ := T219 f2.2.2.2 (fun w5 f5 => hE w5 (FM_trans f12 f5)) q
        refine ⟨z1, w3, k3, FM_trans f12 (by rw [z2]; exact FM_aS f2.2.2.2 (by decide)), fun _ _ => ?_, z3⟩
        have g3 : gA w3 150 = (gA w2 150).set 0 (rcl w2 0 + 1) := by rw [z2, gA_aS (aI_isA zI), i_nat (n := 0) z32]
        refine ⟨by rw [g3, List.length_set]; exact l2, fun q => ?_⟩
        have e : rcl w3 q = if q = 0 then rcl w2 0 + 1 else rcl w2 q := by
          show (gA w3 150).getD q 0 = _
          rw [g3, getD_set (by omega)]
          rfl
        have e00 : rcl w2 0 = rcl w 0 := by rw [c2 0, if_neg (by omega), rc1, if_neg (by omega)]
        rw [e, e00, c2 q, rc1 q, ec1]
        unfold rowR
        rw [← hcn]
        by_cases q0 : q = 0
        · rw [if_pos q0, if_pos q0]
        rw [if_neg q0, if_neg q0]
        by_cases q1 : q = 1 + 9 * cn0
        · rw [if_neg (by omega), if_pos q1, if_pos q1]
        rw [if_neg q1, if_neg q1, Nat.add_zero]
      · obtain ⟨k', w2, u', f2, q⟩ := L183w _ _ 0 (SK_aS hS) q
        have f12 : FM [] [150] w w2 := FM_trans (FM_aS hS (by decide)) f2
        obtain ⟨z1, zI, w3, k3, z2, z3⟩ := T219 f2.2.2.2 (fun w5 f5 => hE w5 (FM_trans f12 f5)) q
        exact ⟨z1, w3, k3, FM_trans f12 (by rw [z2]; exact FM_aS f2.2.2.2 (by decide)), fun y _ => absurd y c0, z3⟩
/-- past the verbs that it is not, to label 150 -/
theorem P133 {x y u : Int32} (hS : SK w) (h15 : y ≠ 15) (q : PS X k 215 133 [.ref 147, .int x, .int y, .int u] [] w r w') : ∃ k', PS X k' 215 150 [.ref 147, .int x, .int y, .int u] [] w r w' := by
  cases k with
  | zero => exact (PS_0 q).elim
  | succ k =>
    have q := U215_133 hS q
    rw [if_neg h15] at q
    exact ⟨_, q⟩
theorem P114 {x y u : Int32} (hS : SK w) (h14 : y ≠ 14) (q : PS X k 215 114 [.ref 147, .int x, .int y, .int u] [] w r w') : ∃ k', PS X k' 215 133 [.ref 147, .int x, .int y, .int u] [] w r w' := by
  cases k with
  | zero => exact (PS_0 q).elim
  | succ k =>
    have q := U215_114 hS q
    rw [if_neg h14] at q
    exact ⟨_, q⟩
theorem P104 {x y u : Int32} (hS : SK w) (h13 : y ≠ 13) (q : PS X k 215 104 [.ref 147, .int x, .int y, .int u] [] w r w') : ∃ k', PS X k' 215 114 [.ref 147, .int x, .int y, .int u] [] w r w' := by
  cases k with
  | zero => exact (PS_0 q).elim
  | succ k =>
    have q := U215_104 hS q
    rw [if_neg h13] at q
    exact ⟨_, q⟩
end FW
end
section
section FX
variable {X : pm_X} {k : Nat} {w0 w wE w' : pm_W} {r : Option Value} {p p1 p2 p3 f0 p0 f : Int32} {bs : Nat → Int32} {n i v j m : Nat}
theorem len150 (hS : SK w) : (gA w 150).length = 272 := SK_len hS (by decide +kernel) (by decide)
theorem len151 (hS : SK w) : (gA w 151).length = 8 := SK_len hS (by decide +kernel) (by decide)
/-- eight numbers, told or none -/
def e8 (bs : Nat → Int32) (n i m t : Nat) : Int32 := if t < m then ns32 bs n i t else -1
/-- the outcome of a row's line -/
def RL (w w' : pm_W) (bs : Nat → Int32) (n i : Nat) (f0 p0 : Int32) (v : Nat) : Prop := FM rl7 [148, 150, 151] w w' ∧ AF w w' ∧ ∃ m, (FI bs n i v m ∧ BK w' bs n (tP bs n i (m + 1))) ∨ (OK bs n i v m ∧ RS w' bs n (tP bs n i (m + 2)) (fJ bs n i v f0 p0 m).1 (fJ bs n i v f0 p0 m).2 ∧ ((fJ bs n i v f0 p0 m).1 = 0 → ∃ e : Nat → Int32, (∀ t, t < 8 → e t = e8 bs n i m t) ∧ ∀ q, rcl w' q = rowR (rcl w) (Int32.ofNat v) e q))
/-- from label 150 on, m numbers being read -/
theorem FIN_R {x y u : Int32} (hv : v ≠ 2) (hm : dueN v = m) (hK : ∀ t, t < m → tkK bs n (tP bs n i (t + 1)) = 2) (fm : FM rl7 [148, 151] w wE) (af : AF w wE) (h : RJ wE bs n i v f0 p0 m) (hc0 : f0 = 0 → 0 ≤ (rcl w 0).toInt) (hc : (fJ bs n i v f0 p0 m).1 = 0 → (rcl w 0).toInt < 30) (hy : y - 11 = Int32.ofNat v) (he : (fJ bs n i v f0 p0 m).1 = 0 → ∀ t, t < 8 → ecl wE t = e8 bs n i m t) (q : PS X k 215 150 [.ref 147, .int x, .int y, .int u] [] wE r w') : r = none ∧ RL w w' bs n i f0 p0 v := by
  have rcE : ∀ q, rcl wE q = rcl w q := fun q => by unfold rcl; rw [FM_a fm (by decide)]
  obtain ⟨z1, w1, k', f1, c1, z2⟩ := T150 fm.2.2.2 (len150 fm.2.2.2) (fun w1 f1 => E214_R (RS_wr h (FM_mono f1 (by decide) (by decide)))) q
  have h1 : RJ w1 bs n i v f0 p0 m := RJ_wr h (FM_mono f1 (by decide) (by decide))
  obtain ⟨g1, g2, g3⟩ := END_R hv hm hK h1 z2
  refine ⟨z1, FM_trans (FM_mono fm (by decide) (by decide)) (FM_trans (FM_mono f1 (by decide) (by decide)) (FM_mono g1 (by decide) (by decide))), AF_trans (AF_trans af (AF_eq (FM_a f1 (by decide)))) g2, m, ?_⟩
  rcases g3 with ⟨g3, g4⟩ | g3
  · refine Or.inr ⟨g3, g4, fun hz => ⟨ecl wE, he hz, fun q => ?_⟩⟩
    have e : rcl w' q = rcl w1 q := by unfold rcl; rw [FM_a g1 (by decide)]
    have ef : rcl wE = rcl w := funext rcE
    rw [e, (c1 (by rw [rcE]; exact hc0 (fJ_00 m hz)) (by rw [rcE]; exact hc hz)).2 q, hy, ef]
  · exact Or.inl g3
/-- from label 150 on, the form being broken -/
theorem FIN_B {x y u : Int32} (hF : FI bs n i v j) (fm : FM rl7 [148, 151] w wE) (af : AF w wE) (h : BK wE bs n (tP bs n i (j + 1))) (hc0 : f0 = 0 → 0 ≤ (rcl w 0).toInt) (q : PS X k 215 150 [.ref 147, .int x, .int y, .int u] [] wE r w') : r = none ∧ RL w w' bs n i f0 p0 v := by
  have rcE : ∀ q, rcl wE q = rcl w q := fun q => by unfold rcl; rw [FM_a fm (by decide)]
  obtain ⟨z1, w1, k', f1, c1, z2⟩ := T150 fm.2.2.2 (len150 fm.2.2.2) (fun w1 f1 => E214_B (BK_wr h (FM_mono f1 (by decide) (by decide)))) q
  have h1 := BK_wr h (FM_mono f1 (by decide) (by decide))
  have e := END_B h1 z2
  rw [e]
  exact ⟨z1, FM_trans (FM_mono fm (by decide) (by decide)) (FM_mono f1 (by decide) (by decide)), AF_trans af (AF_eq (FM_a f1 (by decide))), j, Or.inl ⟨hF, h1⟩⟩
/-- month -/
theorem RL_5 {x u : Int32} (fm : FM rl7 [148, 151] w wE) (af : AF w wE) (he : ∀ t, t < 8 → ecl wE t = -1) (h : RJ wE bs n i 5 f0 p0 0) (hc0 : f0 = 0 → 0 ≤ (rcl w 0).toInt) (hc : f0 = 0 → (rcl w 0).toInt < 30) (q : PS X k 215 104 [.ref 147, .int x, .int 16, .int u] [] wE r w') : r = none ∧ RL w w' bs n i f0 p0 5 := by
  obtain ⟨k1, q⟩ := P104 fm.2.2.2 (by decide +kernel) q
  obtain ⟨k2, q⟩ := P114 fm.2.2.2 (by decide +kernel) q
  obtain ⟨k3, q⟩ := P133 fm.2.2.2 (by decide +kernel) q
  exact FIN_R (by decide) (dN _ _ (by decide +kernel)) (fun t ht => absurd ht (Nat.not_lt_zero t)) fm af h hc0 hc (by decide +kernel) (fun _ t ht => by unfold e8; rw [if_neg (Nat.not_lt_zero t)]; exact he t ht) q
/-- strike -/
theorem RL_3 {x u : Int32} (fm : FM rl7 [148, 151] w wE) (af : AF w wE) (he : ∀ t, t < 8 → ecl wE t = -1) (h : RJ wE bs n i 3 f0 p0 0) (hc0 : f0 = 0 → 0 ≤ (rcl w 0).toInt) (hc : f0 = 0 → (rcl w 0).toInt < 30) (q : PS X k 215 104 [.ref 147, .int x, .int 14, .int u] [] wE r w') : r = none ∧ RL w w' bs n i f0 p0 3 := by
  obtain ⟨k1, q⟩ := P104 fm.2.2.2 (by decide +kernel) q
  cases k1 with
  | zero => exact (PS_0 q).elim
  | succ k1 =>
    have q := U215_114 fm.2.2.2 q
    rw [if_pos rfl] at q
    obtain ⟨r4, w5, q1, q2⟩ := q
    have e29 : (29 : Int32).toInt = 29 := by decide +kernel
    rcases R_num (by decide) (Or.inr (by rw [badI_lo (by decide) (by decide), show lwL 3 0 = 0 from by decide +kernel, show lwH 3 0 = 29 from by decide +kernel, z32, e29])) h q1 with ⟨z1, z2, z3, z9, y, z4, z5, z6⟩ | ⟨z1, z2, z3, z4, z5⟩
    · obtain ⟨hI, q⟩ := q2 y z4 z2.2.2.2
      have q := q _ rfl
      obtain ⟨w7, e7⟩ : ∃ w7, w7 = aS w5 151 0 y := ⟨_, rfl⟩
      rw [← e7] at q
      have f7 : FM [] [151] w5 w7 := by rw [e7]; exact FM_aS z2.2.2.2 (by decide)
      have h7 : RJ w7 bs n i 3 f0 p0 1 := RJ_wr z5 (FM_mono f7 (by decide) (by decide))
      obtain ⟨k3, q⟩ := P133 f7.2.2.2 (by decide +kernel) q
      refine FIN_R (by decide) (dN _ _ (by decide +kernel)) (fun t ht => by rw [show t = 0 by omega]; exact z1) (FM_trans fm (FM_trans (FM_mono z2 (by decide) (by decide)) (FM_mono f7 (by decide) (by decide)))) (AF_trans af (AF_trans z3 (AF_eq (FM_a f7 (by decide))))) h7 hc0 (fun hz => hc (fJ_0 (by decide) hz)) (by decide +kernel) (fun hz t ht => ?_) q
      have g : gA w7 151 = (gA wE 151).set 0 y := by rw [e7, gA_aS (aI_isA hI), i_nat (n := 0) z32, FM_a z2 (by decide)]
      have l8 := len151 fm.2.2.2
      unfold ecl e8
      rw [g, getD_set (by omega)]
      by_cases c : t = 0
      · rw [if_pos c, if_pos (by omega), c]
        exact ns32_of (z6 hz)
      · rw [if_neg c, if_neg (by omega)]
        exact he t ht
    · obtain ⟨hI, q⟩ := q2 _ z5 z2.2.2.2
      have q := q _ rfl
      have f7 : FM [] [151] w5 (aS w5 151 0 0) := FM_aS z2.2.2.2 (by decide)
      obtain ⟨k3, q⟩ := P133 f7.2.2.2 (by decide +kernel) q
      exact FIN_B (FI_lt (by decide) (by rw [dN 3 1 (by decide +kernel)]; decide) (fun t ht => absurd ht (Nat.not_lt_zero t)) z1) (FM_trans fm (FM_trans (FM_mono z2 (by decide) (by decide)) (FM_mono f7 (by decide) (by decide)))) (AF_trans af (AF_trans z3 (AF_eq (FM_a f7 (by decide))))) (BK_wr z4 (FM_mono f7 (by decide) (by decide))) hc0 q
/-- fail -/
theorem RL_4 {x u : Int32} (fm : FM rl7 [148, 151] w wE) (af : AF w wE) (he : ∀ t, t < 8 → ecl wE t = -1) (h : RJ wE bs n i 4 f0 p0 0) (hc0 : f0 = 0 → 0 ≤ (rcl w 0).toInt) (hc : f0 = 0 → (rcl w 0).toInt < 30) (q : PS X k 215 104 [.ref 147, .int x, .int 15, .int u] [] wE r w') : r = none ∧ RL w w' bs n i f0 p0 4 := by
  obtain ⟨k1, q⟩ := P104 fm.2.2.2 (by decide +kernel) q
  obtain ⟨k2, q⟩ := P114 fm.2.2.2 (by decide +kernel) q
  cases k2 with
  | zero => exact (PS_0 q).elim
  | succ k2 =>
    have q := U215_133 fm.2.2.2 q
    rw [if_pos rfl] at q
    obtain ⟨r4, w5, q1, q2⟩ := q
    have m1 : ((-1 : Int32)).toInt = -1 := by decide +kernel
    rcases R_per (by decide) (Or.inr (by rw [badI_lo (by decide) (by decide), show lwL 4 0 = 0 from by decide +kernel, show lwH 4 0 = 8 from by decide +kernel, m1]; omega)) h q1 with ⟨z1, z2, z3, y, z4, z5, z6, _, _⟩ | ⟨z1, z2, z3, z4, y, z5⟩
    · obtain ⟨hI, q⟩ := q2 y z4 z2.2.2.2
      have q := q _ rfl
      obtain ⟨w7, e7⟩ : ∃ w7, w7 = aS w5 151 0 y := ⟨_, rfl⟩
      rw [← e7] at q
      have f7 : FM [] [151] w5 w7 := by rw [e7]; exact FM_aS z2.2.2.2 (by decide)
      have h7 : RJ w7 bs n i 4 f0 p0 1 := RJ_wr z5 (FM_mono f7 (by decide) (by decide))
      refine FIN_R (by decide) (dN _ _ (by decide +kernel)) (fun t ht => by rw [show t = 0 by omega]; exact z1) (FM_trans fm (FM_trans (FM_mono z2 (by decide) (by decide)) (FM_mono f7 (by decide) (by decide)))) (AF_trans af (AF_trans z3 (AF_eq (FM_a f7 (by decide))))) h7 hc0 (fun hz => hc (fJ_0 (by decide) hz)) (by decide +kernel) (fun hz t ht => ?_) q
      have g : gA w7 151 = (gA wE 151).set 0 y := by rw [e7, gA_aS (aI_isA hI), i_nat (n := 0) z32, FM_a z2 (by decide)]
      have l8 := len151 fm.2.2.2
      unfold ecl e8
      rw [g, getD_set (by omega)]
      by_cases c : t = 0
      · rw [if_pos c, if_pos (by omega), c]
        exact ns32_of (z6 hz)
      · rw [if_neg c, if_neg (by omega)]
        exact he t ht
    · obtain ⟨hI, q⟩ := q2 _ z5 z2.2.2.2
      have q := q _ rfl
      have f7 : FM [] [151] w5 (aS w5 151 0 y) := FM_aS z2.2.2.2 (by decide)
      exact FIN_B (FI_lt (by decide) (by rw [dN 4 1 (by decide +kernel)]; decide) (fun t ht => absurd ht (Nat.not_lt_zero t)) z1) (FM_trans fm (FM_trans (FM_mono z2 (by decide) (by decide)) (FM_mono f7 (by decide) (by decide)))) (AF_trans af (AF_trans z3 (AF_eq (FM_a f7 (by decide))))) (BK_wr z4 (FM_mono f7 (by decide) (by decide))) hc0 q
end FX
end
section
section FY
variable {X : pm_X} {k : Nat} {w0 w wE w' : pm_W} {r : Option Value} {p p1 p2 p3 f0 p0 f : Int32} {bs : Nat → Int32} {n i v j m : Nat}
/-- owe, pay -/
theorem RL_01 {x y u : Int32} (hv : v = 0 ∨ v = 1) (hy : y - 11 = Int32.ofNat v) (h13 : y ≠ 13) (h14 : y ≠ 14) (h15 : y ≠ 15) (fm : FM rl7 [148, 151] w wE) (af : AF w wE) (he : ∀ t, t < 8 → ecl wE t = -1) (h : RJ wE bs n i v f0 p0 0) (hc0 : f0 = 0 → 0 ≤ (rcl w 0).toInt) (hc : f0 = 0 → (rcl w 0).toInt < 30) (q : PS X k 215 64 [.ref 147, .int x, .int y, .int u] [] wE r w') : r = none ∧ RL w w' bs n i f0 p0 v := by
  have m1 : ((-1 : Int32)).toInt = -1 := by decide +kernel
  have e99 : (99 : Int32).toInt = 99 := by decide +kernel
  have v2 : v ≠ 2 := by omega
  have lw : lwL v 0 = 0 ∧ lwH v 0 = 8 ∧ lwL v 1 = 0 ∧ lwH v 1 = 8 ∧ lwL v 2 = 1 ∧ lwH v 2 = 99 := by
    rcases hv with rfl | rfl <;> decide +kernel
  have hd : dueN v = 3 := by rcases hv with rfl | rfl <;> exact dN _ _ (by decide +kernel)
  have hv4 : v = 0 ∨ v = 1 ∨ v = 7 ∨ v = 12 := by omega
  -- from label 104 on
  have tail : ∀ (w9 : pm_W) (k9 : Nat), SK w9 → PS X k9 215 104 [.ref 147, .int x, .int y, .int u] [] w9 r w' → ∃ k', PS X k' 215 150 [.ref 147, .int x, .int y, .int u] [] w9 r w' := by
    intro w9 k9 hS9 q
    obtain ⟨k1, q⟩ := P104 hS9 h13 q
    obtain ⟨k2, q⟩ := P114 hS9 h14 q
    exact P133 hS9 h15 q
  cases k with
  | zero => exact (PS_0 q).elim
  | succ k =>
    obtain ⟨r1, w1, q1, q⟩ := U215_64 fm.2.2.2 q
    rcases R_per (by decide) (Or.inr (by rw [badI_lo v2 (by omega), lw.1, lw.2.1, m1]; omega)) h q1 with ⟨a1, a2, a3, z0, a4, a5, a6, _, _⟩ | ⟨a1, a2, a3, a4, z0, a5⟩
    · obtain ⟨hI0, q⟩ := q z0 a4 a2.2.2.2
      have q := q _ rfl
      obtain ⟨w2, e2⟩ : ∃ w2, w2 = aS w1 151 0 z0 := ⟨_, rfl⟩
      rw [← e2] at q
      have f2 : FM [] [151] w1 w2 := by rw [e2]; exact FM_aS a2.2.2.2 (by decide)
      have g2 : gA w2 151 = (gA wE 151).set 0 z0 := by rw [e2, gA_aS (aI_isA hI0), i_nat (n := 0) z32, FM_a a2 (by decide)]
      have l8 := len151 fm.2.2.2
      obtain ⟨_, r4, w4, q4, q⟩ := q
      have ex : aG w2 151 0 = z0 := by rw [aG_n (m := 0) z32, g2, getD_set (by omega), if_pos rfl]
      rw [ex] at q4
      have hb1 : (fJ bs n i v f0 p0 1).1 ≠ 0 ∨ (badI v 1 (nv bs n i 1) (nv bs n i) ↔ (nv bs n i 1 = z0.toInt ∨ ¬ (0 ≤ nv bs n i 1 ∧ nv bs n i 1 ≤ 8))) := by
        by_cases c : (fJ bs n i v f0 p0 1).1 = 0
        · refine Or.inr ?_
          rw [badI_tw hv4, lw.2.2.1, lw.2.2.2.1, a6 c]
        · exact Or.inl c
      have h2 : RJ w2 bs n i v f0 p0 1 := RJ_wr a5 (FM_mono f2 (by decide) (by decide))
      have f02 : FM rl7 [148, 151] w w2 := FM_trans fm (FM_trans (FM_mono a2 (by decide) (by decide)) (FM_mono f2 (by decide) (by decide)))
      have a02 : AF w w2 := AF_trans af (AF_trans a3 (AF_eq (FM_a f2 (by decide))))
      rcases R_per (by decide) hb1 h2 q4 with ⟨b1, b2, b3, z1, b4, b5, b6, _, _⟩ | ⟨b1, b2, b3, b4, z1, b5⟩
      · obtain ⟨hI1, q⟩ := q z1 b4 b2.2.2.2
        have q := q _ rfl
        obtain ⟨w5, e5⟩ : ∃ w5, w5 = aS w4 151 1 z1 := ⟨_, rfl⟩
        rw [← e5] at q
        have f5 : FM [] [151] w4 w5 := by rw [e5]; exact FM_aS b2.2.2.2 (by decide)
        have g5 : gA w5 151 = ((gA wE 151).set 0 z0).set 1 z1 := by rw [e5, gA_aS (aI_isA hI1), i_nat (n := 1) o32, FM_a b2 (by decide), g2]
        have h5 : RJ w5 bs n i v f0 p0 2 := RJ_wr b5 (FM_mono f5 (by decide) (by decide))
        have f05 : FM rl7 [148, 151] w w5 := FM_trans f02 (FM_trans (FM_mono b2 (by decide) (by decide)) (FM_mono f5 (by decide) (by decide)))
        have a05 : AF w w5 := AF_trans a02 (AF_trans b3 (AF_eq (FM_a f5 (by decide))))
        obtain ⟨r7, w7, q7, q⟩ := q
        rcases R_num (by decide) (Or.inr (by rw [badI_lo v2 (by omega), lw.2.2.2.2.1, lw.2.2.2.2.2, o32, e99])) h5 q7 with ⟨c1, c2, c3, _, z2, c4, c5, c6⟩ | ⟨c1, c2, c3, c4, c5⟩
        · obtain ⟨hI2, q⟩ := q z2 c4 c2.2.2.2
          have q := q _ rfl
          obtain ⟨w8, e8'⟩ : ∃ w8, w8 = aS w7 151 2 z2 := ⟨_, rfl⟩
          rw [← e8'] at q
          have f8 : FM [] [151] w7 w8 := by rw [e8']; exact FM_aS c2.2.2.2 (by decide)
          have g8 : gA w8 151 = (((gA wE 151).set 0 z0).set 1 z1).set 2 z2 := by rw [e8', gA_aS (aI_isA hI2), i_nat (n := 2) two32, FM_a c2 (by decide), g5]
          have h8 : RJ w8 bs n i v f0 p0 3 := RJ_wr c5 (FM_mono f8 (by decide) (by decide))
          obtain ⟨k9, q⟩ := tail w8 _ f8.2.2.2 q
          refine FIN_R v2 hd (fun t ht => ?_) (FM_trans f05 (FM_trans (FM_mono c2 (by decide) (by decide)) (FM_mono f8 (by decide) (by decide)))) (AF_trans a05 (AF_trans c3 (AF_eq (FM_a f8 (by decide))))) h8 hc0 (fun hz => hc (fJ_0 (by decide) (fJ_0 (by decide) (fJ_0 (by decide) hz)))) hy (fun hz t ht => ?_) q
          · have ct : t = 0 ∨ t = 1 ∨ t = 2 := by omega
            rcases ct with e | e | e
            · rw [e]; exact a1
            · rw [e]; exact b1
            · rw [e]; exact c1
          · have hz2 := fJ_0 (by decide) hz
            have hz1 := fJ_0 (by decide) hz2
            unfold ecl e8
            rw [g8, getD_set (by simp only [List.length_set]; omega), getD_set (by simp only [List.length_set]; omega), getD_set (by omega)]
            by_cases t2 : t = 2
            · rw [if_pos t2, if_pos (by omega), t2]; exact ns32_of (c6 hz)
            rw [if_neg t2]
            by_cases t1 : t = 1
            · rw [if_pos t1, if_pos (by omega), t1]; exact ns32_of (b6 hz2)
            rw [if_neg t1]
            by_cases t0 : t = 0
            · rw [if_pos t0, if_pos (by omega), t0]; exact ns32_of (a6 hz1)
            rw [if_neg t0, if_neg (by omega)]
            exact he t ht
        · obtain ⟨hI2, q⟩ := q _ c5 c2.2.2.2
          have q := q _ rfl
          have f8 : FM [] [151] w7 (aS w7 151 2 1) := FM_aS c2.2.2.2 (by decide)
          obtain ⟨k9, q⟩ := tail _ _ f8.2.2.2 q
          refine FIN_B (FI_lt v2 (by omega) (fun t ht => ?_) c1) (FM_trans f05 (FM_trans (FM_mono c2 (by decide) (by decide)) (FM_mono f8 (by decide) (by decide)))) (AF_trans a05 (AF_trans c3 (AF_eq (FM_a f8 (by decide))))) (BK_wr c4 (FM_mono f8 (by decide) (by decide))) hc0 q
          have ct : t = 0 ∨ t = 1 := by omega
          rcases ct with e | e
          · rw [e]; exact a1
          · rw [e]; exact b1
      · obtain ⟨hI1, q⟩ := q z1 b5 b2.2.2.2
        have q := q _ rfl
        obtain ⟨r7, w7, q7, q⟩ := q
        have f5 : FM [] [151] w4 (aS w4 151 1 z1) := FM_aS b2.2.2.2 (by decide)
        have hB5 := BK_wr b4 (FM_mono f5 (by decide) (by decide))
        obtain ⟨d1, d2⟩ := F210_w hB5.1 hB5.2.1 q7
        subst w7
        obtain ⟨hI2, q⟩ := q _ d1 f5.2.2.2
        have q := q _ rfl
        have f8 := FM_aS (fs := []) (as := [151]) (a := 151) (x := 2) (y := 1) f5.2.2.2 (by decide)
        obtain ⟨k9, q⟩ := tail _ _ f8.2.2.2 q
        exact FIN_B (FI_lt v2 (by omega) (fun t ht => by rw [show t = 0 by omega]; exact a1) b1) (FM_trans f02 (FM_trans (FM_mono b2 (by decide) (by decide)) (FM_trans (FM_mono f5 (by decide) (by decide)) (FM_mono f8 (by decide) (by decide))))) (AF_trans a02 (AF_trans b3 (AF_trans (AF_eq (FM_a f5 (by decide))) (AF_eq (FM_a f8 (by decide)))))) (BK_wr hB5 (FM_mono f8 (by decide) (by decide))) hc0 q
    · obtain ⟨hI0, q⟩ := q z0 a5 a2.2.2.2
      have q := q _ rfl
      have f2 : FM [] [151] w1 (aS w1 151 0 z0) := FM_aS a2.2.2.2 (by decide)
      have hB2 := BK_wr a4 (FM_mono f2 (by decide) (by decide))
      obtain ⟨_, r4, w4, q4, q⟩ := q
      obtain ⟨z1, b1, b2, b3, hB4⟩ := BK_per hB2 q4
      obtain ⟨hI1, q⟩ := q z1 b1 b2.2.2.2
      have q := q _ rfl
      obtain ⟨r7, w7, q7, q⟩ := q
      have f5 : FM [] [151] w4 (aS w4 151 1 z1) := FM_aS b2.2.2.2 (by decide)
      have hB5 := BK_wr hB4 (FM_mono f5 (by decide) (by decide))
      obtain ⟨d1, d2⟩ := F210_w hB5.1 hB5.2.1 q7
      subst w7
      obtain ⟨hI2, q⟩ := q _ d1 f5.2.2.2
      have q := q _ rfl
      have f8 := FM_aS (fs := []) (as := [151]) (a := 151) (x := 2) (y := 1) f5.2.2.2 (by decide)
      obtain ⟨k9, q⟩ := tail _ _ f8.2.2.2 q
      exact FIN_B (FI_lt v2 (by omega) (fun t ht => absurd ht (Nat.not_lt_zero t)) a1) (FM_trans fm (FM_trans (FM_mono a2 (by decide) (by decide)) (FM_trans (FM_mono f2 (by decide) (by decide)) (FM_trans (FM_mono b2 (by decide) (by decide)) (FM_trans (FM_mono f5 (by decide) (by decide)) (FM_mono f8 (by decide) (by decide))))))) (AF_trans af (AF_trans a3 (AF_trans (AF_eq (FM_a f2 (by decide))) (AF_trans b3 (AF_trans (AF_eq (FM_a f5 (by decide))) (AF_eq (FM_a f8 (by decide)))))))) (BK_wr hB5 (FM_mono f8 (by decide) (by decide))) hc0 q
end FY
end
section
/-! ===== the reference's ring ===== -/
section FZ2
variable {X : pm_X} {k : Nat} {w0 w wE w' : pm_W} {r : Option Value} {p p1 p2 p3 f0 p0 f q : Int32} {bs : Nat → Int32} {n i v j m : Nat}
theorem bit_t {S b : Nat} {x y : Int32} (hx : x.toInt = S) (hy : y.toInt = b) (hS : S < 512) (hb : b < 9) : ((x >>> (y &&& 31)) &&& 1) = 1 ↔ S.testBit b = true := by
  have ex := i32_of hx (by omega)
  have ey := i32_of hy (by omega)
  have h : (List.range 512).all (fun S => (List.range 9).all (fun b => decide (((Int32.ofNat S >>> (Int32.ofNat b &&& 31)) &&& 1) = 1) == S.testBit b)) = true := by decide +kernel
  have h1 := List.all_eq_true.mp h S (List.mem_range.mpr hS)
  have h2 := List.all_eq_true.mp h1 b (List.mem_range.mpr hb)
  have h3 := eq_of_beq h2
  rw [ex, ey, ← h3]
  exact decide_eq_true_iff.symm
theorem bit_o {S b : Nat} {x y : Int32} (hx : x.toInt = S) (hy : y.toInt = b) (hS : S < 512) (hb : b < 9) : (x ||| (1 <<< (y &&& 31))).toInt = (S ||| 2 ^ b : Nat) ∧ (S ||| 2 ^ b) < 512 := by
  have ex := i32_of hx (by omega)
  have ey := i32_of hy (by omega)
  have h : (List.range 512).all (fun S => (List.range 9).all (fun b => decide ((Int32.ofNat S ||| (1 <<< (Int32.ofNat b &&& 31))).toInt = ((S ||| 2 ^ b : Nat) : Int)) && decide ((S ||| 2 ^ b) < 512))) = true := by decide +kernel
  have h1 := List.all_eq_true.mp h S (List.mem_range.mpr hS)
  have h2 := List.all_eq_true.mp h1 b (List.mem_range.mpr hb)
  rw [Bool.and_eq_true, decide_eq_true_iff, decide_eq_true_iff] at h2
  rw [ex, ey]
  exact h2
theorem bit_r {S b c : Nat} : (S ||| 2 ^ b).testBit c = (S.testBit c || decide (b = c)) := by
  rw [Nat.testBit_or, Nat.testBit_two_pow]
/-- a fault besides, of two -/
def alF (f p kd q : Int32) : Int32 := if f ≠ 0 ∧ (p.toInt < q.toInt ∨ (p = q ∧ f.toInt ≤ kd.toInt)) then f else kd
def alP (f p kd q : Int32) : Int32 := if f ≠ 0 ∧ (p.toInt < q.toInt ∨ (p = q ∧ f.toInt ≤ kd.toInt)) then p else q
theorem al_0 {kd : Int32} : alF 0 p kd q = kd ∧ alP 0 p kd q = q := by
  unfold alF alP
  rw [if_neg (fun z => z.1 rfl), if_neg (fun z => z.1 rfl)]
  exact ⟨rfl, rfl⟩
theorem al_s {kd : Int32} (hf : f ≠ 0) (h : p.toInt < q.toInt ∨ (p = q ∧ f = 2)) (hk : 2 ≤ kd.toInt) : alF f p kd q = f ∧ alP f p kd q = p := by
  have c : f ≠ 0 ∧ (p.toInt < q.toInt ∨ (p = q ∧ f.toInt ≤ kd.toInt)) := by
    refine ⟨hf, ?_⟩
    rcases h with h | ⟨h, h2⟩
    · exact Or.inl h
    · exact Or.inr ⟨h, by rw [h2, two32]; exact hk⟩
  unfold alF alP
  rw [if_pos c, if_pos c]
  exact ⟨rfl, rfl⟩
theorem al_32 : alF 3 q 2 q = 2 ∧ alP 3 q 2 q = q := by
  have c : ¬ ((3 : Int32) ≠ 0 ∧ (q.toInt < q.toInt ∨ (q = q ∧ (3 : Int32).toInt ≤ (2 : Int32).toInt))) := by
    rintro ⟨_, z | ⟨_, z⟩⟩
    · omega
    · rw [three32, two32] at z; omega
  unfold alF alP
  rw [if_neg c, if_neg c]
  exact ⟨rfl, rfl⟩
/-- what F211 does, said by these -/
theorem F211_al (h : R0 w bs n i) (z : PS X k 211 0 [.ref 147, .int p1, .int p2] [] w r w') : r = none ∧ FM [] [148] w w' ∧ AF w w' ∧ R0 w' bs n i ∧ qF w' = alF (qF w) (qP w) p1 p2 ∧ qP w' = alP (qF w) (qP w) p1 p2 := by
  obtain ⟨s1, s2, s3, s4, s5, s6, s10⟩ := h
  obtain ⟨z1, z2, z3, _, z5⟩ := F211 s1 z
  obtain ⟨g1, g2⟩ := z5 s2
  refine ⟨z1, z2, z3, ⟨z2.2.2.2, by rw [FM_i z2 (by decide)]; exact s2, RTk_FM s3 z2 (by decide) (by decide) (by decide) (by decide) (by decide), (AF_rb z3).trans s4, (rn_FM z2 (by decide)).trans s5, ?_, s10⟩, ?_, ?_⟩
  · unfold RB
    rw [FM_i z2 (by decide), rn_FM z2 (by decide), AF_rb z3]
    exact s6
  · unfold alF
    by_cases c : qF w ≠ 0 ∧ ((qP w).toInt < p2.toInt ∨ (qP w = p2 ∧ (qF w).toInt ≤ p1.toInt))
    · rw [if_pos c, g1 c]
    · rw [if_neg c]; exact (g2 c).1
  · unfold alP
    by_cases c : qF w ≠ 0 ∧ ((qP w).toInt < p2.toInt ∨ (qP w = p2 ∧ (qF w).toInt ≤ p1.toInt))
    · rw [if_pos c, g1 c]
    · rw [if_neg c]; exact (g2 c).2
/-- numbered, whatever fault there is -/
theorem F210_0 {lo hi : Int32} (h : R0 w bs n i) (hk : tkK bs n i = 2) (z : PS X k 210 0 [.ref 147, .int lo, .int hi, pm_dead] [] w r w') : FM [(147, 3), (147, 4), (147, 5), (147, 6), (147, 7)] [148] w w' ∧ AF w w' ∧ R0 w' bs n (tkN bs n i) ∧ ∃ x : Int32, r = some (.int x) ∧ ((lo.toInt ≤ tkV bs n i ∧ tkV bs n i ≤ hi.toInt) → x.toInt = tkV bs n i ∧ qF w' = qF w ∧ qP w' = qP w) ∧ (¬ (lo.toInt ≤ tkV bs n i ∧ tkV bs n i ≤ hi.toInt) → x = lo ∧ qF w' = alF (qF w) (qP w) 2 (pl bs n i) ∧ qP w' = alP (qF w) (qP w) 2 (pl bs n i)) := by
  cases k with
  | zero => exact (PS_0 z).elim
  | succ k =>
    have hh := h
    obtain ⟨hS, h8, hT, hb, hn, hR, hi2⟩ := h
    have z := U210_0 hS z
    rw [if_pos h8] at z
    have c : gI w 147 5 = 1 := by rw [hT.1, rTk_1]; exact hk
    rw [if_pos c] at z
    have hx := hT.2.2.2.1 hk
    have epl := R0_pl hh
    have z := use_p hS z (fun _ _ y => F199 hS y)
    have ein : isI (gI w 147 6) lo hi = true ↔ (lo.toInt ≤ tkV bs n i ∧ tkV bs n i ≤ hi.toInt) := by
      unfold isI
      rw [Bool.and_eq_true, decide_eq_true_iff, decide_eq_true_iff, hx]
    by_cases ci : b2i (isI (gI w 147 6) lo hi) = 0
    · rw [if_pos ci] at z
      rw [b2i_0] at ci
      obtain ⟨r1, w1, q1, q2⟩ := z
      rw [epl] at q1
      obtain ⟨e1, f1, a1, h1, g1, g2⟩ := F211_al hh q1
      obtain ⟨r3, w3, q3, q4⟩ := q2 e1 f1.2.2.2
      obtain ⟨z1, z2, z3⟩ := R0_next h1 (by rw [hk]; decide) q3
      have z := q4 z1 z2.2.2.2
      have z := use_p z2.2.2.2 z (fun _ _ y => F199 z2.2.2.2 y)
      rw [ci, if_pos (by decide +kernel)] at z
      rw [z.2]
      have g : gA w3 148 = gA w1 148 := FM_a z2 (by decide)
      refine ⟨FM_trans (FM_mono f1 (by decide) (by decide)) (FM_mono z2 (by decide) (by decide)), AF_trans a1 (AF_eq g), z3, lo, z.1, fun y => ?_, fun _ => ⟨rfl, ?_, ?_⟩⟩
      · rw [ein.mpr y] at ci
        exact Bool.noConfusion ci
      · rw [← g1]; unfold qF; rw [g]
      · rw [← g2]; unfold qP; rw [g]
    · rw [if_neg ci] at z
      rw [b2i_0, Bool.not_eq_false] at ci
      obtain ⟨r3, w3, q3, q4⟩ := z
      obtain ⟨z1, z2, z3⟩ := R0_next hh (by rw [hk]; decide) q3
      have z := q4 z1 z2.2.2.2
      have z := use_p z2.2.2.2 z (fun _ _ y => F199 z2.2.2.2 y)
      rw [ci, if_neg (by decide +kernel)] at z
      rw [z.2]
      have g : gA w3 148 = gA w 148 := FM_a z2 (by decide)
      refine ⟨FM_mono z2 (by decide) (by decide), AF_eq g, z3, _, z.1, fun _ => ⟨hx, ?_, ?_⟩, fun y => absurd (ein.mp ci) y⟩
      · unfold qF; rw [g]
      · unfold qP; rw [g]
end FZ2
end
section
section GA2
variable {X : pm_X} {k : Nat} {w0 w wE w' : pm_W} {r : Option Value} {p p1 p2 p3 f0 p0 f q : Int32} {bs : Nat → Int32} {n i v j m : Nat}
/-- behind j people of a ring: S the set of them -/
def RGI (w : pm_W) (bs : Nat → Int32) (n i : Nat) (f0 p0 : Int32) (j S : Nat) : Prop := RJ w bs n i 2 f0 p0 (2 + j) ∧ (∀ t, t < 8 → 2 + j ≤ t → ecl w t = -1) ∧ S < 512 ∧ ((fJ bs n i 2 f0 p0 (2 + j)).1 = 0 → j ≤ 6 ∧ (∀ t, t < 2 + j → ecl w t = ns32 bs n i t) ∧ (∀ t, 2 ≤ t → t < 2 + j → 0 ≤ nv bs n i t ∧ nv bs n i t ≤ 8) ∧ (∀ b, b < 9 → (S.testBit b = true ↔ ∃ t, 2 ≤ t ∧ t < 2 + j ∧ nv bs n i t = b)))
/-- the fault behind one person more -/
theorem RG_f {F P : Int32} {tw ou : Bool} {l : Nat} (hF : F ≠ 0 → P.toInt < q.toInt ∨ (P = q ∧ F = 2)) (hb : F = 0 → bJ bs n i 2 l = (tw || ou)) (ho : tw = true → ou = false) : (cond ou (alF (cond tw (alF (cond (decide (8 ≤ l)) (alF F P 3 q) F) (cond (decide (8 ≤ l)) (alP F P 3 q) P) 2 q) (cond (decide (8 ≤ l)) (alF F P 3 q) F)) (cond tw (alP (cond (decide (8 ≤ l)) (alF F P 3 q) F) (cond (decide (8 ≤ l)) (alP F P 3 q) P) 2 q) (cond (decide (8 ≤ l)) (alP F P 3 q) P)) 2 q) (cond tw (alF (cond (decide (8 ≤ l)) (alF F P 3 q) F) (cond (decide (8 ≤ l)) (alP F P 3 q) P) 2 q) (cond (decide (8 ≤ l)) (alF F P 3 q) F)) = ntF (decide (8 ≤ l)) 3 (ntF (bJ bs n i 2 l) 2 F)) ∧ (cond ou (alP (cond tw (alF (cond (decide (8 ≤ l)) (alF F P 3 q) F) (cond (decide (8 ≤ l)) (alP F P 3 q) P) 2 q) (cond (decide (8 ≤ l)) (alF F P 3 q) F)) (cond tw (alP (cond (decide (8 ≤ l)) (alF F P 3 q) F) (cond (decide (8 ≤ l)) (alP F P 3 q) P) 2 q) (cond (decide (8 ≤ l)) (alP F P 3 q) P)) 2 q) (cond tw (alP (cond (decide (8 ≤ l)) (alF F P 3 q) F) (cond (decide (8 ≤ l)) (alP F P 3 q) P) 2 q) (cond (decide (8 ≤ l)) (alP F P 3 q) P)) = ntP (decide (8 ≤ l)) q (ntF (bJ bs n i 2 l) 2 F) (ntP (bJ bs n i 2 l) q F P)) := by
  by_cases c : F = 0
  · subst c
    rw [hb rfl]
    have z3 : (3 : Int32) ≠ 0 := by decide +kernel
    have z2 : (2 : Int32) ≠ 0 := by decide +kernel
    have n0 : ∀ kd : Int32, ntF true kd 0 = kd := fun kd => by rw [ntF_t, if_pos rfl]
    have m0 : ∀ y : Int32, ntP true q 0 y = q := fun y => by rw [ntP_t, if_pos rfl]
    have n2 : ∀ b : Bool, ntF b 3 2 = 2 := fun b => by rw [ntF_any (b' := false) (kd' := 3) z2]; rfl
    have m2 : ∀ b : Bool, ∀ y : Int32, ntP b q 2 y = y := fun b y => by rw [ntP_any (b' := false) (q' := q) z2]; rfl
    cases hl : decide (8 ≤ l) <;> cases tw <;> cases ou <;> simp only [cond_true, cond_false, al_0, al_32, Bool.or_true, Bool.or_false, Bool.true_or, n0, m0, n2, m2] <;> first | exact ⟨rfl, rfl⟩ | exact (Bool.noConfusion (ho rfl)) | exact ⟨trivial, trivial⟩
  · have s3 := al_s (kd := 3) c (hF c) (by rw [three32]; decide)
    have s2 := al_s (kd := 2) c (hF c) (by rw [two32]; decide)
    have e1 : ∀ b b' : Bool, ntF b 3 (ntF b' 2 F) = F := fun b b' => by
      rw [ntF_any (b' := false) (kd' := 2) (b := b') c]
      rw [show ntF false 2 F = F from rfl, ntF_any (b' := false) (kd' := 3) c]
      rfl
    have e2 : ∀ b b' : Bool, ntP b q (ntF b' 2 F) (ntP b' q F P) = P := fun b b' => by
      rw [ntF_any (b' := false) (kd' := 2) (b := b') c, ntP_any (b' := false) (q' := q) (b := b') c]
      rw [show ntF false 2 F = F from rfl, show ntP false q F P = P from rfl, ntP_any (b' := false) (q' := q) c]
      rfl
    rw [e1, e2]
    cases decide (8 ≤ l) <;> cases tw <;> cases ou <;> simp only [cond_true, cond_false, s3, s2, s3.1, s3.2, s2.1, s2.2, and_self]
end GA2
end
section
section GB
variable {X : pm_X} {k : Nat} {w0 w wE w' : pm_W} {r : Option Value} {p p1 p2 p3 f0 p0 f q : Int32} {bs : Nat → Int32} {n i v j m : Nat}
/-- the numbers of a ring's people may be 0 to 8 -/
theorem ring_lw {l : Nat} (h : 2 ≤ l) : lwL 2 l = 0 ∧ lwH 2 l = 8 := by
  unfold lwL lwH
  by_cases c : l = 2
  · subst c; decide +kernel
  · rw [show min l 3 = 3 by omega]; decide +kernel
/-- one person more -/
theorem RG_step {S : Nat} {i1 i2 : Int32} {u3 u4 : Value} (h1 : i1.toInt = j) (h2 : i2.toInt = S) (hg : RGI w bs n i f0 p0 j S) (hk : tkK bs n (tP bs n i (2 + j + 1)) = 2) (z : PS X k 216 50 [.ref 147, .int i1, .int i2, u3, u4] [] w r w') : ∃ (w9 : pm_W) (k9 S' : Nat) (y2 z3 z4 : Int32), FM rl7 [148, 151] w w9 ∧ AF w w9 ∧ RGI w9 bs n i f0 p0 (j + 1) S' ∧ y2.toInt = S' ∧ PS X k9 216 30 [.ref 147, .int (i1 + 1), .int y2, .int z3, .int z4] [] w9 r w' := by
  obtain ⟨hJ, h8, hS5, hinv⟩ := hg
  have hS : SK w := hJ.1
  have hR0 : R0 w bs n (tP bs n i (2 + j + 1)) := RS_R0 hJ
  have n6 := RS_n6 hJ
  have e6 : (6 : Int32).toInt = 6 := six32
  obtain ⟨I, hI⟩ : ∃ I, I = tP bs n i (2 + j + 1) := ⟨_, rfl⟩
  obtain ⟨F, hF⟩ : ∃ F, F = (fJ bs n i 2 f0 p0 (2 + j)).1 := ⟨_, rfl⟩
  obtain ⟨P, hP⟩ : ∃ P, P = (fJ bs n i 2 f0 p0 (2 + j)).2 := ⟨_, rfl⟩
  have hqF : qF w = F := by rw [hF]; exact hJ.2.2.2.2.2.2.1
  have hqP : qP w = P := by rw [hP]; exact hJ.2.2.2.2.2.2.2.1
  have hFP : F ≠ 0 → P.toInt < tkS bs n I ∨ (P = pl bs n I ∧ F = 2) := by rw [hF, hP, hI]; exact hJ.2.2.2.2.2.2.2.2.1
  have hin : I ≤ n := by rw [hI]; exact hJ.2.2.2.2.2.2.2.2.2
  rw [← hI] at hk hR0
  have epl := R0_pl hR0
  have eq5 : gI w 147 5 = 1 := by rw [hR0.2.2.1.1, rTk_1]; exact hk
  have nvI : nv bs n i (2 + j) = tkV bs n I := by rw [hI]; rfl
  cases k with
  | zero => exact (PS_0 z).elim
  | succ k =>
    have z := U216_50 hS z
    -- label 73
    have s73 : ∃ (w1 : pm_W) (k1 : Nat), FM [] [148] w w1 ∧ AF w w1 ∧ R0 w1 bs n I ∧ qF w1 = cond (decide (8 ≤ 2 + j)) (alF F P 3 (pl bs n I)) F ∧ qP w1 = cond (decide (8 ≤ 2 + j)) (alP F P 3 (pl bs n I)) P ∧ PS X k1 216 73 [.ref 147, .int i1, .int i2, u3, u4] [] w1 r w' := by
      by_cases c : i1 < 6
      · rw [if_pos c] at z
        rw [Int32.lt_iff_toInt_lt, e6, h1] at c
        rw [decide_eq_false (by omega)]
        exact ⟨w, _, FM_refl hS, AF_refl, hR0, hqF, hqP, z⟩
      · rw [if_neg c, if_pos eq5, epl] at z
        rw [Int32.lt_iff_toInt_lt, e6, h1] at c
        obtain ⟨r1, w1, q1, q2⟩ := z
        obtain ⟨a1, a2, a3, a4, a5, a6⟩ := F211_al hR0 q1
        rw [hqF, hqP] at a5 a6
        rw [decide_eq_true (by omega)]
        exact ⟨w1, _, a2, a3, a4, a5, a6, q2 a1 a2.2.2.2⟩
    obtain ⟨w1, k1, f1, a1, hR1, qF1, qP1, z⟩ := s73
    have eq1 : gI w1 147 5 = 1 := by rw [FM_i f1 (by decide)]; exact eq5
    have en1 : (gI w1 147 6).toInt = tkV bs n I := hR1.2.2.1.2.2.2.1 hk
    have ep1 := R0_pl hR1
    cases k1 with
    | zero => exact (PS_0 z).elim
    | succ k1 =>
      have z := U216_73 f1.2.2.2 z
      rw [if_pos eq1] at z
      have z := use_p f1.2.2.2 z (fun _ _ y => F199 f1.2.2.2 y)
      have ein : isI (gI w1 147 6) 0 8 = true ↔ (0 ≤ tkV bs n I ∧ tkV bs n I ≤ 8) := by
        unfold isI
        rw [Bool.and_eq_true, decide_eq_true_iff, decide_eq_true_iff, en1, z32, eight32]
      -- label 125: tw whether he is there
      have s125 : ∃ (tw : Bool) (w2 : pm_W) (k2 : Nat) (z3 : Int32), (tw = true ↔ ((0 ≤ tkV bs n I ∧ tkV bs n I ≤ 8) ∧ S.testBit (tkV bs n I).toNat = true)) ∧ FM [] [148] w1 w2 ∧ AF w1 w2 ∧ R0 w2 bs n I ∧ qF w2 = cond tw (alF (qF w1) (qP w1) 2 (pl bs n I)) (qF w1) ∧ qP w2 = cond tw (alP (qF w1) (qP w1) 2 (pl bs n I)) (qP w1) ∧ PS X k2 216 125 [.ref 147, .int i1, .int i2, .int z3, u4] [] w2 r w' := by
        have s110 : ∀ k3 : Nat, PS X k3 216 110 [.ref 147, .int i1, .int i2, u3, u4] [] w1 r w' → ∃ k2, PS X k2 216 125 [.ref 147, .int i1, .int i2, .int 0, u4] [] w1 r w' := by
          intro k3 y
          cases k3 with
          | zero => exact (PS_0 y).elim
          | succ k3 => exact ⟨_, U216_110 f1.2.2.2 y⟩
        by_cases ci : b2i (isI (gI w1 147 6) 0 8) = 0
        · rw [if_pos ci] at z
          rw [b2i_0] at ci
          obtain ⟨k2, y⟩ := s110 _ z
          refine ⟨false, w1, k2, 0, ⟨fun y => Bool.noConfusion y, fun y => ?_⟩, FM_refl f1.2.2.2, AF_refl, hR1, rfl, rfl, y⟩
          rw [ein.mpr y.1] at ci
          exact Bool.noConfusion ci
        · rw [if_neg ci] at z
          rw [b2i_0, Bool.not_eq_false, ein] at ci
          have hb := bit_t (S := S) (b := (tkV bs n I).toNat) h2 (y := gI w1 147 6) (by rw [en1]; omega) hS5 (by omega)
          by_cases cb : ((i2 >>> (gI w1 147 6 &&& 31)) &&& 1) = 1
          · rw [if_pos cb, ep1] at z
            obtain ⟨r4, w2, q1, q2⟩ := z
            obtain ⟨b1, b2, b3, b4, b5, b6⟩ := F211_al hR1 q1
            exact ⟨true, w2, _, 1, ⟨fun _ => ⟨ci, hb.mp cb⟩, fun _ => rfl⟩, b2, b3, b4, b5, b6, q2 b1 b2.2.2.2⟩
          · rw [if_neg cb] at z
            obtain ⟨k2, y⟩ := s110 _ z
            exact ⟨false, w1, k2, 0, ⟨fun y => Bool.noConfusion y, fun y => absurd (hb.mpr y.2) cb⟩, FM_refl f1.2.2.2, AF_refl, hR1, rfl, rfl, y⟩
      obtain ⟨tw, w2, k2, z3, htw, f2, a2, hR2, qF2, qP2, z⟩ := s125
      cases k2 with
      | zero => exact (PS_0 z).elim
      | succ k2 =>
        obtain ⟨r5, w3, q1, q2⟩ := U216_125 f2.2.2.2 z
        obtain ⟨f3, a3, hR3, x, ex, xin, xout⟩ := F210_0 hR2 hk q1
        rw [z32, eight32] at xin xout
        have z := q2 x ex f3.2.2.2
        obtain ⟨ou, hou⟩ : ∃ ou, ou = !(decide (0 ≤ tkV bs n I ∧ tkV bs n I ≤ 8)) := ⟨_, rfl⟩
        have qF3 : qF w3 = cond ou (alF (qF w2) (qP w2) 2 (pl bs n I)) (qF w2) ∧ qP w3 = cond ou (alP (qF w2) (qP w2) 2 (pl bs n I)) (qP w2) := by
          by_cases c : 0 ≤ tkV bs n I ∧ tkV bs n I ≤ 8
          · rw [hou, decide_eq_true c]
            exact (xin c).2
          · rw [hou, decide_eq_false c]
            exact (xout c).2
        have xb : 0 ≤ x.toInt ∧ x.toInt ≤ 8 := by
          by_cases c : 0 ≤ tkV bs n I ∧ tkV bs n I ≤ 8
          · rw [(xin c).1]; exact c
          · rw [(xout c).1, z32]; decide
        obtain ⟨xn, hxn⟩ : ∃ xn : Nat, xn = x.toInt.toNat := ⟨_, rfl⟩
        have hxn' : x.toInt = xn := by omega
        obtain ⟨so1, so2⟩ := bit_o h2 hxn' hS5 (by omega)
        rw [qF2, qP2, qF1, qP1] at qF3
        have ql : (pl bs n I).toInt = tkS bs n I := pl_i n6 hin
        have hbj : F = 0 → bJ bs n i 2 (2 + j) = (tw || ou) := by
          intro hz
          obtain ⟨j6, _, iv3, iv4⟩ := hinv (by rw [← hF]; exact hz)
          refine bool_iff (bJ_iff.trans ?_)
          obtain ⟨w1', w2'⟩ := ring_lw (l := 2 + j) (by omega)
          unfold badI
          rw [w1', w2', nvI, hou]
          constructor
          · rintro (y | y | ⟨y, _⟩ | ⟨_, t, y1, y2, y3, y4⟩)
            · rw [decide_eq_false (show ¬ (0 ≤ tkV bs n I ∧ tkV bs n I ≤ 8) by omega)]
              exact Bool.or_true _
            · rw [decide_eq_false (show ¬ (0 ≤ tkV bs n I ∧ tkV bs n I ≤ 8) by omega)]
              exact Bool.or_true _
            · omega
            · have iv := iv3 t y1 y2
              rw [htw.mpr ⟨by rw [y4]; exact iv, (iv4 _ (by rw [y4]; omega)).mpr ⟨t, y1, y2, by rw [y4]; omega⟩⟩]
              exact Bool.true_or _
          · intro y
            rw [Bool.or_eq_true] at y
            rcases y with y | y
            · obtain ⟨y1, y2⟩ := htw.mp y
              obtain ⟨t, b1, b2, b3⟩ := (iv4 _ (by omega)).mp y2
              exact Or.inr (Or.inr (Or.inr ⟨rfl, t, b1, b2, by omega, by rw [b3]; omega⟩))
            · rw [Bool.not_eq_true', decide_eq_false_iff_not] at y
              by_cases c : tkV bs n I < 0
              · exact Or.inl c
              · exact Or.inr (Or.inl (by omega))
        have hto : tw = true → ou = false := by
          intro y
          rw [hou, decide_eq_true (htw.mp y).1]
          rfl
        obtain ⟨rf, rp⟩ := RG_f (q := pl bs n I) (F := F) (P := P) (l := 2 + j) (fun hz => by rw [ql]; exact hFP hz) hbj hto
        rw [rf, rp] at qF3
        have fs : fJ bs n i 2 f0 p0 (2 + (j + 1)) = (ntF (decide (8 ≤ 2 + j)) 3 (ntF (bJ bs n i 2 (2 + j)) 2 F), ntP (decide (8 ≤ 2 + j)) (pl bs n I) (ntF (bJ bs n i 2 (2 + j)) 2 F) (ntP (bJ bs n i 2 (2 + j)) (pl bs n I) F P)) := by
          rw [hF, hP, hI]
          rfl
        have fm3 : FM rl7 [148, 151] w w3 := FM_trans (FM_mono f1 (by decide) (by decide)) (FM_trans (FM_mono f2 (by decide) (by decide)) (FM_mono f3 (by decide) (by decide)))
        have af3 : AF w w3 := AF_trans a1 (AF_trans a2 a3)
        have g3 : gA w3 151 = gA w 151 := by rw [FM_a f3 (by decide), FM_a f2 (by decide), FM_a f1 (by decide)]
        have l8 := len151 hS
        -- the end, from a state w4 at label 157
        have fin : ∀ (w4 : pm_W) (k4 : Nat), FM [] [151] w3 w4 → (∀ t, t < 8 → ecl w4 t = if t = 2 + j then x else ecl w t) → PS X k4 216 157 [.ref 147, .int i1, .int (i2 ||| (1 <<< (x &&& 31))), .int z3, .int x] [] w4 r w' → ∃ (w9 : pm_W) (k9 S' : Nat) (y2 z3 z4 : Int32), FM rl7 [148, 151] w w9 ∧ AF w w9 ∧ RGI w9 bs n i f0 p0 (j + 1) S' ∧ y2.toInt = S' ∧ PS X k9 216 30 [.ref 147, .int (i1 + 1), .int y2, .int z3, .int z4] [] w9 r w' := by
          intro w4 k4 f4 e4 y
          cases k4 with
          | zero => exact (PS_0 y).elim
          | succ k4 =>
            have y := U216_157 f4.2.2.2 y
            refine ⟨w4, k4, S ||| 2 ^ xn, _, _, _, FM_trans fm3 (FM_mono f4 (by decide) (by decide)), AF_trans af3 (AF_eq (FM_a f4 (by decide))), ⟨?_, fun t ht h2t => ?_, so2, fun hz => ?_⟩, so1, y⟩
            · show RS w4 bs n (tP bs n i (2 + (j + 1) + 1)) (fJ bs n i 2 f0 p0 (2 + (j + 1))).1 (fJ bs n i 2 f0 p0 (2 + (j + 1))).2
              rw [fs]
              have et : tP bs n i (2 + (j + 1) + 1) = tkN bs n I := by rw [hI]; rfl
              rw [et]
              refine RS_wr (R0_RS hR3 qF3.1 qF3.2 (fun hz => Or.inl ?_)) (FM_mono f4 (by decide) (by decide))
              have b := tkN_b (bs := bs) (n := n) (i := I) (by rw [hk]; decide)
              have s := tkS_b (bs := bs) (n := n) (i := tkN bs n I)
              have lt := ntP_lt (b := decide (8 ≤ 2 + j)) (f := ntF (bJ bs n i 2 (2 + j)) 2 F) (p := ntP (bJ bs n i 2 (2 + j)) (pl bs n I) F P) (q := pl bs n I) (m := tkS bs n I) (m' := tkS bs n I + 1) ql (by omega) (fun hz2 => ntP_lt (b := bJ bs n i 2 (2 + j)) (f := F) (p := P) (q := pl bs n I) (m := tkS bs n I) (m' := tkS bs n I + 1) ql (by omega) (fun hz3 => by
                rcases hFP hz3 with c | ⟨c, _⟩
                · omega
                · rw [c, ql]; omega) hz2) hz
              show (ntP (decide (8 ≤ 2 + j)) (pl bs n I) (ntF (bJ bs n i 2 (2 + j)) 2 F) (ntP (bJ bs n i 2 (2 + j)) (pl bs n I) F P)).toInt < (tkS bs n (tkN bs n I) : Nat)
              omega
            · rw [e4 t ht, if_neg (by omega)]
              exact h8 t ht (by omega)
            · rw [fs] at hz
              have hz : ntF (decide (8 ≤ 2 + j)) 3 (ntF (bJ bs n i 2 (2 + j)) 2 F) = 0 := hz
              have hF0 : F = 0 := by
                by_cases c : F = 0
                · exact c
                · rw [ntF_any (b := bJ bs n i 2 (2 + j)) (b' := false) (kd' := 2) c, show ntF false 2 F = F from rfl, ntF_any (b' := false) (kd' := 3) c] at hz
                  exact hz
              have hbF : bJ bs n i 2 (2 + j) = false := by
                cases c : bJ bs n i 2 (2 + j) with
                | false => rfl
                | true =>
                  rw [c, ntF_t, if_pos hF0, ntF_any (b' := false) (kd' := 3) (by decide +kernel)] at hz
                  exact absurd hz (by decide +kernel)
              have hj6 : j < 6 := by
                by_cases c : 8 ≤ 2 + j
                · rw [hbF, show ntF false 2 F = F from rfl, decide_eq_true c, ntF_t, if_pos hF0] at hz
                  exact absurd hz (by decide +kernel)
                · omega
              obtain ⟨_, iv2, iv3, iv4⟩ := hinv (by rw [← hF]; exact hF0)
              have hor := hbj hF0
              rw [hbF] at hor
              have hof : ou = false := by cases tw <;> cases ou <;> first | rfl | cases hor
              have cin : 0 ≤ tkV bs n I ∧ tkV bs n I ≤ 8 := by
                rw [hou, Bool.not_eq_false', decide_eq_true_iff] at hof
                exact hof
              have xv := (xin cin).1
              refine ⟨by omega, fun t ht => ?_, fun t t1 t2 => ?_, fun b hb => ?_⟩
              · rw [e4 t (by omega)]
                by_cases c : t = 2 + j
                · rw [if_pos c, c]
                  exact ns32_of (by rw [xv, nvI])
                · rw [if_neg c]
                  exact iv2 t (by omega)
              · by_cases c : t = 2 + j
                · rw [c, nvI]; exact cin
                · exact iv3 t t1 (by omega)
              · rw [bit_r, Bool.or_eq_true, decide_eq_true_iff, iv4 b hb]
                constructor
                · rintro (⟨t, t1, t2, t3⟩ | c)
                  · exact ⟨t, t1, by omega, t3⟩
                  · exact ⟨2 + j, by omega, by omega, by rw [nvI, ← xv]; omega⟩
                · rintro ⟨t, t1, t2, t3⟩
                  by_cases c : t = 2 + j
                  · right
                    rw [c, nvI, ← xv] at t3
                    omega
                  · exact Or.inl ⟨t, t1, by omega, t3⟩
        by_cases c6 : 6 ≤ i1
        · rw [if_pos c6] at z
          rw [Int32.le_iff_toInt_le, e6, h1] at c6
          exact fin w3 _ (FM_refl f3.2.2.2) (fun t ht => by unfold ecl; rw [g3, if_neg (by omega)]) z
        · rw [if_neg c6] at z
          rw [Int32.le_iff_toInt_le, e6, h1] at c6
          obtain ⟨hI2, z⟩ := z
          have z := z _ rfl
          have ei : (2 + i1).toInt = (2 + j : Nat) := by
            rw [zi_add two32 h1 (by omega) (by omega)]
            omega
          refine fin _ _ (FM_aS f3.2.2.2 (by decide)) (fun t ht => ?_) z
          unfold ecl
          rw [gA_aS (aI_isA hI2), i_nat ei, g3, getD_set (by omega)]
end GB
end
section
section GC
variable {X : pm_X} {k : Nat} {w0 w wE w' : pm_W} {r : Option Value} {p p1 p2 p3 f0 p0 f q : Int32} {bs : Nat → Int32} {n i v j m : Nat}
theorem F163 {x y : Int32} {u3 u4 : Value} (hS : SK w) (z : PS X k 216 163 [.ref 147, .int x, .int y, u3, u4] [] w r w') : r = none ∧ w' = w := by
  cases k with
  | zero => exact (PS_0 z).elim
  | succ k => exact U216_163 hS z
/-- one token on, then j -/
theorem tP_sh : ∀ j : Nat, tP bs n i (j + 1) = tP bs n (tP bs n i 1) j
  | 0 => rfl
  | j + 1 => by
    show tkN bs n (tP bs n i (j + 1)) = tkN bs n (tP bs n (tP bs n i 1) j)
    rw [tP_sh j]
/-- the loop over a ring's people -/
theorem RG30 : ∀ (N k : Nat) (w : pm_W) (j S : Nat) (i1 i2 : Int32) (u3 u4 : Value), n - tP bs n i (2 + j + 1) < N → i1.toInt = j → i2.toInt = S → RGI w bs n i f0 p0 j S → (∀ t, t < 2 + j → tkK bs n (tP bs n i (t + 1)) = 2) → PS X k 216 30 [.ref 147, .int i1, .int i2, u3, u4] [] w r w' → r = none ∧ FM rl7 [148, 151] w w' ∧ AF w w' ∧ ∃ m, 2 ≤ m ∧ (∀ t, t < m → tkK bs n (tP bs n i (t + 1)) = 2) ∧ tkK bs n (tP bs n i (m + 1)) ≠ 2 ∧ ((4 ≤ m ∧ ∃ S', RGI w' bs n i f0 p0 (m - 2) S') ∨ (m < 4 ∧ BK w' bs n (tP bs n i (m + 1)))) := by
  intro N
  induction N with
  | zero => intro k w j S i1 i2 u3 u4 hN; exact absurd hN (Nat.not_lt_zero _)
  | succ N ih =>
    intro k w j S i1 i2 u3 u4 hN h1 h2 hg hK z
    have hS : SK w := hg.1.1
    obtain ⟨k, rfl⟩ : ∃ k', k = k' + 1 := by
      cases k with
      | zero => exact (PS_0 z).elim
      | succ k => exact ⟨k, rfl⟩
    have hJ := hg.1
    have z := U216_30 hS z
    rw [if_pos hJ.2.1] at z
    by_cases hk : tkK bs n (tP bs n i (2 + j + 1)) = 2
    · have eq5 : gI w 147 5 = 1 := by rw [hJ.2.2.1.1, rTk_1]; exact hk
      have z50 : PS X k 216 50 [.ref 147, .int i1, .int i2, u3, u4] [] w r w' := by
        by_cases c : i1 < 2
        · rw [if_pos c] at z; exact z
        · rw [if_neg c, if_pos eq5] at z; exact z
      obtain ⟨w9, k9, S', y2, z3, z4, a1, a2, a3, a4, a5⟩ := RG_step h1 h2 hg hk z50
      have b := tkN_b (bs := bs) (n := n) (i := tP bs n i (2 + j + 1)) (by rw [hk]; decide)
      have s := tkS_b (bs := bs) (n := n) (i := tP bs n i (2 + j + 1))
      have et : tP bs n i (2 + (j + 1) + 1) = tkN bs n (tP bs n i (2 + j + 1)) := rfl
      have n6 := RS_n6 hJ
      have jb : j < 2147483647 := by
        have := tP_grow (bs := bs) (n := n) (i := tP bs n i 1) (2 + j) (fun t ht => by
          rw [← tP_sh, hK t ht]; decide)
        have g2 := hJ.2.2.2.2.2.2.2.2.2
        rw [← tP_sh] at this
        omega
      obtain ⟨c1, c2, c3, m, c4, c5, c6, c7⟩ := ih k9 w9 (j + 1) S' (i1 + 1) y2 _ _ (by rw [et]; omega) (by rw [zi_inc (n := 2147483647) (by omega) (by omega), h1]; rfl) a4 a3 (fun t ht => by
        by_cases c : t = 2 + j
        · rw [c]; exact hk
        · exact hK t (by omega)) a5
      exact ⟨c1, FM_trans a1 c2, AF_trans a2 c3, m, c4, c5, c6, c7⟩
    · have ne5 : gI w 147 5 ≠ 1 := by rw [hJ.2.2.1.1]; exact fun y => hk (rTk_1.mp y)
      by_cases c : i1 < 2
      · rw [if_pos c] at z
        rw [Int32.lt_iff_toInt_lt, two32, h1] at c
        have e6 : (6 : Int32).toInt = 6 := six32
        cases k with
        | zero => exact (PS_0 z).elim
        | succ k =>
          have z := U216_50 hS z
          rw [if_pos (by rw [Int32.lt_iff_toInt_lt, e6]; omega)] at z
          cases k with
          | zero => exact (PS_0 z).elim
          | succ k =>
            have z := U216_73 hS z
            rw [if_neg ne5] at z
            cases k with
            | zero => exact (PS_0 z).elim
            | succ k =>
              have z := U216_110 hS z
              cases k with
              | zero => exact (PS_0 z).elim
              | succ k =>
                obtain ⟨r1, w1, q1, z⟩ := U216_125 hS z
                rcases F210 hJ q1 with ⟨y1, _⟩ | ⟨_, b2, b3, b4, b5⟩
                · exact absurd y1 hk
                · have z := z _ b5 b2.2.2.2
                  rw [if_neg (by rw [Int32.le_iff_toInt_le, e6]; omega)] at z
                  obtain ⟨_, z⟩ := z
                  have z := z _ rfl
                  have f2 : FM [] [151] w1 (aS w1 151 (2 + i1) 0) := FM_aS b2.2.2.2 (by decide)
                  have hB := BK_wr b4 (FM_mono f2 (by decide) (by decide))
                  cases k with
                  | zero => exact (PS_0 z).elim
                  | succ k =>
                    have z := U216_157 f2.2.2.2 z
                    cases k with
                    | zero => exact (PS_0 z).elim
                    | succ k =>
                      have z := U216_30 f2.2.2.2 z
                      rw [if_neg hB.2.1] at z
                      obtain ⟨z1, z2⟩ := F163 f2.2.2.2 z
                      rw [z2]
                      exact ⟨z1, FM_trans (FM_mono b2 (by decide) (by decide)) (FM_mono f2 (by decide) (by decide)), AF_trans b3 (AF_eq (FM_a f2 (by decide))), 2 + j, by omega, hK, hk, Or.inr ⟨by omega, hB⟩⟩
      · rw [if_neg c, if_neg ne5] at z
        rw [Int32.lt_iff_toInt_lt, two32, h1] at c
        obtain ⟨z1, z2⟩ := F163 hS z
        rw [z2]
        exact ⟨z1, FM_refl hS, AF_refl, 2 + j, by omega, hK, hk, Or.inl ⟨by omega, S, by rw [show 2 + j - 2 = j by omega]; exact hg⟩⟩
end GC
end
section
section GD
variable {X : pm_X} {k : Nat} {w0 w wE w' : pm_W} {r : Option Value} {p p1 p2 p3 f0 p0 f q : Int32} {bs : Nat → Int32} {n i v j m : Nat}
theorem badI_2 {x : Int} {ns : Nat → Int} {l : Nat} (hl : l ≤ 2) : badI 2 l x ns ↔ ¬ (lwL 2 l ≤ x ∧ x ≤ lwH 2 l) := by
  unfold badI
  constructor
  · rintro (h | h | ⟨h, _⟩ | ⟨_, t, h, h2, _⟩) z
    · omega
    · omega
    · omega
    · omega
  · intro h
    by_cases c : x < lwL 2 l
    · exact Or.inl c
    · exact Or.inr (Or.inl (by omega))
/-- a ring read -/
theorem F216 (he : ∀ t, t < 8 → ecl wE t = -1) (h : RJ wE bs n i 2 f0 p0 0) (z : PS X k 216 0 [.ref 147, pm_dead, pm_dead, pm_dead, pm_dead] [] wE r w') : r = none ∧ FM rl7 [148, 151] wE w' ∧ AF wE w' ∧ ∃ m, (∀ t, t < m → tkK bs n (tP bs n i (t + 1)) = 2) ∧ tkK bs n (tP bs n i (m + 1)) ≠ 2 ∧ ((4 ≤ m ∧ ∃ S', RGI w' bs n i f0 p0 (m - 2) S') ∨ (m < 4 ∧ BK w' bs n (tP bs n i (m + 1)))) := by
  have hS : SK wE := h.1
  have e99 : (99 : Int32).toInt = 99 := by decide +kernel
  have l8 := len151 hS
  cases k with
  | zero => exact (PS_0 z).elim
  | succ k =>
    obtain ⟨r1, w1, q1, z⟩ := U216_0 hS z
    rcases R_num (by decide) (Or.inr (by rw [badI_2 (by decide), show lwL 2 0 = 1 from by decide +kernel, show lwH 2 0 = 99 from by decide +kernel, o32, e99])) h q1 with ⟨a1, a2, a3, _, x, a4, a5, a6⟩ | ⟨a1, a2, a3, a4, a5⟩
    · obtain ⟨hI0, z⟩ := z x a4 a2.2.2.2
      have z := z _ rfl
      obtain ⟨w2, e2⟩ : ∃ w2, w2 = aS w1 151 0 x := ⟨_, rfl⟩
      rw [← e2] at z
      have f2 : FM [] [151] w1 w2 := by rw [e2]; exact FM_aS a2.2.2.2 (by decide)
      have g2 : gA w2 151 = (gA wE 151).set 0 x := by rw [e2, gA_aS (aI_isA hI0), i_nat (n := 0) z32, FM_a a2 (by decide)]
      have h2 : RJ w2 bs n i 2 f0 p0 1 := RJ_wr a5 (FM_mono f2 (by decide) (by decide))
      obtain ⟨r4, w4, q4, z⟩ := z
      rcases R_num (by decide) (Or.inr (by rw [badI_2 (by decide), show lwL 2 1 = 0 from by decide +kernel, show lwH 2 1 = 99 from by decide +kernel, z32, e99])) h2 q4 with ⟨b1, b2, b3, _, y, b4, b5, b6⟩ | ⟨b1, b2, b3, b4, b5⟩
      · obtain ⟨hI1, z⟩ := z y b4 b2.2.2.2
        have z := z _ rfl
        obtain ⟨w5, e5⟩ : ∃ w5, w5 = aS w4 151 1 y := ⟨_, rfl⟩
        rw [← e5] at z
        have f5 : FM [] [151] w4 w5 := by rw [e5]; exact FM_aS b2.2.2.2 (by decide)
        have g5 : gA w5 151 = ((gA wE 151).set 0 x).set 1 y := by rw [e5, gA_aS (aI_isA hI1), i_nat (n := 1) o32, FM_a b2 (by decide), g2]
        have h5 : RJ w5 bs n i 2 f0 p0 2 := RJ_wr b5 (FM_mono f5 (by decide) (by decide))
        have ec : ∀ t, t < 8 → ecl w5 t = if t = 1 then y else if t = 0 then x else -1 := by
          intro t ht
          unfold ecl
          rw [g5, getD_set (by simp only [List.length_set]; omega), getD_set (by omega)]
          by_cases t1 : t = 1
          · rw [if_pos t1, if_pos t1]
          rw [if_neg t1, if_neg t1]
          by_cases t0 : t = 0
          · rw [if_pos t0, if_pos t0]
          · rw [if_neg t0, if_neg t0]; exact he t ht
        have hg : RGI w5 bs n i f0 p0 0 0 := by
          refine ⟨h5, fun t ht h2t => ?_, by decide, fun hz => ⟨by decide, fun t ht => ?_, fun t t1 t2 => by omega, fun b hb => ?_⟩⟩
          · rw [ec t ht, if_neg (by omega), if_neg (by omega)]
          · have hz : (fJ bs n i 2 f0 p0 (1 + 1)).1 = 0 := hz
            have hz1 := fJ_0 (by decide) hz
            rw [ec t (by omega)]
            by_cases t1 : t = 1
            · rw [if_pos t1, t1]; exact ns32_of (b6 hz)
            · rw [if_neg t1, if_pos (by omega), show t = 0 by omega]; exact ns32_of (a6 hz1)
          · rw [Nat.zero_testBit]
            exact ⟨fun c => Bool.noConfusion c, fun ⟨t, t1, t2, _⟩ => by omega⟩
        obtain ⟨c1, c2, c3, m, c4, c5, c6, c7⟩ := RG30 (n - tP bs n i (2 + 0 + 1) + 1) _ w5 0 0 0 0 _ _ (by omega) z32 z32 hg (fun t ht => by
          have ct : t = 0 ∨ t = 1 := by omega
          rcases ct with e | e
          · rw [e]; exact a1
          · rw [e]; exact b1) z
        exact ⟨c1, FM_trans (FM_mono a2 (by decide) (by decide)) (FM_trans (FM_mono f2 (by decide) (by decide)) (FM_trans (FM_mono b2 (by decide) (by decide)) (FM_trans (FM_mono f5 (by decide) (by decide)) c2))), AF_trans a3 (AF_trans (AF_eq (FM_a f2 (by decide))) (AF_trans b3 (AF_trans (AF_eq (FM_a f5 (by decide))) c3))), m, c5, c6, c7⟩
      · obtain ⟨hI1, z⟩ := z _ b5 b2.2.2.2
        have z := z _ rfl
        have f5 : FM [] [151] w4 (aS w4 151 1 0) := FM_aS b2.2.2.2 (by decide)
        have hB := BK_wr b4 (FM_mono f5 (by decide) (by decide))
        cases k with
        | zero => exact (PS_0 z).elim
        | succ k =>
          have z := U216_30 f5.2.2.2 z
          rw [if_neg hB.2.1] at z
          obtain ⟨z1, z2⟩ := F163 f5.2.2.2 z
          rw [z2]
          exact ⟨z1, FM_trans (FM_mono a2 (by decide) (by decide)) (FM_trans (FM_mono f2 (by decide) (by decide)) (FM_trans (FM_mono b2 (by decide) (by decide)) (FM_mono f5 (by decide) (by decide)))), AF_trans a3 (AF_trans (AF_eq (FM_a f2 (by decide))) (AF_trans b3 (AF_eq (FM_a f5 (by decide))))), 1, fun t ht => by rw [show t = 0 by omega]; exact a1, b1, Or.inr ⟨by decide, hB⟩⟩
    · obtain ⟨hI0, z⟩ := z _ a5 a2.2.2.2
      have z := z _ rfl
      have f2 : FM [] [151] w1 (aS w1 151 0 1) := FM_aS a2.2.2.2 (by decide)
      have hB2 := BK_wr a4 (FM_mono f2 (by decide) (by decide))
      obtain ⟨r4, w4, q4, z⟩ := z
      obtain ⟨d1, d2⟩ := F210_w hB2.1 hB2.2.1 q4
      subst w4
      obtain ⟨hI1, z⟩ := z _ d1 f2.2.2.2
      have z := z _ rfl
      have f5 := FM_aS (fs := []) (as := [151]) (a := 151) (x := 1) (y := 0) f2.2.2.2 (by decide)
      have hB := BK_wr hB2 (FM_mono f5 (by decide) (by decide))
      cases k with
      | zero => exact (PS_0 z).elim
      | succ k =>
        have z := U216_30 f5.2.2.2 z
        rw [if_neg hB.2.1] at z
        obtain ⟨z1, z2⟩ := F163 f5.2.2.2 z
        rw [z2]
        exact ⟨z1, FM_trans (FM_mono a2 (by decide) (by decide)) (FM_trans (FM_mono f2 (by decide) (by decide)) (FM_mono f5 (by decide) (by decide))), AF_trans a3 (AF_trans (AF_eq (FM_a f2 (by decide))) (AF_eq (FM_a f5 (by decide)))), 0, fun t ht => absurd ht (Nat.not_lt_zero t), a1, Or.inr ⟨by decide, hB⟩⟩
/-- ring -/
theorem RL_2 {x u : Int32} (fm : FM rl7 [148, 151] w wE) (af : AF w wE) (he : ∀ t, t < 8 → ecl wE t = -1) (h : RJ wE bs n i 2 f0 p0 0) (hc0 : f0 = 0 → 0 ≤ (rcl w 0).toInt) (hc : f0 = 0 → (rcl w 0).toInt < 30) (z : PS X k 215 104 [.ref 147, .int x, .int 13, .int u] [] wE r w') : r = none ∧ RL w w' bs n i f0 p0 2 := by
  cases k with
  | zero => exact (PS_0 z).elim
  | succ k =>
    have z := U215_104 fm.2.2.2 z
    rw [if_pos rfl] at z
    obtain ⟨r1, w1, q1, z⟩ := z
    obtain ⟨a1, a2, a3, m, a4, a5, a6⟩ := F216 he h q1
    have z := z a1 a2.2.2.2
    obtain ⟨k2, z⟩ := P114 a2.2.2.2 (by decide +kernel) z
    obtain ⟨k3, z⟩ := P133 a2.2.2.2 (by decide +kernel) z
    have fm1 := FM_trans fm a2
    have af1 := AF_trans af a3
    rcases a6 with ⟨m4, S', hg⟩ | ⟨m4, hB⟩
    · have hJ : RJ w1 bs n i 2 f0 p0 m := by
        have := hg.1
        rw [show 2 + (m - 2) = m by omega] at this
        exact this
      have rcE : ∀ q, rcl w1 q = rcl w q := fun q => by unfold rcl; rw [FM_a fm1 (by decide)]
      obtain ⟨z1, w2, k', f1, c1, z2⟩ := T150 fm1.2.2.2 (len150 fm1.2.2.2) (fun w1 f1 => E214_R (RS_wr hJ (FM_mono f1 (by decide) (by decide)))) z
      have h1 : RJ w2 bs n i 2 f0 p0 m := RJ_wr hJ (FM_mono f1 (by decide) (by decide))
      obtain ⟨_, g⟩ := F214 h1 z2
      rcases g with ⟨g1, g2, g3, g4⟩ | ⟨g1, g2, g3, g4⟩
      · refine ⟨z1, FM_trans (FM_mono fm1 (by decide) (by decide)) (FM_trans (FM_mono f1 (by decide) (by decide)) (FM_mono g2 (by decide) (by decide))), AF_trans (AF_trans af1 (AF_eq (FM_a f1 (by decide)))) g3, m, Or.inr ⟨⟨a4, fun y => absurd rfl y, fun _ => m4, g1⟩, g4, fun hz => ?_⟩⟩
        obtain ⟨j6, iv2, _, _⟩ := hg.2.2.2 (by rw [show 2 + (m - 2) = m by omega]; exact hz)
        have hf0 : f0 = 0 := fJ_00 m hz
        refine ⟨ecl w1, fun t ht => ?_, fun q => ?_⟩
        · unfold e8
          by_cases c : t < m
          · rw [if_pos c]; exact iv2 t (by omega)
          · rw [if_neg c]; exact hg.2.1 t ht (by omega)
        · have e : rcl w' q = rcl w2 q := by unfold rcl; rw [FM_a g2 (by decide)]
          have ef : rcl w1 = rcl w := funext rcE
          rw [e, (c1 (by rw [rcE]; exact hc0 hf0) (by rw [rcE]; exact hc hf0)).2 q, ef]
          rfl
      · exact ⟨z1, FM_trans (FM_mono fm1 (by decide) (by decide)) (FM_trans (FM_mono f1 (by decide) (by decide)) (FM_mono g2 (by decide) (by decide))), AF_trans (AF_trans af1 (AF_eq (FM_a f1 (by decide)))) g3, m, Or.inl ⟨⟨a4, fun y => absurd rfl y, fun _ => ⟨a5, fun _ => g1⟩⟩, g4⟩⟩
    · exact FIN_B ⟨a4, fun y => absurd rfl y, fun _ => ⟨a5, fun y => by omega⟩⟩ fm1 af1 hB hc0 z
end GD
end
section
section GE
variable {X : pm_X} {k : Nat} {w0 w wE w' : pm_W} {r : Option Value} {p p1 p2 p3 f0 p0 f q : Int32} {bs : Nat → Int32} {n i v j m : Nat}
/-- one act too many -/
def tm30 (w : pm_W) : Bool := decide (30 ≤ (rcl w 0).toInt)
/-- a row's line -/
theorem F215 (hc0 : f = 0 → 0 ≤ (rcl w 0).toInt) (h : RS w bs n i f p) (z : PS X k 215 0 [.ref 147, pm_dead, pm_dead, pm_dead] [] w r w') : r = none ∧ ((vbT false bs n i = -1 ∧ FM rl7 [148, 150, 151] w w' ∧ AF w w' ∧ BK w' bs n i) ∨ ∃ v : Nat, vbT false bs n i = v ∧ v ≤ 5 ∧ tkK bs n i = 1 ∧ RL w w' bs n i (ntF (tm30 w) 3 f) (ntP (tm30 w) (pl bs n i) f p) v) := by
  have hS : SK w := h.1
  have hpl := RS_pl h
  have n6 := RS_n6 h
  have hR0 := RS_R0 h
  have hf : qF w = f := h.2.2.2.2.2.2.1
  have hp : qP w = p := h.2.2.2.2.2.2.2.1
  have hat := h.2.2.2.2.2.2.2.2.1
  have hi := h.2.2.2.2.2.2.2.2.2
  have e30 : (30 : Int32).toInt = 30 := by decide +kernel
  cases k with
  | zero => exact (PS_0 z).elim
  | succ k =>
    obtain ⟨_, z⟩ := U215_0 hS z
    rw [hpl, aG_n (m := 0) z32] at z
    have e0 : (gA w 150).getD 0 0 = rcl w 0 := rfl
    rw [e0] at z
    have s22 : ∃ (w1 : pm_W) (k1 : Nat), FM [] [148] w w1 ∧ AF w w1 ∧ R0 w1 bs n i ∧ qF w1 = ntF (tm30 w) 3 f ∧ qP w1 = ntP (tm30 w) (pl bs n i) f p ∧ PS X k1 215 22 [.ref 147, .int (pl bs n i), pm_dead, pm_dead] [] w1 r w' := by
      unfold tm30
      by_cases c : rcl w 0 < 30
      · rw [if_pos c] at z
        rw [Int32.lt_iff_toInt_lt, e30] at c
        rw [decide_eq_false (by omega)]
        exact ⟨w, _, FM_refl hS, AF_refl, hR0, hf, hp, z⟩
      · rw [if_neg c] at z
        rw [Int32.lt_iff_toInt_lt, e30] at c
        obtain ⟨r1, w1, q1, q2⟩ := z
        obtain ⟨a1, a2, a3, a4, a5, a6⟩ := F211_al hR0 q1
        rw [hf, hp] at a5 a6
        rw [decide_eq_true (by omega), ntF_t, ntP_t]
        refine ⟨w1, _, a2, a3, a4, ?_, ?_, q2 a1 a2.2.2.2⟩
        · rw [a5]
          by_cases cf : f = 0
          · rw [if_pos cf, cf]; exact al_0.1
          · rw [if_neg cf]
            exact (al_s cf (by rw [pl_i n6 hi]; exact hat cf) (by rw [three32]; decide)).1
        · rw [a6]
          by_cases cf : f = 0
          · rw [if_pos cf, cf]; exact al_0.2
          · rw [if_neg cf]
            exact (al_s cf (by rw [pl_i n6 hi]; exact hat cf) (by rw [three32]; decide)).2
    obtain ⟨w1, k1, f1, a1, hR1, qF1, qP1, z⟩ := s22
    have hz30 : ntF (tm30 w) 3 f = 0 → (rcl w 0).toInt < 30 := by
      intro hz
      by_cases c : 30 ≤ (rcl w 0).toInt
      · exfalso
        unfold tm30 at hz
        rw [decide_eq_true c, ntF_t] at hz
        by_cases cf : f = 0
        · rw [if_pos cf] at hz; exact absurd hz (by decide +kernel)
        · rw [if_neg cf] at hz; exact cf hz
      · omega
    cases k1 with
    | zero => exact (PS_0 z).elim
    | succ k1 =>
      obtain ⟨r2, w2, q1, q2⟩ := U215_22 f1.2.2.2 z
      have e11 : (11 : Int32).toInt = 11 := by decide +kernel
      have e16 : (16 : Int32).toInt = 16 := by decide +kernel
      rcases F208_0 hR1 q1 with ⟨c1, c2, c3, c4, f2, hR2, er⟩ | ⟨c1, f2, a2, hB, er⟩
      · rw [e11] at c3
        rw [e16] at c4
        obtain ⟨c, hc⟩ : ∃ c, c = wdC bs (tkS bs n i) (tkN bs n i) := ⟨_, rfl⟩
        rw [← hc] at c2 c3 c4 er
        have z := q2 c er f2.2.2.2
        have evb : vbT false bs n i = c.toInt - 11 := by
          unfold vbT vbR
          rw [if_pos c1, if_neg Bool.false_ne_true, ← hc, if_pos ⟨c3, c4⟩]
        obtain ⟨k3, w3, u', f3, l3, ec3, z⟩ := L33 _ w2 0 0 f2.2.2.2 (len151 f2.2.2.2) z32 (by omega) z
        have he : ∀ t, t < 8 → ecl w3 t = -1 := fun t ht => by rw [ec3 t ht, if_pos (Nat.zero_le t)]
        have g2 : gA w2 148 = gA w1 148 := FM_a f2 (by decide)
        have hRS2 : RS w2 bs n (tP bs n i 1) (ntF (tm30 w) 3 f) (ntP (tm30 w) (pl bs n i) f p) := by
          refine R0_RS hR2 (by unfold qF; rw [g2]; exact qF1) (by unfold qP; rw [g2]; exact qP1) (fun hz => Or.inl ?_)
          have b := tkN_b (bs := bs) (n := n) (i := i) (by rw [c1]; decide)
          have s := tkS_b (bs := bs) (n := n) (i := tkN bs n i)
          have lt := ntP_lt (b := tm30 w) (kd := 3) (f := f) (p := p) (q := pl bs n i) (m := tkS bs n i) (m' := tkS bs n i + 1) (pl_i n6 hi) (by omega) (fun hz3 => by
            rcases hat hz3 with y | ⟨y, _⟩
            · omega
            · rw [y, pl_i n6 hi]; omega) hz
          show (ntP (tm30 w) (pl bs n i) f p).toInt < (tkS bs n (tkN bs n i) : Nat)
          omega
        have hRS3 := RS_wr hRS2 (FM_mono f3 (by decide) (by decide) : FM [] [150, 151] w2 w3)
        have fm : FM rl7 [148, 151] w w3 := FM_trans (FM_mono f1 (by decide) (by decide)) (FM_trans (FM_mono f2 (by decide) (by decide)) (FM_mono f3 (by decide) (by decide)))
        have af : AF w w3 := AF_trans a1 (AF_trans (AF_eq g2) (AF_eq (FM_a f3 (by decide))))
        have go : ∀ (v : Nat) (y : Int32), c = y → y.toInt - 11 = v → v ≤ 5 → (r = none ∧ RL w w' bs n i (ntF (tm30 w) 3 f) (ntP (tm30 w) (pl bs n i) f p) v) → r = none ∧ ((vbT false bs n i = -1 ∧ FM rl7 [148, 150, 151] w w' ∧ AF w w' ∧ BK w' bs n i) ∨ ∃ v : Nat, vbT false bs n i = v ∧ v ≤ 5 ∧ tkK bs n i = 1 ∧ RL w w' bs n i (ntF (tm30 w) 3 f) (ntP (tm30 w) (pl bs n i) f p) v) := by
          rintro v y ey hv h5 ⟨z1, z2⟩
          exact ⟨z1, Or.inr ⟨v, by rw [evb, ey]; exact hv, h5, c1, z2⟩⟩
        have cc : c = 11 ∨ c = 12 ∨ c = 13 ∨ c = 14 ∨ c = 15 ∨ c = 16 := by
          have t : c.toInt = 11 ∨ c.toInt = 12 ∨ c.toInt = 13 ∨ c.toInt = 14 ∨ c.toInt = 15 ∨ c.toInt = 16 := by omega
          rcases t with t | t | t | t | t | t
          · exact Or.inl (Int32.toInt_inj.mp (by rw [t]; decide +kernel))
          · exact Or.inr (Or.inl (Int32.toInt_inj.mp (by rw [t]; decide +kernel)))
          · exact Or.inr (Or.inr (Or.inl (Int32.toInt_inj.mp (by rw [t]; decide +kernel))))
          · exact Or.inr (Or.inr (Or.inr (Or.inl (Int32.toInt_inj.mp (by rw [t]; decide +kernel)))))
          · exact Or.inr (Or.inr (Or.inr (Or.inr (Or.inl (Int32.toInt_inj.mp (by rw [t]; decide +kernel))))))
          · exact Or.inr (Or.inr (Or.inr (Or.inr (Or.inr (Int32.toInt_inj.mp (by rw [t]; decide +kernel))))))
        rcases cc with e | e | e | e | e | e
        · rw [e, if_pos rfl] at z
          exact go 0 11 e (by rw [e11]; rfl) (by decide) (RL_01 (Or.inl rfl) (by decide +kernel) (by decide +kernel) (by decide +kernel) (by decide +kernel) fm af he hRS3 (fun hz => hc0 (ntF_z (by decide +kernel) hz).1) hz30 z)
        · rw [e, if_neg (by decide +kernel), if_pos rfl] at z
          exact go 1 12 e (by rw [show (12 : Int32).toInt = 12 from by decide +kernel]; rfl) (by decide) (RL_01 (Or.inr rfl) (by decide +kernel) (by decide +kernel) (by decide +kernel) (by decide +kernel) fm af he hRS3 (fun hz => hc0 (ntF_z (by decide +kernel) hz).1) hz30 z)
        · rw [e, if_neg (by decide +kernel), if_neg (by decide +kernel)] at z
          exact go 2 13 e (by rw [show (13 : Int32).toInt = 13 from by decide +kernel]; rfl) (by decide) (RL_2 fm af he hRS3 (fun hz => hc0 (ntF_z (by decide +kernel) hz).1) hz30 z)
        · rw [e, if_neg (by decide +kernel), if_neg (by decide +kernel)] at z
          exact go 3 14 e (by rw [show (14 : Int32).toInt = 14 from by decide +kernel]; rfl) (by decide) (RL_3 fm af he hRS3 (fun hz => hc0 (ntF_z (by decide +kernel) hz).1) hz30 z)
        · rw [e, if_neg (by decide +kernel), if_neg (by decide +kernel)] at z
          exact go 4 15 e (by rw [show (15 : Int32).toInt = 15 from by decide +kernel]; rfl) (by decide) (RL_4 fm af he hRS3 (fun hz => hc0 (ntF_z (by decide +kernel) hz).1) hz30 z)
        · rw [e, if_neg (by decide +kernel), if_neg (by decide +kernel)] at z
          exact go 5 16 e (by rw [e16]; rfl) (by decide) (RL_5 fm af he hRS3 (fun hz => hc0 (ntF_z (by decide +kernel) hz).1) hz30 z)
      · have z := q2 0 er f2.2.2.2
        obtain ⟨k3, w3, u', f3, l3, ec3, z⟩ := L33 _ w2 0 0 f2.2.2.2 (len151 f2.2.2.2) z32 (by omega) z
        rw [if_neg (by decide +kernel), if_neg (by decide +kernel)] at z
        obtain ⟨k4, z⟩ := P104 f3.2.2.2 (by decide +kernel) z
        obtain ⟨k5, z⟩ := P114 f3.2.2.2 (by decide +kernel) z
        obtain ⟨k6, z⟩ := P133 f3.2.2.2 (by decide +kernel) z
        have hB3 := BK_wr hB (FM_mono f3 (by decide) (by decide))
        have fm : FM rl7 [148, 151] w w3 := FM_trans (FM_mono f1 (by decide) (by decide)) (FM_trans (FM_mono f2 (by decide) (by decide)) (FM_mono f3 (by decide) (by decide)))
        have rcE : rcl w3 0 = rcl w 0 := by unfold rcl; rw [FM_a fm (by decide)]
        obtain ⟨z1, w4, k', f4, _, z2⟩ := T150 f3.2.2.2 (len150 f3.2.2.2) (fun w1 f1 => E214_B (BK_wr hB3 (FM_mono f1 (by decide) (by decide)))) z
        have hB4 := BK_wr hB3 (FM_mono f4 (by decide) (by decide))
        have e := END_B hB4 z2
        rw [e]
        refine ⟨z1, Or.inl ⟨?_, FM_trans (FM_mono fm (by decide) (by decide)) (FM_mono f4 (by decide) (by decide)), AF_trans a1 (AF_trans a2 (AF_trans (AF_eq (FM_a f3 (by decide))) (AF_eq (FM_a f4 (by decide))))), hB4⟩⟩
        unfold vbT vbR
        by_cases ck : tkK bs n i = 1
        · rw [if_pos ck, if_neg Bool.false_ne_true, if_neg]
          intro y
          refine c1 ⟨ck, fun y2 => ?_, by rw [e11]; exact y.1, by rw [e16]; exact y.2⟩
          rw [y2, show (99 : Int32).toInt = 99 from by decide +kernel] at y
          omega
        · rw [if_neg ck]
end GE
end
section
/-! ===== a tape read: one relation for both sides; its outcome is one ===== -/
section GF
variable {X : pm_X} {k : Nat} {w0 w w' : pm_W} {r : Option Value} {p p1 p2 p3 f0 p0 f q : Int32} {bs : Nat → Int32} {n i v j m : Nat}
/-- without a fault no number is bad -/
theorem fJ_ok : ∀ (m : Nat), (fJ bs n i v f0 p0 m).1 = 0 → ∀ l, l < m → ¬ badI v l (nv bs n i l) (nv bs n i)
  | 0, _, l, hl => absurd hl (Nat.not_lt_zero l)
  | m + 1, h, l, hl => by
    have h : ntF (decide (8 ≤ m)) 3 (ntF (bJ bs n i v m) 2 (fJ bs n i v f0 p0 m).1) = 0 := h
    obtain ⟨h1, _⟩ := ntF_z (by decide +kernel) h
    obtain ⟨h3, h4⟩ := ntF_z (by decide +kernel) h1
    by_cases e : l = m
    · subst e
      intro z
      rw [bJ_iff.mpr z] at h4
      exact Bool.noConfusion h4
    · exact fJ_ok m h3 l (by omega)
theorem fJ_8 : ∀ (m : Nat), (fJ bs n i v f0 p0 m).1 = 0 → m ≤ 8
  | 0, _ => Nat.zero_le _
  | m + 1, h => by
    have h : ntF (decide (8 ≤ m)) 3 (ntF (bJ bs n i v m) 2 (fJ bs n i v f0 p0 m).1) = 0 := h
    obtain ⟨_, h2⟩ := ntF_z (by decide +kernel) h
    have := of_decide_eq_false h2
    omega
theorem badI_n {x : Int} {ns : Nat → Int} {l : Nat} (h : ¬ badI v l x ns) : lwL v l ≤ x ∧ x ≤ lwH v l := by
  unfold badI at h
  constructor
  · exact Int.not_lt.mp (fun z => h (Or.inl z))
  · exact Int.not_lt.mp (fun z => h (Or.inr (Or.inl z)))
theorem fJ_rg (h : (fJ bs n i v f0 p0 m).1 = 0) {l : Nat} (hl : l < m) : lwL v l ≤ nv bs n i l ∧ nv bs n i l ≤ lwH v l := badI_n (fJ_ok m h l hl)
/-- one sentence too many, by the cells so far -/
def tmC (b : Bool) (c : Nat → Int32) (v : Nat) : Bool := cond b (if v = 12 then decide (7 ≤ (c 1).toInt) else false) (decide (30 ≤ (c 0).toInt))
/-- the cells behind a sentence -/
def stC (b : Bool) (v : Nat) (c e : Nat → Int32) : Nat → Int32 := cond b (kS v c e) (rowR c (Int32.ofNat v) e)
noncomputable def fD (b : Bool) (bs : Nat → Int32) (n i : Nat) (f p : Int32) (c : Nat → Int32) (v m : Nat) : Int32 × Int32 := fJ bs n i v (ntF (tmC b c v) 3 f) (ntP (tmC b c v) (pl bs n i) f p) m
noncomputable def cD (b : Bool) (bs : Nat → Int32) (n i : Nat) (f p : Int32) (c : Nat → Int32) (v m : Nat) : Nat → Int32 := if (fD b bs n i f p c v m).1 = 0 then stC b v c (e8 bs n i m) else c
noncomputable def gD (b : Bool) (bs : Nat → Int32) (n i : Nat) (f p : Int32) (c : Nat → Int32) (g : Int) (v m : Nat) : Int := if (fD b bs n i f p c v m).1 = 0 then gS v g (e8 bs n i m) else g
/-- what a tape's reading comes to: whether the form breaks, the fault, its place, the cells, the greatest -/
def OC : Type := Bool × Int32 × Int32 × (Nat → Int32) × Int
/-- from the token at i on, fault f at p, cells c, greatest g, N sentences at most -/
def RDq (b : Bool) (bs : Nat → Int32) (n : Nat) : Nat → Nat → Int32 → Int32 → (Nat → Int32) → Int → OC → Prop
  | 0, _, _, _, _, _, _ => False
  | N + 1, i, f, p, c, g, o => (tkK bs n i = 0 ∧ o = (false, f, p, c, g)) ∨ (tkK bs n i ≠ 0 ∧ vbT b bs n i = -1 ∧ o = (true, 1, pl bs n i, c, g)) ∨ (∃ v m : Nat, vbT b bs n i = v ∧ FI bs n i v m ∧ o = (true, 1, pl bs n (tP bs n i (m + 1)), c, g)) ∨ (∃ v m : Nat, vbT b bs n i = v ∧ OK bs n i v m ∧ RDq b bs n N (tP bs n i (m + 2)) (fD b bs n i f p c v m).1 (fD b bs n i f p c v m).2 (cD b bs n i f p c v m) (gD b bs n i f p c g v m) o)
theorem vbT_k {b : Bool} (h : vbT b bs n i = v) : tkK bs n i = 1 := by
  unfold vbT at h
  by_cases c : tkK bs n i = 1
  · exact c
  · rw [if_neg c] at h
    omega
theorem RD_det {b : Bool} : ∀ (N N' : Nat) {i : Nat} {f p : Int32} {c : Nat → Int32} {g : Int} {o o' : OC}, RDq b bs n N i f p c g o → RDq b bs n N' i f p c g o' → o' = o
  | 0, _, _, _, _, _, _, _, _, h, _ => h.elim
  | _ + 1, 0, _, _, _, _, _, _, _, _, h => h.elim
  | N + 1, N' + 1, i, f, p, c, g, o, o', h, h' => by
    rcases h with ⟨h1, e⟩ | ⟨h1, h2, e⟩ | ⟨v, m, h1, h2, e⟩ | ⟨v, m, h1, h2, h3⟩
    · rcases h' with ⟨a1, e'⟩ | ⟨a1, a2, e'⟩ | ⟨v', m', a1, a2, e'⟩ | ⟨v', m', a1, a2, a3⟩
      · rw [e, e']
      · exact absurd h1 a1
      · rw [vbT_k a1] at h1; exact absurd h1 (by decide)
      · rw [vbT_k a1] at h1; exact absurd h1 (by decide)
    · rcases h' with ⟨a1, e'⟩ | ⟨a1, a2, e'⟩ | ⟨v', m', a1, a2, e'⟩ | ⟨v', m', a1, a2, a3⟩
      · exact absurd a1 h1
      · rw [e, e']
      · omega
      · omega
    · rcases h' with ⟨a1, e'⟩ | ⟨a1, a2, e'⟩ | ⟨v', m', a1, a2, e'⟩ | ⟨v', m', a1, a2, a3⟩
      · rw [vbT_k h1] at a1; exact absurd a1 (by decide)
      · omega
      · have ev : v' = v := by omega
        subst ev
        rw [e, e', FI_FI h2 a2]
      · have ev : v' = v := by omega
        subst ev
        exact (FI_OK h2 a2).elim
    · rcases h' with ⟨a1, e'⟩ | ⟨a1, a2, e'⟩ | ⟨v', m', a1, a2, e'⟩ | ⟨v', m', a1, a2, a3⟩
      · rw [vbT_k h1] at a1; exact absurd a1 (by decide)
      · omega
      · have ev : v' = v := by omega
        subst ev
        exact (FI_OK a2 h2).elim
      · have ev : v' = v := by omega
        subst ev
        have em := OK_OK a2 h2
        subst em
        exact RD_det N N' h3 a3
theorem kS_congr {c ns ns' : Nat → Int32} (h6 : 6 ≤ v) (h12 : v ≤ 12) (h : ∀ t, t < dueN v → ns t = ns' t) : kS v c ns = kS v c ns' := by
  have cv : v = 6 ∨ v = 7 ∨ v = 8 ∨ v = 9 ∨ v = 10 ∨ v = 11 ∨ v = 12 := by omega
  rcases cv with rfl | rfl | rfl | rfl | rfl | rfl | rfl
  · show updc c 0 (ns 0) = updc c 0 (ns' 0)
    rw [h 0 (by decide +kernel)]
  · show updc c (3 + (9 * (ns 0).toInt.toNat + (ns 1).toInt.toNat)) (ns 2) = updc c (3 + (9 * (ns' 0).toInt.toNat + (ns' 1).toInt.toNat)) (ns' 2)
    rw [h 0 (by decide +kernel), h 1 (by decide +kernel), h 2 (by decide +kernel)]
  · show (fun k => if 3 ≤ k ∧ k < 84 then (if (k - 3) % 10 = 0 then 0 else ns 0) else c k) = (fun k => if 3 ≤ k ∧ k < 84 then (if (k - 3) % 10 = 0 then 0 else ns' 0) else c k)
    rw [h 0 (by decide +kernel)]
  · show updc c (84 + (ns 0).toInt.toNat) (ns 1) = updc c (84 + (ns' 0).toInt.toNat) (ns' 1)
    rw [h 0 (by decide +kernel), h 1 (by decide +kernel)]
  · show updc c (93 + (ns 0).toInt.toNat) (ns 1) = updc c (93 + (ns' 0).toInt.toNat) (ns' 1)
    rw [h 0 (by decide +kernel), h 1 (by decide +kernel)]
  · show updc c 2 (ns 0) = updc c 2 (ns' 0)
    rw [h 0 (by decide +kernel)]
  · have d : dueN 12 = 4 := by decide +kernel
    funext k
    show (if k = 1 then c 1 + 1 else if 102 + 4 * (c 1).toInt.toNat ≤ k ∧ k < 106 + 4 * (c 1).toInt.toNat then ns (k - (102 + 4 * (c 1).toInt.toNat)) else c k) = (if k = 1 then c 1 + 1 else if 102 + 4 * (c 1).toInt.toNat ≤ k ∧ k < 106 + 4 * (c 1).toInt.toNat then ns' (k - (102 + 4 * (c 1).toInt.toNat)) else c k)
    by_cases e : 102 + 4 * (c 1).toInt.toNat ≤ k ∧ k < 106 + 4 * (c 1).toInt.toNat
    · rw [if_pos e, if_pos e, h (k - (102 + 4 * (c 1).toInt.toNat)) (by rw [d]; omega)]
    · rw [if_neg e, if_neg e]
theorem gS_congr {g : Int} {ns ns' : Nat → Int32} (h6 : 6 ≤ v) (h12 : v ≤ 12) (h : ∀ t, t < dueN v → ns t = ns' t) : gS v g ns = gS v g ns' := by
  have cv : v = 6 ∨ v = 7 ∨ v = 8 ∨ v = 9 ∨ v = 10 ∨ v = 11 ∨ v = 12 := by omega
  rcases cv with rfl | rfl | rfl | rfl | rfl | rfl | rfl
  · show g = g
    rfl
  · show max g (max (ns 0).toInt (ns 1).toInt) = max g (max (ns' 0).toInt (ns' 1).toInt)
    rw [h 0 (by decide +kernel), h 1 (by decide +kernel)]
  · show g = g
    rfl
  · show max g (ns 0).toInt = max g (ns' 0).toInt
    rw [h 0 (by decide +kernel)]
  · show max g (ns 0).toInt = max g (ns' 0).toInt
    rw [h 0 (by decide +kernel)]
  · show g = g
    rfl
  · show max g (max (ns 0).toInt (ns 1).toInt) = max g (max (ns' 0).toInt (ns' 1).toInt)
    rw [h 0 (by decide +kernel), h 1 (by decide +kernel)]
theorem rowR_congr {c e e' : Nat → Int32} {y : Int32} (h : ∀ t, t < 8 → e t = e' t) : rowR c y e = rowR c y e' := by
  funext q
  unfold rowR
  by_cases z : 2 + 9 * (c 0).toInt.toNat ≤ q ∧ q < 10 + 9 * (c 0).toInt.toNat
  · rw [if_pos z, if_pos z, h _ (by omega)]
  · rw [if_neg z, if_neg z]
theorem e8_ns {t : Nat} (h : t < m) : e8 bs n i m t = ns32 bs n i t := if_pos h
/-- the cells 0: at least one is there (a village) -/
theorem kS_0 {c ns : Nat → Int32} (h7 : 7 ≤ v) (h12 : v ≤ 12) : kS v c ns 0 = c 0 := by
  have cv : v = 7 ∨ v = 8 ∨ v = 9 ∨ v = 10 ∨ v = 11 ∨ v = 12 := by omega
  rcases cv with rfl | rfl | rfl | rfl | rfl | rfl
  · show (if 0 = _ then _ else c 0) = _
    rw [if_neg (by omega)]
  · show (if 3 ≤ 0 ∧ 0 < 84 then (if (0 - 3) % 10 = 0 then 0 else ns 0) else c 0) = _
    rw [if_neg (by omega)]
  · show (if 0 = _ then _ else c 0) = _
    rw [if_neg (by omega)]
  · show (if 0 = _ then _ else c 0) = _
    rw [if_neg (by omega)]
  · show (if 0 = 2 then ns 0 else c 0) = _
    rw [if_neg (by omega)]
  · show (if 0 = 1 then c 1 + 1 else if 102 + 4 * (c 1).toInt.toNat ≤ 0 ∧ 0 < 106 + 4 * (c 1).toInt.toNat then ns (0 - (102 + 4 * (c 1).toInt.toNat)) else c 0) = _
    rw [if_neg (by omega), if_neg (by omega)]
theorem vbT_t (h : vbT true bs n i = v) : 6 ≤ v ∧ v ≤ 12 := by
  have hk := vbT_k h
  unfold vbT at h
  rw [if_pos hk] at h
  rcases vbR_b (b := true) (c := wdC bs (tkS bs n i) (tkN bs n i)) with z | z
  · omega
  · have := z.2.2.1 rfl
    omega
theorem vbT_f (h : vbT false bs n i = v) : v ≤ 5 := by
  have hk := vbT_k h
  unfold vbT at h
  rw [if_pos hk] at h
  rcases vbR_b (b := false) (c := wdC bs (tkS bs n i) (tkN bs n i)) with z | z
  · omega
  · have := z.2.2.2 rfl
    omega
/-- the number that was told, below m -/
theorem ns32_i {t : Nat} (h1 : -2147483648 ≤ nv bs n i t) (h2 : nv bs n i t ≤ 2147483647) : (ns32 bs n i t).toInt = nv bs n i t := Int32.toInt_ofInt_of_le (by show (-2147483648 : Int) ≤ _; exact h1) (by show _ < (2147483648 : Int); omega)
theorem RD_people : ∀ (N : Nat) {i : Nat} {f p : Int32} {c : Nat → Int32} {g : Int} {o : OC}, RDq true bs n N i f p c g o → 0 < (c 0).toInt → 0 < (o.2.2.2.1 0).toInt
  | 0, _, _, _, _, _, _, h, _ => h.elim
  | N + 1, i, f, p, c, g, o, h, z => by
    rcases h with ⟨h1, e⟩ | ⟨h1, h2, e⟩ | ⟨v, m, h1, h2, e⟩ | ⟨v, m, h1, h2, h3⟩
    · rw [e]; exact z
    · rw [e]; exact z
    · rw [e]; exact z
    · refine RD_people N h3 ?_
      unfold cD
      by_cases e : (fD true bs n i f p c v m).1 = 0
      · rw [if_pos e]
        obtain ⟨v6, v12⟩ := vbT_t h1
        show 0 < (kS v c (e8 bs n i m) 0).toInt
        by_cases e6 : v = 6
        · subst e6
          have hm : m = 1 := (h2.2.1 (by decide)).trans (by decide +kernel)
          subst hm
          have rg := fJ_rg e (l := 0) (by decide)
          rw [show lwL 6 0 = 2 from by decide +kernel, show lwH 6 0 = 9 from by decide +kernel] at rg
          show 0 < (if (0 : Nat) = 0 then e8 bs n i 1 0 else c 0).toInt
          rw [if_pos rfl, e8_ns (by decide), ns32_i (by omega) (by omega)]
          omega
        · rw [kS_0 (by omega) v12]
          exact z
      · rw [if_neg e]
        exact z
end GF
end
