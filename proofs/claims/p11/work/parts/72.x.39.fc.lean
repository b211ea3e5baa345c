/-! ===== the class's reader: a token ===== -/
section FC
variable {X : pm_X} {k : Nat} {w w' : pm_W} {r : Option Value} {p : Int32}
theorem cn_FM {fs : List (Nat × Nat)} {as : List Nat} {w1 : pm_W} (h : FM fs as w w1) (q : (23, 4) ∉ fs) : cn w1 = cn w := by unfold cn; rw [FM_i h q]
theorem cb_FM {fs : List (Nat × Nat)} {as : List Nat} {w1 : pm_W} (h : FM fs as w w1) (q : (23, 3) ∉ fs) (qa : gR w 23 3 ∉ as) : cb w1 = cb w := by
  funext i
  unfold cb
  rw [FM_r h q, FM_a h qa]
theorem isDg_b {c : Int32} (h : isDg c = true) : 48 ≤ c.toInt ∧ c.toInt ≤ 57 := by
  unfold isDg at h
  rw [Bool.and_eq_true] at h
  exact ⟨of_decide_eq_true h.1, of_decide_eq_true h.2⟩
theorem isLt_b {c : Int32} (h : isLt c = true) : 97 ≤ c.toInt ∧ c.toInt ≤ 122 := by
  unfold isLt at h
  rw [Bool.and_eq_true] at h
  exact ⟨of_decide_eq_true h.1, of_decide_eq_true h.2⟩
theorem two32 : (2 : Int32).toInt = 2 := by decide +kernel
/-- digits: s the place, t how many are behind -/
theorem F28_5 : ∀ (k : Nat) (w : pm_W) (s t : Nat), SK w → (gI w 23 7).toInt = s → (gI w 23 5).toInt = (s + t : Nat) → (gI w 23 8).toInt = dgV (cb w) s t → (∀ j, j < t → isDg (cb w (s + j)) = true) → PS X k 28 5 [.ref 23] [] w r w' → r = none ∧ FM [(23, 5), (23, 6), (23, 8)] [] w w' ∧ (gI w' 23 5).toInt = (tkE isDg (cb w) (cn w) (s + t) : Nat) ∧ gI w' 23 6 = (if tkE isDg (cb w) (cn w) (s + t) ≤ s + 2 then 2 else 4) ∧ (gI w' 23 8).toInt = dgV (cb w) s (tkE isDg (cb w) (cn w) (s + t) - s) := by
  intro k
  induction k with
  | zero => intro w s t hS hp ha hv hd h; exact (PS_0 h).elim
  | succ k ih =>
    intro w s t hS hp ha hv hd h
    have h := U28_5 hS h
    have hlo := zi_hi (gI w 23 5)
    have hsub : (gI w 23 5 - gI w 23 7).toInt = t := by
      rw [zi_sub rfl rfl (by omega) (by omega)]
      omega
    -- the end of the digits
    have fin : tkE isDg (cb w) (cn w) (s + t) = s + t → (if (gI w 23 5) - (gI w 23 7) ≤ 2 then (∀ w1 : pm_W, w1 = sI w 23 6 2 → (r = none ∧ w' = w1)) else (∀ w2 : pm_W, w2 = sI w 23 6 4 → (r = none ∧ w' = w2))) → r = none ∧ FM [(23, 5), (23, 6), (23, 8)] [] w w' ∧ (gI w' 23 5).toInt = (tkE isDg (cb w) (cn w) (s + t) : Nat) ∧ gI w' 23 6 = (if tkE isDg (cb w) (cn w) (s + t) ≤ s + 2 then 2 else 4) ∧ (gI w' 23 8).toInt = dgV (cb w) s (tkE isDg (cb w) (cn w) (s + t) - s) := by
      intro ee q
      rw [ee, show s + t - s = t by omega]
      by_cases c : (gI w 23 5) - (gI w 23 7) ≤ 2
      · rw [if_pos c] at q
        obtain ⟨e1, e2⟩ := q _ rfl
        rw [Int32.le_iff_toInt_le, hsub, two32] at c
        subst e2
        refine ⟨e1, FM_sI hS (by decide), ?_, ?_, ?_⟩
        · rw [gI_sI_ne (by decide)]; exact ha
        · rw [gI_sI (SK_isF hS (by decide +kernel)), if_pos (by omega)]
        · rw [gI_sI_ne (by decide)]; exact hv
      · rw [if_neg c] at q
        obtain ⟨e1, e2⟩ := q _ rfl
        rw [Int32.le_iff_toInt_le, hsub, two32] at c
        subst e2
        refine ⟨e1, FM_sI hS (by decide), ?_, ?_, ?_⟩
        · rw [gI_sI_ne (by decide)]; exact ha
        · rw [gI_sI (SK_isF hS (by decide +kernel)), if_neg (by omega)]
        · rw [gI_sI_ne (by decide)]; exact hv
    have ecat : (gI w 23 5).toInt.toNat = s + t := by omega
    by_cases c1 : gI w 23 4 ≤ gI w 23 5
    · rw [if_pos c1] at h
      rw [Int32.le_iff_toInt_le] at c1
      exact fin (spn_n (by unfold cn; omega)) h
    · rw [if_neg c1] at h
      rw [Int32.le_iff_toInt_le] at c1
      have h := use_p hS h (fun _ _ q => F24 hS q)
      have h := use_p hS h (fun _ _ q => F27 hS q)
      rw [bAt_in (by omega) (by omega), ecat] at h
      by_cases c2 : b2i (isDg (cb w (s + t))) = 0
      · rw [if_pos c2] at h
        rw [b2i_0] at c2
        exact fin (spn_f c2) h
      · rw [if_neg c2] at h
        rw [b2i_0, Bool.not_eq_false] at c2
        have hg := isDg_b c2
        have est : tkE isDg (cb w) (cn w) (s + t) = tkE isDg (cb w) (cn w) (s + (t + 1)) := spn_t (n := cn w) (i := s + t) (by unfold cn; omega) c2
        -- what a step leaves
        have step : ∀ w12 w11 : pm_W, ∀ v : Int32, w11 = sI w 23 8 v → w12 = sI w11 23 5 ((gI w11 23 5) + 1) → v.toInt = dgV (cb w) s (t + 1) → PS X k 28 5 [.ref 23] [] w12 r w' → r = none ∧ FM [(23, 5), (23, 6), (23, 8)] [] w w' ∧ (gI w' 23 5).toInt = (tkE isDg (cb w) (cn w) (s + t) : Nat) ∧ gI w' 23 6 = (if tkE isDg (cb w) (cn w) (s + t) ≤ s + 2 then 2 else 4) ∧ (gI w' 23 8).toInt = dgV (cb w) s (tkE isDg (cb w) (cn w) (s + t) - s) := by
          intro w12 w11 v e11 e12 ev q
          have hS11 : SK w11 := by rw [e11]; exact SK_sI hS
          have f11 : FM [(23, 5), (23, 6), (23, 8)] [] w w11 := by rw [e11]; exact FM_sI hS (by decide)
          have f12 : FM [(23, 5), (23, 6), (23, 8)] [] w11 w12 := by rw [e12]; exact FM_sI hS11 (by decide)
          have a11 : gI w11 23 5 = gI w 23 5 := by rw [e11]; exact gI_sI_ne (by decide)
          have v12 : (gI w12 23 8).toInt = dgV (cb w) s (t + 1) := by
            rw [e12, gI_sI_ne (by decide), e11, gI_sI (SK_isF hS (by decide +kernel))]
            exact ev
          have a12 : (gI w12 23 5).toInt = (s + (t + 1) : Nat) := by
            rw [e12, gI_sI (SK_isF hS11 (by decide +kernel)), a11, zi_inc (n := (gI w 23 4).toInt) (by omega) (zi_hi _)]
            omega
          have ff := FM_trans f11 f12
          have b12 : cb w12 = cb w := cb_FM ff (by decide) (by intro z; cases z)
          have n12 : cn w12 = cn w := cn_FM ff (by decide)
          have p12 : (gI w12 23 7).toInt = s := by rw [FM_i ff (by decide)]; exact hp
          obtain ⟨g1, g2, g3, g4, g5⟩ := ih w12 s (t + 1) ff.2.2.2 p12 a12 (by rw [b12]; exact v12) (by
            intro j hj
            rw [b12]
            by_cases e : j = t
            · rw [e]; exact c2
            · exact hd j (by omega)) q
          rw [b12, n12] at g3 g4 g5
          rw [est]
          exact ⟨g1, FM_trans ff g2, g3, g4, g5⟩
        by_cases c3 : 2 ≤ (gI w 23 5) - (gI w 23 7)
        · rw [if_pos c3] at h
          rw [Int32.le_iff_toInt_le, hsub, two32] at c3
          refine step _ _ _ rfl rfl ?_ (h _ rfl _ rfl)
          rw [hv]
          unfold dgV
          rw [if_neg (by omega), if_neg (by omega), if_neg (by omega), if_neg (by omega)]
        · rw [if_neg c3] at h
          rw [Int32.le_iff_toInt_le, hsub, two32] at c3
          have h := use_p hS h (fun _ _ q => F24 hS q)
          rw [bAt_in (by omega) (by omega), ecat] at h
          refine step _ _ _ rfl rfl ?_ (h _ rfl _ rfl)
          have t10 : (10 : Int32).toInt = 10 := by decide +kernel
          have t48 : (48 : Int32).toInt = 48 := by decide +kernel
          have hvb : (gI w 23 8).toInt = (if t = 0 then 0 else (cb w s).toInt - 48) := by
            rw [hv]
            unfold dgV
            by_cases e : t = 0
            · rw [if_pos e, if_pos e]
            · rw [if_neg e, if_neg e, if_pos (by omega)]
          have hb0 : 0 ≤ (gI w 23 8).toInt ∧ (gI w 23 8).toInt ≤ 9 := by
            rw [hvb]
            by_cases e : t = 0
            · rw [if_pos e]; omega
            · rw [if_neg e]
              have := isDg_b (hd 0 (by omega))
              rw [Nat.add_zero] at this
              omega
          rw [zi_sub (zi_add (zi_mul rfl t10 (by omega) (by omega)) rfl (by omega) (by omega)) t48 (by omega) (by omega), hvb]
          unfold dgV
          by_cases e : t = 0
          · subst e
            rw [if_pos rfl, if_neg (by omega), if_pos rfl, Nat.add_zero]
            omega
          · have e1 : t = 1 := by omega
            subst e1
            rw [if_neg (by omega), if_neg (by omega), if_neg (by omega)]
            omega
/-- the token behind: kind, place, end, number -/
def TKc (w w' : pm_W) : Prop := gI w' 23 6 = Int32.ofNat (tkK (cb w) (cn w) (cat w)) ∧ (gI w' 23 7).toInt = (tkS (cb w) (cn w) (cat w) : Nat) ∧ (gI w' 23 5).toInt = (tkN (cb w) (cn w) (cat w) : Nat) ∧ (tkK (cb w) (cn w) (cat w) = 2 → (gI w' 23 8).toInt = tkV (cb w) (cn w) (cat w))
theorem F23 (hS : SK w) (h0 : 0 ≤ (gI w 23 5).toInt) (h : PS X k 23 0 [.ref 23, pm_dead] [] w r w') : r = none ∧ FM [(23, 5), (23, 6), (23, 7), (23, 8)] [] w w' ∧ TKc w w' := by
  obtain ⟨k1, w1, f1, a1, h⟩ := F23_0 _ _ hS h0 h
  cases k1 with
  | zero => exact (PS_0 h).elim
  | succ k1 =>
    have hS1 := f1.2.2.2
    have h := U23_38 hS1 h _ rfl
    obtain ⟨w2, e2⟩ : ∃ w2, w2 = sI w1 23 7 (gI w1 23 5) := ⟨_, rfl⟩
    rw [← e2] at h
    have hS2 : SK w2 := by rw [e2]; exact SK_sI hS1
    have f2 : FM [(23, 5), (23, 6), (23, 7), (23, 8)] [] w w2 := FM_trans (FM_mono f1 (by decide) (by decide)) (by rw [e2]; exact FM_sI hS1 (by decide))
    have a2 : gI w2 23 5 = gI w1 23 5 := by rw [e2]; exact gI_sI_ne (by decide)
    have p2 : gI w2 23 7 = gI w1 23 5 := by rw [e2]; exact gI_sI (SK_isF hS1 (by decide +kernel))
    have n2 : cn w2 = cn w := cn_FM f2 (by decide)
    have n2' : gI w2 23 4 = gI w 23 4 := FM_i f2 (by decide)
    have b2 : cb w2 = cb w := cb_FM f2 (by decide) (by intro z; cases z)
    obtain ⟨s, es⟩ : ∃ s, s = tkS (cb w) (cn w) (cat w) := ⟨_, rfl⟩
    rw [← es] at a1
    have fin : ∀ (w5 : pm_W) (x : Int32) (j : Nat), SK w5 → PS X j 23 163 [.ref 23, .int x] [] w5 r w' → r = none ∧ w' = w5 := by
      intro w5 x j hS5 q
      cases j with
      | zero => exact (PS_0 q).elim
      | succ j => exact U23_163 hS5 q
    unfold TKc
    rw [← es]
    unfold tkK tkN tkV
    rw [← es]
    have h := use_p hS2 h (fun _ _ q => F24 hS2 q)
    by_cases c1 : gI w2 23 5 < gI w2 23 4
    · rw [if_pos c1] at h
      rw [Int32.lt_iff_toInt_lt, a2, n2', a1] at c1
      rw [bAt_in (by rw [a2, a1]; omega) (by rw [a2, a1, n2']; exact c1), b2, a2, a1, show ((s : Int)).toNat = s from Int.toNat_natCast s] at h
      rw [if_neg (show ¬ cn w ≤ s by unfold cn; omega), if_neg (show ¬ cn w ≤ s by unfold cn; omega)]
      have h := use_p hS2 h (fun _ _ q => F26 hS2 q)
      by_cases c2 : b2i (isLt (cb w s)) = 0
      · rw [if_pos c2] at h
        rw [b2i_0] at c2
        rw [c2]
        simp only [Bool.false_eq_true, if_false]
        have h := use_p hS2 h (fun _ _ q => F27 hS2 q)
        by_cases c3 : b2i (isDg (cb w s)) = 0
        · rw [if_pos c3] at h
          rw [b2i_0] at c3
          rw [c3]
          simp only [Bool.false_eq_true, if_false]
          have one : ∀ (w3 w4 : pm_W) (v : Int32), w3 = sI w2 23 6 v → w4 = sI w3 23 5 ((gI w3 23 5) + 1) → FM [(23, 5), (23, 6), (23, 7), (23, 8)] [] w w4 ∧ gI w4 23 6 = v ∧ (gI w4 23 7).toInt = s ∧ (gI w4 23 5).toInt = (s + 1 : Nat) := by
            intro w3 w4 v e3 e4
            have hS3 : SK w3 := by rw [e3]; exact SK_sI hS2
            refine ⟨FM_trans f2 (FM_trans (w1 := w3) (by rw [e3]; exact FM_sI hS2 (by decide)) (by rw [e4]; exact FM_sI hS3 (by decide))), ?_, ?_, ?_⟩
            · rw [e4, gI_sI_ne (by decide), e3]
              exact gI_sI (SK_isF hS2 (by decide +kernel))
            · rw [e4, gI_sI_ne (by decide), e3, gI_sI_ne (by decide), p2]
              exact a1
            · have q : gI w3 23 5 = gI w1 23 5 := by rw [e3, gI_sI_ne (by decide)]; exact a2
              rw [e4, gI_sI (SK_isF hS3 (by decide +kernel)), q, zi_inc (n := (gI w 23 4).toInt) (by omega) (zi_hi _)]
              omega
          by_cases c4 : cb w s = 59
          · rw [if_pos c4] at h
            obtain ⟨z1, z2⟩ := fin _ _ _ (SK_sI (SK_sI hS2)) (h _ rfl _ rfl)
            obtain ⟨q1, q2, q3, q4⟩ := one _ _ _ rfl rfl
            rw [z2, if_pos c4]
            exact ⟨z1, q1, q2, q3, q4, fun z => absurd z (by decide)⟩
          · rw [if_neg c4] at h
            obtain ⟨z1, z2⟩ := fin _ _ _ (SK_sI (SK_sI hS2)) (h _ rfl _ rfl)
            obtain ⟨q1, q2, q3, q4⟩ := one _ _ _ rfl rfl
            rw [z2, if_neg c4]
            exact ⟨z1, q1, q2, q3, q4, fun z => absurd z (by decide)⟩
        · rw [if_neg c3] at h
          rw [b2i_0, Bool.not_eq_false] at c3
          rw [c3]
          simp only [if_true]
          obtain ⟨w3, hS3, hD, h⟩ := use_v (D := fun w3 => FM [(23, 5), (23, 6), (23, 8)] [] (sI w2 23 8 0) w3 ∧ (gI w3 23 5).toInt = (tkE isDg (cb w) (cn w) s : Nat) ∧ gI w3 23 6 = (if tkE isDg (cb w) (cn w) s ≤ s + 2 then 2 else 4) ∧ (gI w3 23 8).toInt = dgV (cb w) s (tkE isDg (cb w) (cn w) s - s)) h (by
            intro r1 w3 q
            cases k1 with
            | zero => exact (PS_0 q).elim
            | succ k1 =>
              have q := U28_0 hS2 q _ rfl
              obtain ⟨w9, e9⟩ : ∃ w9, w9 = sI w2 23 8 0 := ⟨_, rfl⟩
              rw [← e9] at q ⊢
              have hS9 : SK w9 := by rw [e9]; exact SK_sI hS2
              have f9 : FM [(23, 5), (23, 6), (23, 7), (23, 8)] [] w w9 := FM_trans f2 (by rw [e9]; exact FM_sI hS2 (by decide))
              have b9 : cb w9 = cb w := cb_FM f9 (by decide) (by intro z; cases z)
              have n9 : cn w9 = cn w := cn_FM f9 (by decide)
              have q := F28_5 _ _ s 0 hS9 (by rw [e9, gI_sI_ne (by decide), p2]; exact a1) (by rw [e9, gI_sI_ne (by decide), a2]; exact a1) (by rw [e9, gI_sI (SK_isF hS2 (by decide +kernel))]; rfl) (fun j hj => absurd hj (Nat.not_lt_zero j)) q
              rw [b9, n9, Nat.add_zero] at q
              exact ⟨q.1, q.2.1.2.2.2, q.2⟩)
          obtain ⟨q1, q2, q3, q4⟩ := hD
          obtain ⟨z1, z2⟩ := fin _ _ _ hS3 h
          have f3 : FM [(23, 5), (23, 6), (23, 7), (23, 8)] [] w w3 := FM_trans f2 (FM_trans (FM_sI hS2 (by decide)) (FM_mono q1 (by decide) (by decide)))
          rw [z2]
          refine ⟨z1, f3, ?_, ?_, q2, fun _ => q4⟩
          · rw [q3]
            by_cases c : tkE isDg (cb w) (cn w) s ≤ s + 2
            · rw [if_pos c, if_pos c]; rfl
            · rw [if_neg c, if_neg c]; rfl
          · rw [FM_i q1 (by decide), gI_sI_ne (by decide), p2]
            exact a1
      · rw [if_neg c2] at h
        rw [b2i_0, Bool.not_eq_false] at c2
        rw [c2]
        simp only [if_true]
        have h := h _ rfl
        obtain ⟨w3, e3⟩ : ∃ w3, w3 = sI w2 23 6 1 := ⟨_, rfl⟩
        rw [← e3] at h
        have hS3 : SK w3 := by rw [e3]; exact SK_sI hS2
        have f3 : FM [(23, 5), (23, 6), (23, 7), (23, 8)] [] w w3 := FM_trans f2 (by rw [e3]; exact FM_sI hS2 (by decide))
        have a3 : gI w3 23 5 = gI w1 23 5 := by rw [e3, gI_sI_ne (by decide)]; exact a2
        have q := F23_86 _ _ _ hS3 (by rw [a3, a1]; omega) h
        have b3 : cb w3 = cb w := cb_FM f3 (by decide) (by intro z; cases z)
        have n3 : cn w3 = cn w := cn_FM f3 (by decide)
        have ec : cat w3 = s := by unfold cat; rw [a3, a1]; omega
        rw [b3, n3, ec] at q
        obtain ⟨q1, q2, q3⟩ := q
        refine ⟨q1, FM_trans f3 (FM_mono q2 (by decide) (by decide)), ?_, ?_, q3, fun z => absurd z (by decide)⟩
        · rw [FM_i q2 (by decide), e3]
          exact gI_sI (SK_isF hS2 (by decide +kernel))
        · rw [FM_i q2 (by decide), e3, gI_sI_ne (by decide), p2]
          exact a1
    · rw [if_neg c1] at h
      rw [Int32.lt_iff_toInt_lt, a2, n2', a1] at c1
      rw [if_pos (show cn w ≤ s by unfold cn; omega), if_pos (show cn w ≤ s by unfold cn; omega)]
      obtain ⟨z1, z2⟩ := fin _ _ _ (SK_sI hS2) (h _ rfl)
      rw [z2]
      refine ⟨z1, FM_trans f2 (FM_sI hS2 (by decide)), ?_, ?_, ?_, fun z => absurd z (by decide)⟩
      · exact gI_sI (SK_isF hS2 (by decide +kernel))
      · rw [gI_sI_ne (by decide), p2]; exact a1
      · rw [gI_sI_ne (by decide), a2]; exact a1
end FC
