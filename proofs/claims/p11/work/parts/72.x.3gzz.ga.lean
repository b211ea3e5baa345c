section GA
variable {X : pm_X} {k : Nat} {w0 w w' : pm_W} {r : Option Value} {p p1 p2 p3 : Int32} {a b : Nat}
/-- the cells of Reader's village, piece by piece -/
theorem vcl_pc (hS : SK w) (hS' : SK w') {c0 c1 c2 : Int32} {dw df dr da : Nat → Int32} (e0 : gI w' 24 0 = c0) (e1 : gI w' 24 2 = c1) (e2 : gI w' 24 1 = c2) (hw : ∀ q, q < 81 → (gA w' 25).getD q 0 = dw q) (hf : ∀ q, q < 9 → (gA w' 26).getD q 0 = df q) (hr : ∀ q, q < 9 → (gA w' 27).getD q 0 = dr q) (ha : ∀ q, q < 28 → (gA w' 28).getD q 0 = da q) (k : Nat) : vcl w' 24 k = if k = 0 then c0 else if k = 1 then c1 else if k = 2 then c2 else if k < 84 then dw (k - 3) else if k < 93 then df (k - 84) else if k < 102 then dr (k - 93) else if k < 130 then da (k - 102) else 0 := by
  rw [vcl_24 hS']
  by_cases q0 : k = 0
  · rw [if_pos q0, if_pos q0]; exact e0
  rw [if_neg q0, if_neg q0]
  by_cases q1 : k = 1
  · rw [if_pos q1, if_pos q1]; exact e1
  rw [if_neg q1, if_neg q1]
  by_cases q2 : k = 2
  · rw [if_pos q2, if_pos q2]; exact e2
  rw [if_neg q2, if_neg q2]
  by_cases q3 : k < 84
  · rw [if_pos q3, if_pos q3]; exact hw _ (by omega)
  rw [if_neg q3, if_neg q3]
  by_cases q4 : k < 93
  · rw [if_pos q4, if_pos q4]; exact hf _ (by omega)
  rw [if_neg q4, if_neg q4]
  by_cases q5 : k < 102
  · rw [if_pos q5, if_pos q5]; exact hr _ (by omega)
  rw [if_neg q5, if_neg q5]
  by_cases q6 : k < 130
  · rw [if_pos q6, if_pos q6]; exact ha _ (by omega)
  rw [if_neg q6, if_neg q6]
def HL (w : pm_W) : Prop := (gA w 25).length = 81 ∧ (gA w 26).length = 9 ∧ (gA w 27).length = 9 ∧ (gA w 28).length = 28 ∧ (gA w 30).length = 270 ∧ 0 ≤ (gI w 24 2).toInt ∧ (gI w 24 2).toInt ≤ 7 ∧ 0 ≤ (gI w 29 0).toInt ∧ (gI w 29 0).toInt ≤ 30
/-- numbers that people may have -/
def goodN (v : Nat) (ns : Nat → Int32) : Prop := (v = 7 ∨ v = 12 → 0 ≤ (ns 0).toInt ∧ (ns 0).toInt ≤ 8 ∧ 0 ≤ (ns 1).toInt ∧ (ns 1).toInt ≤ 8) ∧ (v = 9 ∨ v = 10 → 0 ≤ (ns 0).toInt ∧ (ns 0).toInt ≤ 8)
def fl49 : List (Nat × Nat) := [(23, 9), (24, 0), (24, 1), (24, 2), (29, 0)]
def al49 : List Nat := [25, 26, 27, 28, 30]
/-- what the row's parts are behind a further act -/
def rowN (c : Nat → Int32) (b0 : Nat) (p1 : Int32) (m : Nat) (ns : Nat → Int32) (q : Nat) : Int32 := if q = 9 * b0 then p1 else if 9 * b0 + 1 ≤ q ∧ q < 9 * b0 + 9 then (if q < 9 * b0 + 1 + m then ns (q - (9 * b0 + 1)) else -1) else c q
theorem F49 {v m : Nat} (hS : SK w) (hH : HL w) (hv : p1.toInt = v) (h12 : v ≤ 12) (hm : p2.toInt = m) (h : PS X k 49 0 [.ref 23, .int p1, .int p2] [] w r w') : r = none ∧ FM fl49 al49 w w' ∧ (v ≤ 5 → (gI w 29 0).toInt < 30 → FM [(29, 0)] [30] w w' ∧ gI w' 29 0 = gI w 29 0 + 1 ∧ (gA w' 30).length = 270 ∧ ∀ q, (gA w' 30).getD q 0 = rowN (fun q => (gA w 30).getD q 0) (gI w 29 0).toInt.toNat p1 m (cns w) q) ∧ (6 ≤ v → (v = 12 → (gI w 24 2).toInt < 7) → goodN v (cns w) → FM [(23, 9), (24, 0), (24, 1), (24, 2)] [25, 26, 27, 28] w w' ∧ HL w' ∧ (∀ q, vcl w' 24 q = kS v (vcl w 24) (cns w) q) ∧ (gI w' 23 9).toInt = gS v (gI w 23 9).toInt (cns w)) := by
  cases k with
  | zero => exact (PS_0 h).elim
  | succ k =>
    obtain ⟨l25, l26, l27, l28, l30, w0, w7, a0, a30⟩ := hH
    have h := U49_0 hS h
    have h := use_p hS h (fun _ _ q => F45 hS q)
    rw [hv] at h
    by_cases c5 : v ≤ 5
    · rw [decide_eq_true (show (v : Int) ≤ 5 by omega), if_neg (by decide +kernel)] at h
      obtain ⟨r1, w1, q1, q2⟩ := h
      by_cases c30 : (gI w 29 0).toInt < 30
      · obtain ⟨z1, z2, z3, z4, z5⟩ := F50 (v := v) hS l30 hm a0 (by omega) q1
        have q := q2 z1 z2.2.2.2
        rw [q.2]
        exact ⟨q.1, FM_mono z2 (by decide) (by decide), fun _ _ => ⟨z2, z3, z4, z5⟩, fun z => absurd z (by omega)⟩
      · cases k with
        | zero => exact (PS_0 q1).elim
        | succ k =>
          have z := U50_0 hS q1
          have t30 : (30 : Int32).toInt = 30 := by decide +kernel
          rw [if_neg (by rw [Int32.lt_iff_toInt_lt, t30]; exact c30)] at z
          have q := q2 z.1 (by rw [z.2]; exact hS)
          rw [q.2, z.2]
          exact ⟨q.1, FM_refl hS, fun _ y => absurd y c30, fun y => absurd y (by omega)⟩
    · rw [decide_eq_false (show ¬ (v : Int) ≤ 5 by omega), if_pos (by decide +kernel)] at h
      have g : ∀ (q : Int32) (n : Nat), q.toInt = n → (p1 = q ↔ v = n) := by
        intro q n hq
        rw [← Int32.toInt_inj, hv, hq]
        omega
      have f283 : ∀ (w4 : pm_W), SK w4 → PS X k 49 283 [.ref 23, .int p1, .int p2] [] w4 r w' → r = none ∧ w' = w4 := by
        intro w4 hS4 z
        cases k with
        | zero => exact (PS_0 z).elim
        | succ k => exact U49_283 hS4 z
      have n0 : ∀ u : pm_W, aG u 31 0 = cns u 0 := fun u => aG_n (m := 0) z32
      have n1 : ∀ u : pm_W, aG u 31 1 = cns u 1 := fun u => aG_n (m := 1) o32
      have n2 : ∀ u : pm_W, aG u 31 2 = cns u 2 := fun u => aG_n (m := 2) two32
      rw [n0, n1] at h
      -- what is to be shown, of a world
      have fin : ∀ (w4 : pm_W) (fs : List (Nat × Nat)) (as : List Nat), r = none ∧ w' = w4 → FM fs as w w4 → (∀ q ∈ fs, q ∈ [(23, 9), (24, 0), (24, 1), (24, 2)]) → (∀ q ∈ as, q ∈ [25, 26, 27, 28]) → ((v = 12 → (gI w 24 2).toInt < 7) → goodN v (cns w) → HL w4 ∧ (∀ q, vcl w4 24 q = kS v (vcl w 24) (cns w) q) ∧ (gI w4 23 9).toInt = gS v (gI w 23 9).toInt (cns w)) → r = none ∧ FM fl49 al49 w w' ∧ (v ≤ 5 → (gI w 29 0).toInt < 30 → FM [(29, 0)] [30] w w' ∧ gI w' 29 0 = gI w 29 0 + 1 ∧ (gA w' 30).length = 270 ∧ ∀ q, (gA w' 30).getD q 0 = rowN (fun q => (gA w 30).getD q 0) (gI w 29 0).toInt.toNat p1 m (cns w) q) ∧ (6 ≤ v → (v = 12 → (gI w 24 2).toInt < 7) → goodN v (cns w) → FM [(23, 9), (24, 0), (24, 1), (24, 2)] [25, 26, 27, 28] w w' ∧ HL w' ∧ (∀ q, vcl w' 24 q = kS v (vcl w 24) (cns w) q) ∧ (gI w' 23 9).toInt = gS v (gI w 23 9).toInt (cns w)) := by
        rintro w4 fs as ⟨z1, z2⟩ hF hf ha hx
        have hF2 : FM [(23, 9), (24, 0), (24, 1), (24, 2)] [25, 26, 27, 28] w w4 := FM_mono hF hf ha
        rw [z2]
        exact ⟨z1, FM_mono hF2 (by decide) (by decide), fun y => absurd y (by omega), fun _ y1 y2 => ⟨hF2, hx y1 y2⟩⟩
      by_cases c6 : p1 = 6
      · rw [if_pos c6] at h
        have hv6 := (g 6 6 (by decide +kernel)).mp c6
        subst hv6
        have h := h.2 _ rfl
        have hS4 : SK (sI w 24 0 (cns w 0)) := SK_sI hS
        refine fin _ [(24, 0)] [] (f283 _ hS4 h) (FM_sI hS (by decide)) (by decide) (by decide) (fun _ _ => ⟨?_, fun q => ?_, ?_⟩)
        · exact ⟨by rw [gA_sI]; exact l25, by rw [gA_sI]; exact l26, by rw [gA_sI]; exact l27, by rw [gA_sI]; exact l28, by rw [gA_sI]; exact l30, by rw [gI_sI_ne (by decide)]; exact w0, by rw [gI_sI_ne (by decide)]; exact w7, by rw [gI_sI_ne (by decide)]; exact a0, by rw [gI_sI_ne (by decide)]; exact a30⟩
        · rw [vcl_pc hS hS4 (c0 := cns w 0) (c1 := gI w 24 2) (c2 := gI w 24 1) (dw := fun q => (gA w 25).getD q 0) (df := fun q => (gA w 26).getD q 0) (dr := fun q => (gA w 27).getD q 0) (da := fun q => (gA w 28).getD q 0) (gI_sI (SK_isF hS (by decide +kernel))) (gI_sI_ne (by decide)) (gI_sI_ne (by decide)) (fun q _ => by rw [gA_sI]) (fun q _ => by rw [gA_sI]) (fun q _ => by rw [gA_sI]) (fun q _ => by rw [gA_sI])]
          show _ = if q = 0 then cns w 0 else vcl w 24 q
          by_cases q0 : q = 0
          · rw [if_pos q0, if_pos q0]
          · rw [if_neg q0, if_neg q0, vcl_24 hS, if_neg q0]
        · rw [gI_sI_ne (by decide)]
          rfl
      rw [if_neg c6] at h
      by_cases c7 : p1 = 7
      · rw [if_pos c7] at h
        have hv7 := (g 7 7 (by decide +kernel)).mp c7
        subst hv7
        obtain ⟨_, _, h⟩ := h
        have h := h _ rfl
        obtain ⟨w5, e5⟩ : ∃ w5, w5 = sI w 23 9 (if gI w 23 9 < (if cns w 0 < cns w 1 then cns w 1 else cns w 0) then (if cns w 0 < cns w 1 then cns w 1 else cns w 0) else gI w 23 9) := ⟨_, rfl⟩
        rw [← e5] at h
        have hS5 : SK w5 := by rw [e5]; exact SK_sI hS
        have f5 : FM [(23, 9)] [25] w w5 := by rw [e5]; exact FM_sI hS (by decide)
        have a5 : ∀ b, gA w5 b = gA w b := fun b => by rw [e5]; exact gA_sI
        have cn5 : ∀ t, cns w5 t = cns w t := fun t => by unfold cns; rw [a5]
        obtain ⟨_, _, h⟩ := h
        have h := use_p hS5 h (fun _ _ q => F52 hS5 q)
        obtain ⟨_, hI, h⟩ := h
        have h := h _ rfl
        rw [n0, n1, cn5, cn5] at hI
        rw [n0, n1, n2, cn5, cn5, cn5] at h
        obtain ⟨w9, e9⟩ : ∃ w9, w9 = aS w5 25 (cns w 0 * 9 + cns w 1) (cns w 2) := ⟨_, rfl⟩
        rw [← e9] at h
        have hS9 : SK w9 := by rw [e9]; exact SK_aS hS5
        have f9 : FM [(23, 9)] [25] w w9 := FM_trans f5 (by rw [e9]; exact FM_aS hS5 (by decide))
        refine fin _ [(23, 9)] [25] (f283 _ hS9 h) f9 (by decide) (by decide) (fun _ hg => ?_)
        obtain ⟨g0, g0', g1, g1'⟩ := hg.1 (Or.inl rfl)
        have t9 : (9 : Int32).toInt = 9 := by decide +kernel
        have ei : (cns w 0 * 9 + cns w 1).toInt = (9 * (cns w 0).toInt.toNat + (cns w 1).toInt.toNat : Nat) := by
          rw [zi_add (zi_mul rfl t9 (by omega) (by omega)) rfl (by omega) (by omega)]
          omega
        have g25 : gA w9 25 = (gA w 25).set (9 * (cns w 0).toInt.toNat + (cns w 1).toInt.toNat) (cns w 2) := by rw [e9, gA_aS (aI_isA hI), i_nat ei, a5]
        have li : 9 * (cns w 0).toInt.toNat + (cns w 1).toInt.toNat < 81 := by omega
        have i9 : ∀ a m, (a, m) ≠ (23, 9) → gI w9 a m = gI w a m := fun a m hne => FM_i f9 (by intro z; exact hne (List.mem_singleton.mp z))
        refine ⟨⟨by rw [g25, List.length_set]; exact l25, by rw [FM_a f9 (by decide)]; exact l26, by rw [FM_a f9 (by decide)]; exact l27, by rw [FM_a f9 (by decide)]; exact l28, by rw [FM_a f9 (by decide)]; exact l30, by rw [i9 _ _ (by decide)]; exact w0, by rw [i9 _ _ (by decide)]; exact w7, by rw [i9 _ _ (by decide)]; exact a0, by rw [i9 _ _ (by decide)]; exact a30⟩, fun q => ?_, ?_⟩
        · rw [vcl_pc hS hS9 (c0 := gI w 24 0) (c1 := gI w 24 2) (c2 := gI w 24 1) (dw := fun q => if q = 9 * (cns w 0).toInt.toNat + (cns w 1).toInt.toNat then cns w 2 else (gA w 25).getD q 0) (df := fun q => (gA w 26).getD q 0) (dr := fun q => (gA w 27).getD q 0) (da := fun q => (gA w 28).getD q 0) (i9 _ _ (by decide)) (i9 _ _ (by decide)) (i9 _ _ (by decide)) (fun q hq => by rw [g25, getD_set (by omega)]) (fun q _ => by rw [FM_a f9 (by decide)]) (fun q _ => by rw [FM_a f9 (by decide)]) (fun q _ => by rw [FM_a f9 (by decide)])]
          show _ = if q = 3 + (9 * (cns w 0).toInt.toNat + (cns w 1).toInt.toNat) then cns w 2 else vcl w 24 q
          by_cases e : q = 3 + (9 * (cns w 0).toInt.toNat + (cns w 1).toInt.toNat)
          · rw [if_pos e, if_neg (by omega), if_neg (by omega), if_neg (by omega), if_pos (by omega)]
            exact if_pos (by omega)
          · rw [if_neg e, vcl_24 hS]
            by_cases q0 : q = 0
            · rw [if_pos q0, if_pos q0]
            rw [if_neg q0, if_neg q0]
            by_cases q1 : q = 1
            · rw [if_pos q1, if_pos q1]
            rw [if_neg q1, if_neg q1]
            by_cases q2 : q = 2
            · rw [if_pos q2, if_pos q2]
            rw [if_neg q2, if_neg q2]
            by_cases q3 : q < 84
            · rw [if_pos q3, if_pos q3]
              exact if_neg (by omega)
            · rw [if_neg q3, if_neg q3]
        · rw [e9, gI_aS, e5, gI_sI (SK_isF hS (by decide +kernel)), mx32, mx32]
          rfl
      rw [if_neg c7] at h
      by_cases c8 : p1 = 8
      · rw [if_pos c8] at h
        have hv8 := (g 8 8 (by decide +kernel)).mp c8
        subst hv8
        obtain ⟨_, r1, w1, q1, q2⟩ := h
        cases k with
        | zero => exact (PS_0 q1).elim
        | succ k =>
          have z := (F53_2 _ w hS l25).1 0 0 _ z32 (by omega) (U53_0 hS q1)
          obtain ⟨z1, z2, z3, z4⟩ := z
          have h := q2 z1 z2.2.2.2
          refine fin _ [] [25] (f283 _ z2.2.2.2 h) z2 (by decide) (by decide) (fun _ _ => ⟨?_, fun q => ?_, ?_⟩)
          · exact ⟨z3, by rw [FM_a z2 (by decide)]; exact l26, by rw [FM_a z2 (by decide)]; exact l27, by rw [FM_a z2 (by decide)]; exact l28, by rw [FM_a z2 (by decide)]; exact l30, by rw [FM_i z2 (by decide)]; exact w0, by rw [FM_i z2 (by decide)]; exact w7, by rw [FM_i z2 (by decide)]; exact a0, by rw [FM_i z2 (by decide)]; exact a30⟩
          · rw [vcl_pc hS z2.2.2.2 (c0 := gI w 24 0) (c1 := gI w 24 2) (c2 := gI w 24 1) (dw := fun q => if q % 10 = 0 then 0 else cns w 0) (df := fun q => (gA w 26).getD q 0) (dr := fun q => (gA w 27).getD q 0) (da := fun q => (gA w 28).getD q 0) (FM_i z2 (by decide)) (FM_i z2 (by decide)) (FM_i z2 (by decide)) (fun q hq => by rw [z4 q hq, if_neg (by omega)]) (fun q _ => by rw [FM_a z2 (by decide)]) (fun q _ => by rw [FM_a z2 (by decide)]) (fun q _ => by rw [FM_a z2 (by decide)])]
            show _ = if 3 ≤ q ∧ q < 84 then (if (q - 3) % 10 = 0 then 0 else cns w 0) else vcl w 24 q
            by_cases e : 3 ≤ q ∧ q < 84
            · rw [if_pos e, if_neg (by omega), if_neg (by omega), if_neg (by omega), if_pos (by omega)]
            · rw [if_neg e, vcl_24 hS]
              by_cases q0 : q = 0
              · rw [if_pos q0, if_pos q0]
              rw [if_neg q0, if_neg q0]
              by_cases q1 : q = 1
              · rw [if_pos q1, if_pos q1]
              rw [if_neg q1, if_neg q1]
              by_cases q2 : q = 2
              · rw [if_pos q2, if_pos q2]
              have q3 : ¬ q < 84 := by omega
              rw [if_neg q2, if_neg q2, if_neg q3, if_neg q3]
          · rw [FM_i z2 (by decide)]
            rfl
      rw [if_neg c8] at h
      by_cases c9 : p1 = 9
      · rw [if_pos c9] at h
        have hv9 := (g 9 9 (by decide +kernel)).mp c9
        subst hv9
        obtain ⟨_, h⟩ := h
        have h := h _ rfl
        obtain ⟨w5, e5⟩ : ∃ w5, w5 = sI w 23 9 (if gI w 23 9 < cns w 0 then cns w 0 else gI w 23 9) := ⟨_, rfl⟩
        rw [← e5] at h
        have hS5 : SK w5 := by rw [e5]; exact SK_sI hS
        have f5 : FM [(23, 9)] [26] w w5 := by rw [e5]; exact FM_sI hS (by decide)
        have a5 : ∀ b, gA w5 b = gA w b := fun b => by rw [e5]; exact gA_sI
        have cn5 : ∀ t, cns w5 t = cns w t := fun t => by unfold cns; rw [a5]
        obtain ⟨_, _, hI, h⟩ := h
        have h := h _ rfl
        rw [n0, cn5] at hI
        rw [n0, n1, cn5, cn5] at h
        obtain ⟨w9, e9⟩ : ∃ w9, w9 = aS w5 26 (cns w 0) (cns w 1) := ⟨_, rfl⟩
        rw [← e9] at h
        have hS9 : SK w9 := by rw [e9]; exact SK_aS hS5
        have f9 : FM [(23, 9)] [26] w w9 := FM_trans f5 (by rw [e9]; exact FM_aS hS5 (by decide))
        refine fin _ [(23, 9)] [26] (f283 _ hS9 h) f9 (by decide) (by decide) (fun _ hg => ?_)
        obtain ⟨g0, g0'⟩ := hg.2 (Or.inl rfl)
        have ei : (cns w 0).toInt = ((cns w 0).toInt.toNat : Nat) := by omega
        have g26 : gA w9 26 = (gA w 26).set (cns w 0).toInt.toNat (cns w 1) := by rw [e9, gA_aS (aI_isA hI), i_nat ei, a5]
        have i9 : ∀ a m, (a, m) ≠ (23, 9) → gI w9 a m = gI w a m := fun a m hne => FM_i f9 (by intro z; exact hne (List.mem_singleton.mp z))
        refine ⟨⟨by rw [FM_a f9 (by decide)]; exact l25, by rw [g26, List.length_set]; exact l26, by rw [FM_a f9 (by decide)]; exact l27, by rw [FM_a f9 (by decide)]; exact l28, by rw [FM_a f9 (by decide)]; exact l30, by rw [i9 _ _ (by decide)]; exact w0, by rw [i9 _ _ (by decide)]; exact w7, by rw [i9 _ _ (by decide)]; exact a0, by rw [i9 _ _ (by decide)]; exact a30⟩, fun q => ?_, ?_⟩
        · rw [vcl_pc hS hS9 (c0 := gI w 24 0) (c1 := gI w 24 2) (c2 := gI w 24 1) (dw := fun q => (gA w 25).getD q 0) (df := fun q => if q = (cns w 0).toInt.toNat then cns w 1 else (gA w 26).getD q 0) (dr := fun q => (gA w 27).getD q 0) (da := fun q => (gA w 28).getD q 0) (i9 _ _ (by decide)) (i9 _ _ (by decide)) (i9 _ _ (by decide)) (fun q _ => by rw [FM_a f9 (by decide)]) (fun q hq => by rw [g26, getD_set (by omega)]) (fun q _ => by rw [FM_a f9 (by decide)]) (fun q _ => by rw [FM_a f9 (by decide)])]
          show _ = if q = 84 + (cns w 0).toInt.toNat then cns w 1 else vcl w 24 q
          by_cases e : q = 84 + (cns w 0).toInt.toNat
          · rw [if_pos e, if_neg (by omega), if_neg (by omega), if_neg (by omega), if_neg (by omega), if_pos (by omega)]
            exact if_pos (by omega)
          · rw [if_neg e, vcl_24 hS]
            by_cases q0 : q = 0
            · rw [if_pos q0, if_pos q0]
            rw [if_neg q0, if_neg q0]
            by_cases q1 : q = 1
            · rw [if_pos q1, if_pos q1]
            rw [if_neg q1, if_neg q1]
            by_cases q2 : q = 2
            · rw [if_pos q2, if_pos q2]
            rw [if_neg q2, if_neg q2]
            by_cases q3 : q < 84
            · rw [if_pos q3, if_pos q3]
            rw [if_neg q3, if_neg q3]
            by_cases q4 : q < 93
            · rw [if_pos q4, if_pos q4]
              exact if_neg (by omega)
            rw [if_neg q4, if_neg q4]
        · rw [e9, gI_aS, e5, gI_sI (SK_isF hS (by decide +kernel)), mx32]
          rfl
      rw [if_neg c9] at h
      by_cases c10 : p1 = 10
      · rw [if_pos c10] at h
        have hv10 := (g 10 10 (by decide +kernel)).mp c10
        subst hv10
        obtain ⟨_, h⟩ := h
        have h := h _ rfl
        obtain ⟨w5, e5⟩ : ∃ w5, w5 = sI w 23 9 (if gI w 23 9 < cns w 0 then cns w 0 else gI w 23 9) := ⟨_, rfl⟩
        rw [← e5] at h
        have hS5 : SK w5 := by rw [e5]; exact SK_sI hS
        have f5 : FM [(23, 9)] [27] w w5 := by rw [e5]; exact FM_sI hS (by decide)
        have a5 : ∀ b, gA w5 b = gA w b := fun b => by rw [e5]; exact gA_sI
        have cn5 : ∀ t, cns w5 t = cns w t := fun t => by unfold cns; rw [a5]
        obtain ⟨_, _, hI, h⟩ := h
        have h := h _ rfl
        rw [n0, cn5] at hI
        rw [n0, n1, cn5, cn5] at h
        obtain ⟨w9, e9⟩ : ∃ w9, w9 = aS w5 27 (cns w 0) (cns w 1) := ⟨_, rfl⟩
        rw [← e9] at h
        have hS9 : SK w9 := by rw [e9]; exact SK_aS hS5
        have f9 : FM [(23, 9)] [27] w w9 := FM_trans f5 (by rw [e9]; exact FM_aS hS5 (by decide))
        refine fin _ [(23, 9)] [27] (f283 _ hS9 h) f9 (by decide) (by decide) (fun _ hg => ?_)
        obtain ⟨g0, g0'⟩ := hg.2 (Or.inr rfl)
        have ei : (cns w 0).toInt = ((cns w 0).toInt.toNat : Nat) := by omega
        have g27 : gA w9 27 = (gA w 27).set (cns w 0).toInt.toNat (cns w 1) := by rw [e9, gA_aS (aI_isA hI), i_nat ei, a5]
        have i9 : ∀ a m, (a, m) ≠ (23, 9) → gI w9 a m = gI w a m := fun a m hne => FM_i f9 (by intro z; exact hne (List.mem_singleton.mp z))
        refine ⟨⟨by rw [FM_a f9 (by decide)]; exact l25, by rw [FM_a f9 (by decide)]; exact l26, by rw [g27, List.length_set]; exact l27, by rw [FM_a f9 (by decide)]; exact l28, by rw [FM_a f9 (by decide)]; exact l30, by rw [i9 _ _ (by decide)]; exact w0, by rw [i9 _ _ (by decide)]; exact w7, by rw [i9 _ _ (by decide)]; exact a0, by rw [i9 _ _ (by decide)]; exact a30⟩, fun q => ?_, ?_⟩
        · rw [vcl_pc hS hS9 (c0 := gI w 24 0) (c1 := gI w 24 2) (c2 := gI w 24 1) (dw := fun q => (gA w 25).getD q 0) (df := fun q => (gA w 26).getD q 0) (dr := fun q => if q = (cns w 0).toInt.toNat then cns w 1 else (gA w 27).getD q 0) (da := fun q => (gA w 28).getD q 0) (i9 _ _ (by decide)) (i9 _ _ (by decide)) (i9 _ _ (by decide)) (fun q _ => by rw [FM_a f9 (by decide)]) (fun q _ => by rw [FM_a f9 (by decide)]) (fun q hq => by rw [g27, getD_set (by omega)]) (fun q _ => by rw [FM_a f9 (by decide)])]
          show _ = if q = 93 + (cns w 0).toInt.toNat then cns w 1 else vcl w 24 q
          by_cases e : q = 93 + (cns w 0).toInt.toNat
          · rw [if_pos e, if_neg (by omega), if_neg (by omega), if_neg (by omega), if_neg (by omega), if_neg (by omega), if_pos (by omega)]
            exact if_pos (by omega)
          · rw [if_neg e, vcl_24 hS]
            by_cases q0 : q = 0
            · rw [if_pos q0, if_pos q0]
            rw [if_neg q0, if_neg q0]
            by_cases q1 : q = 1
            · rw [if_pos q1, if_pos q1]
            rw [if_neg q1, if_neg q1]
            by_cases q2 : q = 2
            · rw [if_pos q2, if_pos q2]
            rw [if_neg q2, if_neg q2]
            by_cases q3 : q < 84
            · rw [if_pos q3, if_pos q3]
            rw [if_neg q3, if_neg q3]
            by_cases q4 : q < 93
            · rw [if_pos q4, if_pos q4]
            rw [if_neg q4, if_neg q4]
            by_cases q5 : q < 102
            · rw [if_pos q5, if_pos q5]
              exact if_neg (by omega)
            · rw [if_neg q5, if_neg q5]
        · rw [e9, gI_aS, e5, gI_sI (SK_isF hS (by decide +kernel)), mx32]
          rfl
      rw [if_neg c10] at h
      by_cases c11 : p1 = 11
      · rw [if_pos c11] at h
        have hv11 := (g 11 11 (by decide +kernel)).mp c11
        subst hv11
        have h := h.2 _ rfl
        have hS4 : SK (sI w 24 1 (cns w 0)) := SK_sI hS
        refine fin _ [(24, 1)] [] (f283 _ hS4 h) (FM_sI hS (by decide)) (by decide) (by decide) (fun _ _ => ⟨?_, fun q => ?_, ?_⟩)
        · exact ⟨by rw [gA_sI]; exact l25, by rw [gA_sI]; exact l26, by rw [gA_sI]; exact l27, by rw [gA_sI]; exact l28, by rw [gA_sI]; exact l30, by rw [gI_sI_ne (by decide)]; exact w0, by rw [gI_sI_ne (by decide)]; exact w7, by rw [gI_sI_ne (by decide)]; exact a0, by rw [gI_sI_ne (by decide)]; exact a30⟩
        · rw [vcl_pc hS hS4 (c0 := gI w 24 0) (c1 := gI w 24 2) (c2 := cns w 0) (dw := fun q => (gA w 25).getD q 0) (df := fun q => (gA w 26).getD q 0) (dr := fun q => (gA w 27).getD q 0) (da := fun q => (gA w 28).getD q 0) (gI_sI_ne (by decide)) (gI_sI_ne (by decide)) (gI_sI (SK_isF hS (by decide +kernel))) (fun q _ => by rw [gA_sI]) (fun q _ => by rw [gA_sI]) (fun q _ => by rw [gA_sI]) (fun q _ => by rw [gA_sI])]
          show _ = if q = 2 then cns w 0 else vcl w 24 q
          by_cases q2 : q = 2
          · rw [if_pos q2, if_neg (by omega), if_neg (by omega), if_pos q2]
          · rw [if_neg q2, if_neg q2, vcl_24 hS, if_neg q2]
        · rw [gI_sI_ne (by decide)]
          rfl
      rw [if_neg c11] at h
      have hv12 : v = 12 := by
        have e6 : v ≠ 6 := fun z => c6 ((g 6 6 (by decide +kernel)).mpr z)
        have e7 : v ≠ 7 := fun z => c7 ((g 7 7 (by decide +kernel)).mpr z)
        have e8 : v ≠ 8 := fun z => c8 ((g 8 8 (by decide +kernel)).mpr z)
        have e9 : v ≠ 9 := fun z => c9 ((g 9 9 (by decide +kernel)).mpr z)
        have e10 : v ≠ 10 := fun z => c10 ((g 10 10 (by decide +kernel)).mpr z)
        have e11 : v ≠ 11 := fun z => c11 ((g 11 11 (by decide +kernel)).mpr z)
        omega
      subst hv12
      obtain ⟨_, _, h⟩ := h
      have h := h _ rfl
      obtain ⟨w5, e5⟩ : ∃ w5, w5 = sI w 23 9 (if gI w 23 9 < (if cns w 0 < cns w 1 then cns w 1 else cns w 0) then (if cns w 0 < cns w 1 then cns w 1 else cns w 0) else gI w 23 9) := ⟨_, rfl⟩
      rw [← e5] at h
      have hS5 : SK w5 := by rw [e5]; exact SK_sI hS
      have f5 : FM [(23, 9), (24, 2)] [28] w w5 := by rw [e5]; exact FM_sI hS (by decide)
      have a5 : ∀ b, gA w5 b = gA w b := fun b => by rw [e5]; exact gA_sI
      have cn5 : ∀ t, cns w5 t = cns w t := fun t => by unfold cns; rw [a5]
      have i5 : gI w5 24 2 = gI w 24 2 := by rw [e5]; exact gI_sI_ne (by decide)
      obtain ⟨r1, w1, q1, q2⟩ := h
      by_cases c7w : (gI w 24 2).toInt < 7
      · obtain ⟨z1, z2, z3, z4, z5⟩ := F54 hS5 (by rw [a5]; exact l28) (by rw [i5]; exact w0) (by rw [i5]; exact c7w) q1
        have h := q2 z1 z2.2.2.2
        have f9 : FM [(23, 9), (24, 2)] [28] w w1 := FM_trans f5 (FM_mono z2 (by decide) (by decide))
        have hS9 := f9.2.2.2
        refine fin _ _ _ (f283 _ hS9 h) f9 (by decide) (by decide) (fun _ _ => ⟨?_, fun q => ?_, ?_⟩)
        · refine ⟨by rw [FM_a f9 (by decide)]; exact l25, by rw [FM_a f9 (by decide)]; exact l26, by rw [FM_a f9 (by decide)]; exact l27, z4, by rw [FM_a f9 (by decide)]; exact l30, ?_, ?_, by rw [FM_i f9 (by decide)]; exact a0, by rw [FM_i f9 (by decide)]; exact a30⟩
          · rw [z3, i5, zi_inc (n := 7) c7w (by omega)]; omega
          · rw [z3, i5, zi_inc (n := 7) c7w (by omega)]; omega
        · rw [vcl_pc hS hS9 (c0 := gI w 24 0) (c1 := gI w 24 2 + 1) (c2 := gI w 24 1) (dw := fun q => (gA w 25).getD q 0) (df := fun q => (gA w 26).getD q 0) (dr := fun q => (gA w 27).getD q 0) (da := fun q => if 4 * (gI w 24 2).toInt.toNat ≤ q ∧ q < 4 * (gI w 24 2).toInt.toNat + 4 then cns w (q - 4 * (gI w 24 2).toInt.toNat) else (gA w 28).getD q 0) (FM_i f9 (by decide)) (by rw [z3, i5]) (FM_i f9 (by decide)) (fun q _ => by rw [FM_a f9 (by decide)]) (fun q _ => by rw [FM_a f9 (by decide)]) (fun q _ => by rw [FM_a f9 (by decide)]) (fun q hq => by rw [z5 q hq, i5, cn5, a5])]
          have ew : vcl w 24 1 = gI w 24 2 := rfl
          show _ = if q = 1 then vcl w 24 1 + 1 else if 102 + 4 * (vcl w 24 1).toInt.toNat ≤ q ∧ q < 106 + 4 * (vcl w 24 1).toInt.toNat then cns w (q - (102 + 4 * (vcl w 24 1).toInt.toNat)) else vcl w 24 q
          rw [ew]
          by_cases q1 : q = 1
          · rw [if_pos q1, if_neg (by omega), if_pos q1]
          rw [if_neg q1, if_neg q1]
          by_cases e : 102 + 4 * (gI w 24 2).toInt.toNat ≤ q ∧ q < 106 + 4 * (gI w 24 2).toInt.toNat
          · rw [if_pos e, if_neg (by omega), if_neg (by omega), if_neg (by omega), if_neg (by omega), if_neg (by omega), if_pos (by omega)]
            show (if 4 * (gI w 24 2).toInt.toNat ≤ q - 102 ∧ q - 102 < 4 * (gI w 24 2).toInt.toNat + 4 then cns w (q - 102 - 4 * (gI w 24 2).toInt.toNat) else (gA w 28).getD (q - 102) 0) = _
            rw [if_pos (by omega)]
            congr 1
            omega
          · rw [if_neg e, vcl_24 hS]
            by_cases q0 : q = 0
            · rw [if_pos q0, if_pos q0]
            rw [if_neg q0, if_neg q0, if_neg q1]
            by_cases q2 : q = 2
            · rw [if_pos q2, if_pos q2]
            rw [if_neg q2, if_neg q2]
            by_cases q3 : q < 84
            · rw [if_pos q3, if_pos q3]
            rw [if_neg q3, if_neg q3]
            by_cases q4 : q < 93
            · rw [if_pos q4, if_pos q4]
            rw [if_neg q4, if_neg q4]
            by_cases q5 : q < 102
            · rw [if_pos q5, if_pos q5]
            rw [if_neg q5, if_neg q5]
            by_cases q6 : q < 130
            · rw [if_pos q6, if_pos q6]
              exact if_neg (by omega)
            · rw [if_neg q6, if_neg q6]
        · rw [FM_i z2 (by decide), e5, gI_sI (SK_isF hS (by decide +kernel)), mx32, mx32]
          rfl
      · cases k with
        | zero => exact (PS_0 q1).elim
        | succ k =>
          have z := U54_0 hS5 q1
          have t7 : (7 : Int32).toInt = 7 := by decide +kernel
          rw [if_pos (by rw [Int32.le_iff_toInt_le, t7, i5]; omega)] at z
          have h := q2 z.1 (by rw [z.2]; exact hS5)
          rw [z.2] at h
          exact fin _ _ _ (f283 _ hS5 h) f5 (by decide) (by decide) (fun y => absurd (y rfl) c7w)
end GA
