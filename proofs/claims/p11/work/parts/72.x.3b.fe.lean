section FE
variable {X : pm_X} {k : Nat} {w w' : pm_W} {r : Option Value} {p p1 p2 p3 : Int32}
theorem fin201 {w5 : pm_W} {x : Int32} {u : Value} (hS : SK w5) (q : PS X k 201 308 [.ref 147, .int x, u] [] w5 r w') : r = none ∧ w' = w5 := by
  cases k with
  | zero => exact (PS_0 q).elim
  | succ j => exact U201_308 hS q
theorem six32 : (6 : Int32).toInt = 6 := by decide +kernel
/-- letters: s the place, t how many are behind -/
theorem F201_77 : ∀ (k : Nat) (w : pm_W) (s t : Nat) (x v : Int32), SK w → RB w → (gI w 147 4).toInt = s → (gI w 147 3).toInt = (s + t : Nat) → v.toInt = wdV (rb w) s t → (∀ j, j < t → isLt (rb w (s + j)) = true) → PS X k 201 77 [.ref 147, .int x, .int v] [] w r w' → r = none ∧ FM [(147, 3), (147, 5), (147, 7)] [] w w' ∧ (gI w' 147 3).toInt = (tkE isLt (rb w) (rn w) (s + t) : Nat) ∧ gI w' 147 7 = wdC (rb w) s (tkE isLt (rb w) (rn w) (s + t)) ∧ gI w' 147 5 = (if wdC (rb w) s (tkE isLt (rb w) (rn w) (s + t)) = 99 then 4 else 3) := by
  intro k
  induction k with
  | zero => intro w s t x v hS hR hp ha hv hl h; exact (PS_0 h).elim
  | succ k ih =>
    intro w s t x v hS hR hp ha hv hl h
    have h := U201_77 hS h
    have h := use_p hS h (fun _ _ q => F202 hS q)
    have h := use_p hS h (fun _ _ q => F203 hS q)
    have hhi := zi_hi (gI w 147 3)
    have hsub : (gI w 147 3 - gI w 147 4).toInt = t := by
      rw [zi_sub rfl rfl (by omega) (by omega)]
      omega
    have ecat : (gI w 147 3).toInt.toNat = s + t := by omega
    have hin : isLt (rAt w (gI w 147 3)) = true → (gI w 147 3).toInt < (gI w 147 2).toInt := by
      intro hb
      by_cases c : (gI w 147 2).toInt ≤ (gI w 147 3).toInt
      · rw [rAt_out c] at hb
        exact absurd hb (by decide +kernel)
      · omega
    by_cases c1 : b2i (isLt (rAt w (gI w 147 3))) = 0
    · rw [if_pos c1] at h
      rw [b2i_0] at c1
      have ee : tkE isLt (rb w) (rn w) (s + t) = s + t := by
        by_cases c : (gI w 147 2).toInt ≤ (gI w 147 3).toInt
        · exact spn_n (by unfold rn; omega)
        · rw [rAt_in (by omega) (by omega) hR.2.1, ecat] at c1
          exact spn_f c1
      rw [ee]
      have fin : ∀ c : Int32, c = wdC (rb w) s (s + t) → (∀ w10 : pm_W, w10 = sI w 147 7 c → (if (gI w10 147 7) = 99 then (∀ w12 : pm_W, w12 = sI w10 147 5 4 → (PS X k 201 308 [.ref 147, .int x, .int v] [] w12 r w')) else (∀ w11 : pm_W, w11 = sI w10 147 5 3 → (PS X k 201 308 [.ref 147, .int x, .int v] [] w11 r w')))) → r = none ∧ FM [(147, 3), (147, 5), (147, 7)] [] w w' ∧ (gI w' 147 3).toInt = ((s + t : Nat) : Int) ∧ gI w' 147 7 = wdC (rb w) s (s + t) ∧ gI w' 147 5 = (if wdC (rb w) s (s + t) = 99 then 4 else 3) := by
        intro c ec q
        have q := q _ rfl
        have hS1 : SK (sI w 147 7 c) := SK_sI hS
        have e7 : gI (sI w 147 7 c) 147 7 = c := gI_sI (SK_isF hS (by decide +kernel))
        rw [e7] at q
        have all : ∀ z : Int32, r = none ∧ w' = sI (sI w 147 7 c) 147 5 z → z = (if wdC (rb w) s (s + t) = 99 then 4 else 3) → r = none ∧ FM [(147, 3), (147, 5), (147, 7)] [] w w' ∧ (gI w' 147 3).toInt = ((s + t : Nat) : Int) ∧ gI w' 147 7 = wdC (rb w) s (s + t) ∧ gI w' 147 5 = (if wdC (rb w) s (s + t) = 99 then 4 else 3) := by
          intro z hz ez
          obtain ⟨z1, z2⟩ := hz
          rw [z2]
          refine ⟨z1, FM_trans (FM_sI hS (by decide)) (FM_sI hS1 (by decide)), ?_, ?_, ?_⟩
          · rw [gI_sI_ne (by decide), gI_sI_ne (by decide)]; exact ha
          · rw [gI_sI_ne (by decide), e7]; exact ec
          · rw [gI_sI (SK_isF hS1 (by decide +kernel))]; exact ez
        by_cases c9 : c = 99
        · rw [if_pos c9] at q
          exact all 4 (fin201 (SK_sI hS1) (q _ rfl)) (by rw [← ec, if_pos c9])
        · rw [if_neg c9] at q
          exact all 3 (fin201 (SK_sI hS1) (q _ rfl)) (by rw [← ec, if_neg c9])
      by_cases c2 : (gI w 147 3) - (gI w 147 4) ≤ 6
      · rw [if_pos c2] at h
        rw [Int32.le_iff_toInt_le, hsub, six32] at c2
        have h := use_p hS h (fun _ _ q => F204 hS hv q)
        refine fin _ ?_ h
        unfold wdC
        rw [if_pos (by omega), show s + t - s = t by omega]
      · rw [if_neg c2] at h
        rw [Int32.le_iff_toInt_le, hsub, six32] at c2
        refine fin _ ?_ h
        unfold wdC
        rw [if_neg (by omega)]
    · rw [if_neg c1] at h
      rw [b2i_0, Bool.not_eq_false] at c1
      have hi := hin c1
      rw [rAt_in (by omega) hi hR.2.1, ecat] at c1
      have hg := isLt_b c1
      have est : tkE isLt (rb w) (rn w) (s + t) = tkE isLt (rb w) (rn w) (s + (t + 1)) := spn_t (n := rn w) (i := s + t) (by unfold rn; omega) c1
      have step : ∀ v2 : Int32, v2.toInt = wdV (rb w) s (t + 1) → PS X k 201 122 [.ref 147, .int x, .int v2] [] w r w' → r = none ∧ FM [(147, 3), (147, 5), (147, 7)] [] w w' ∧ (gI w' 147 3).toInt = (tkE isLt (rb w) (rn w) (s + t) : Nat) ∧ gI w' 147 7 = wdC (rb w) s (tkE isLt (rb w) (rn w) (s + t)) ∧ gI w' 147 5 = (if wdC (rb w) s (tkE isLt (rb w) (rn w) (s + t)) = 99 then 4 else 3) := by
        intro v2 ev q
        cases k with
        | zero => exact (PS_0 q).elim
        | succ k =>
          have q := U201_122 hS q _ rfl
          obtain ⟨w1, e⟩ : ∃ w1, w1 = sI w 147 3 (gI w 147 3 + 1) := ⟨_, rfl⟩
          rw [← e] at q
          obtain ⟨f1, a1⟩ := nx_step hS e hi
          have b1 := rb_FM f1 (by decide)
          have n1 := rn_FM f1 (by decide)
          have q := ih w1 s (t + 1) x v2 f1.2.2.2 (RB_FM hR f1 (by decide) (by decide)) (by rw [FM_i f1 (by decide)]; exact hp) (by rw [a1]; omega) (by rw [b1]; exact ev) (by
            intro j hj
            rw [b1]
            by_cases e : j = t
            · rw [e]; exact c1
            · exact hl j (by omega)) (PS_mono (Nat.le_succ _) q)
          rw [b1, n1, ← est] at q
          exact ⟨q.1, FM_trans (FM_mono f1 (by decide) (by decide)) q.2.1, q.2.2⟩
      by_cases c3 : 6 ≤ (gI w 147 3) - (gI w 147 4)
      · rw [if_pos c3] at h
        rw [Int32.le_iff_toInt_le, hsub, six32] at c3
        refine step v ?_ h
        show v.toInt = (if t < 6 then _ else wdV (rb w) s t)
        rw [if_neg (by omega)]
        exact hv
      · rw [if_neg c3] at h
        rw [Int32.le_iff_toInt_le, hsub, six32] at c3
        have h := use_p hS h (fun _ _ q => F202 hS q)
        rw [rAt_in (by omega) hi hR.2.1, ecat] at h
        refine step _ ?_ h
        show _ = (if t < 6 then 32 * wdV (rb w) s t + (rb w (s + t)).toInt - 96 else wdV (rb w) s t)
        rw [if_pos (by omega)]
        have bd := wdV_b t hl
        have t32 : (32 : Int32).toInt = 32 := by decide +kernel
        have t96 : (96 : Int32).toInt = 96 := by decide +kernel
        have bd2 : wdV (rb w) s t ≤ 28142426 := by
          have c : t = 0 ∨ t = 1 ∨ t = 2 ∨ t = 3 ∨ t = 4 ∨ t = 5 := by omega
          have b := bd.2
          rcases c with e | e | e | e | e | e <;> (rw [e] at b ⊢; simp only [wdB] at b; omega)
        exact zi_sub (zi_add (zi_mul t32 hv (by omega) (by omega)) rfl (by omega) (by omega)) t96 (by omega) (by omega)
/-- digits -/
theorem F201_195 : ∀ (k : Nat) (w : pm_W) (s t : Nat) (x : Int32), SK w → RB w → (gI w 147 4).toInt = s → (gI w 147 3).toInt = (s + t : Nat) → (gI w 147 6).toInt = dgV (rb w) s t → (∀ j, j < t → isDg (rb w (s + j)) = true) → PS X k 201 195 [.ref 147, .int x, pm_dead] [] w r w' → r = none ∧ FM [(147, 3), (147, 5), (147, 6)] [] w w' ∧ (gI w' 147 3).toInt = (tkE isDg (rb w) (rn w) (s + t) : Nat) ∧ gI w' 147 5 = (if tkE isDg (rb w) (rn w) (s + t) ≤ s + 2 then 1 else 4) ∧ (gI w' 147 6).toInt = dgV (rb w) s (tkE isDg (rb w) (rn w) (s + t) - s) := by
  intro k
  induction k with
  | zero => intro w s t x hS hR hp ha hv hl h; exact (PS_0 h).elim
  | succ k ih =>
    intro w s t x hS hR hp ha hv hl h
    have h := U201_195 hS h
    have h := use_p hS h (fun _ _ q => F202 hS q)
    have h := use_p hS h (fun _ _ q => F206 hS q)
    have hhi := zi_hi (gI w 147 3)
    have hsub : (gI w 147 3 - gI w 147 4).toInt = t := by
      rw [zi_sub rfl rfl (by omega) (by omega)]
      omega
    have ecat : (gI w 147 3).toInt.toNat = s + t := by omega
    have hin : isDg (rAt w (gI w 147 3)) = true → (gI w 147 3).toInt < (gI w 147 2).toInt := by
      intro hb
      by_cases c : (gI w 147 2).toInt ≤ (gI w 147 3).toInt
      · rw [rAt_out c] at hb
        exact absurd hb (by decide +kernel)
      · omega
    by_cases c1 : b2i (isDg (rAt w (gI w 147 3))) = 0
    · rw [if_pos c1] at h
      rw [b2i_0] at c1
      have ee : tkE isDg (rb w) (rn w) (s + t) = s + t := by
        by_cases c : (gI w 147 2).toInt ≤ (gI w 147 3).toInt
        · exact spn_n (by unfold rn; omega)
        · rw [rAt_in (by omega) (by omega) hR.2.1, ecat] at c1
          exact spn_f c1
      rw [ee, show s + t - s = t by omega]
      have all : ∀ z : Int32, r = none ∧ w' = sI w 147 5 z → z = (if s + t ≤ s + 2 then 1 else 4) → r = none ∧ FM [(147, 3), (147, 5), (147, 6)] [] w w' ∧ (gI w' 147 3).toInt = ((s + t : Nat) : Int) ∧ gI w' 147 5 = (if s + t ≤ s + 2 then 1 else 4) ∧ (gI w' 147 6).toInt = dgV (rb w) s t := by
        intro z hz ez
        obtain ⟨z1, z2⟩ := hz
        rw [z2]
        refine ⟨z1, FM_sI hS (by decide), ?_, ?_, ?_⟩
        · rw [gI_sI_ne (by decide)]; exact ha
        · rw [gI_sI (SK_isF hS (by decide +kernel))]; exact ez
        · rw [gI_sI_ne (by decide)]; exact hv
      by_cases c2 : (gI w 147 3) - (gI w 147 4) ≤ 2
      · rw [if_pos c2] at h
        rw [Int32.le_iff_toInt_le, hsub, two32] at c2
        exact all 1 (fin201 (SK_sI hS) (h _ rfl)) (by rw [if_pos (by omega)])
      · rw [if_neg c2] at h
        rw [Int32.le_iff_toInt_le, hsub, two32] at c2
        exact all 4 (fin201 (SK_sI hS) (h _ rfl)) (by rw [if_neg (by omega)])
    · rw [if_neg c1] at h
      rw [b2i_0, Bool.not_eq_false] at c1
      have hi := hin c1
      rw [rAt_in (by omega) hi hR.2.1, ecat] at c1
      have hg := isDg_b c1
      have est : tkE isDg (rb w) (rn w) (s + t) = tkE isDg (rb w) (rn w) (s + (t + 1)) := spn_t (n := rn w) (i := s + t) (by unfold rn; omega) c1
      have step : ∀ w0 : pm_W, FM [(147, 6)] [] w w0 → (gI w0 147 6).toInt = dgV (rb w) s (t + 1) → PS X k 201 245 [.ref 147, .int x, pm_dead] [] w0 r w' → r = none ∧ FM [(147, 3), (147, 5), (147, 6)] [] w w' ∧ (gI w' 147 3).toInt = (tkE isDg (rb w) (rn w) (s + t) : Nat) ∧ gI w' 147 5 = (if tkE isDg (rb w) (rn w) (s + t) ≤ s + 2 then 1 else 4) ∧ (gI w' 147 6).toInt = dgV (rb w) s (tkE isDg (rb w) (rn w) (s + t) - s) := by
        intro w0 f0 ev q
        cases k with
        | zero => exact (PS_0 q).elim
        | succ k =>
          have hS0 := f0.2.2.2
          have q := U201_245 hS0 q _ rfl
          have a0 : gI w0 147 3 = gI w 147 3 := FM_i f0 (by decide)
          obtain ⟨w1, e⟩ : ∃ w1, w1 = sI w0 147 3 (gI w0 147 3 + 1) := ⟨_, rfl⟩
          rw [← e] at q
          obtain ⟨f1, a1⟩ := nx_step hS0 e (by rw [a0, FM_i f0 (by decide)]; exact hi)
          have ff : FM [(147, 3), (147, 5), (147, 6)] [] w w1 := FM_trans (FM_mono f0 (by decide) (by decide)) (FM_mono f1 (by decide) (by decide))
          have b1 := rb_FM ff (by decide)
          have n1 := rn_FM ff (by decide)
          have q := ih w1 s (t + 1) x f1.2.2.2 (RB_FM hR ff (by decide) (by decide)) (by rw [FM_i ff (by decide)]; exact hp) (by rw [a1, a0]; omega) (by rw [b1, FM_i f1 (by decide)]; exact ev) (by
            intro j hj
            rw [b1]
            by_cases e : j = t
            · rw [e]; exact c1
            · exact hl j (by omega)) (PS_mono (Nat.le_succ _) q)
          rw [b1, n1, ← est] at q
          exact ⟨q.1, FM_trans ff q.2.1, q.2.2⟩
      by_cases c3 : 2 ≤ (gI w 147 3) - (gI w 147 4)
      · rw [if_pos c3] at h
        rw [Int32.le_iff_toInt_le, hsub, two32] at c3
        refine step w (FM_refl hS) ?_ h
        rw [hv]
        unfold dgV
        rw [if_neg (by omega), if_neg (by omega), if_neg (by omega), if_neg (by omega)]
      · rw [if_neg c3] at h
        rw [Int32.le_iff_toInt_le, hsub, two32] at c3
        have h := use_p hS h (fun _ _ q => F202 hS q)
        rw [rAt_in (by omega) hi hR.2.1, ecat] at h
        refine step _ (FM_sI hS (by decide)) ?_ (h _ rfl)
        rw [gI_sI (SK_isF hS (by decide +kernel))]
        have t48 : (48 : Int32).toInt = 48 := by decide +kernel
        have hvb : (gI w 147 6).toInt = (if t = 0 then 0 else (rb w s).toInt - 48) := by
          rw [hv]
          unfold dgV
          by_cases e : t = 0
          · rw [if_pos e, if_pos e]
          · rw [if_neg e, if_neg e, if_pos (by omega)]
        have hb0 : 0 ≤ (gI w 147 6).toInt ∧ (gI w 147 6).toInt ≤ 9 := by
          rw [hvb]
          by_cases e : t = 0
          · rw [if_pos e]; omega
          · rw [if_neg e]
            have := isDg_b (hl 0 (by omega))
            rw [Nat.add_zero] at this
            omega
        rw [zi_sub (zi_add (zi_mul ten32 rfl (by omega) (by omega)) rfl (by omega) (by omega)) t48 (by omega) (by omega), hvb]
        unfold dgV
        by_cases e : t = 0
        · subst e
          rw [if_pos rfl, if_neg (by omega), if_pos rfl, Nat.add_zero]
          omega
        · have e1 : t = 1 := by omega
          subst e1
          rw [if_neg (by omega), if_neg (by omega), if_neg (by omega)]
/-- the token behind: where, kind, end, number, word -/
def TKr (w w' : pm_W) : Prop := gI w' 147 5 = rTk (rb w) (rn w) (rat w) ∧ (gI w' 147 4).toInt = (tkS (rb w) (rn w) (rat w) : Nat) ∧ (gI w' 147 3).toInt = (tkN (rb w) (rn w) (rat w) : Nat) ∧ (tkK (rb w) (rn w) (rat w) = 2 → (gI w' 147 6).toInt = tkV (rb w) (rn w) (rat w)) ∧ (tkK (rb w) (rn w) (rat w) = 1 → gI w' 147 7 = wdC (rb w) (tkS (rb w) (rn w) (rat w)) (tkN (rb w) (rn w) (rat w)))
theorem F201 (hS : SK w) (hR : RB w) (h0 : 0 ≤ (gI w 147 3).toInt) (h : PS X k 201 0 [.ref 147, pm_dead, pm_dead] [] w r w') : r = none ∧ FM [(147, 3), (147, 4), (147, 5), (147, 6), (147, 7)] [] w w' ∧ TKr w w' := by
  obtain ⟨k1, w1, f1, a1, _, hb, h⟩ := F201_0 _ _ hS hR h0 h
  have hS1 := f1.2.2.2
  have hR1 := RB_FM hR f1 (by decide) (by decide)
  have h := U201_0 hS1 h
  have h := use_p hS1 h (fun _ _ q => F202 hS1 q)
  unfold isBl at hb
  rw [Bool.or_eq_false_iff] at hb
  rw [if_neg (of_decide_eq_false hb.1)] at h
  have h := use_p hS1 h (fun _ _ q => F202 hS1 q)
  rw [if_neg (of_decide_eq_false hb.2)] at h
  have h := h _ rfl
  obtain ⟨w2, e2⟩ : ∃ w2, w2 = sI w1 147 4 (gI w1 147 3) := ⟨_, rfl⟩
  rw [← e2] at h
  have hS2 : SK w2 := by rw [e2]; exact SK_sI hS1
  have f2 : FM [(147, 3), (147, 4), (147, 5), (147, 6), (147, 7)] [] w w2 := FM_trans (FM_mono f1 (by decide) (by decide)) (by rw [e2]; exact FM_sI hS1 (by decide))
  have a2 : gI w2 147 3 = gI w1 147 3 := by rw [e2]; exact gI_sI_ne (by decide)
  have p2 : gI w2 147 4 = gI w1 147 3 := by rw [e2]; exact gI_sI (SK_isF hS1 (by decide +kernel))
  have n2 : rn w2 = rn w := rn_FM f2 (by decide)
  have n2' : gI w2 147 2 = gI w 147 2 := FM_i f2 (by decide)
  have b2 : rb w2 = rb w := rb_FM f2 (by decide)
  have hR2 := RB_FM hR f2 (by decide) (by decide)
  obtain ⟨s, es⟩ : ∃ s, s = tkS (rb w) (rn w) (rat w) := ⟨_, rfl⟩
  rw [← es] at a1
  unfold TKr rTk tkK tkN tkV
  rw [← es]
  have h := use_p hS2 h (fun _ _ q => F202 hS2 q)
  by_cases c1 : (gI w2 147 2).toInt ≤ (gI w2 147 3).toInt
  · rw [rAt_out c1, if_neg (by decide +kernel)] at h
    rw [a2, n2', a1] at c1
    have hn : rn w ≤ s := by unfold rn; omega
    obtain ⟨z1, z2⟩ := fin201 (SK_sI hS2) (h _ rfl)
    rw [z2]
    simp only [if_pos hn]
    refine ⟨z1, FM_trans f2 (FM_sI hS2 (by decide)), ?_, ?_, ?_, fun z => absurd z (by decide), fun z => absurd z (by decide)⟩
    · exact gI_sI (SK_isF hS2 (by decide +kernel))
    · rw [gI_sI_ne (by decide), p2]; exact a1
    · rw [gI_sI_ne (by decide), a2]; exact a1
  · rw [rAt_in (by rw [a2, a1]; omega) (by omega) hR2.2.1, b2, a2, a1, show ((s : Int)).toNat = s from Int.toNat_natCast s] at h
    rw [a2, n2', a1] at c1
    have hn : ¬ rn w ≤ s := by unfold rn; omega
    have pos := hR.2.2 s (by omega)
    rw [if_pos (by rw [Int32.le_iff_toInt_le, z32]; exact pos)] at h
    simp only [if_neg hn]
    have h := use_p hS2 h (fun _ _ q => F203 hS2 q)
    by_cases c2 : b2i (isLt (rb w s)) = 0
    · rw [if_pos c2] at h
      rw [b2i_0] at c2
      rw [c2]
      simp only [Bool.false_eq_true, if_false]
      have h := use_p hS2 h (fun _ _ q => F206 hS2 q)
      by_cases c3 : b2i (isDg (rb w s)) = 0
      · rw [if_pos c3] at h
        rw [b2i_0] at c3
        rw [c3]
        simp only [Bool.false_eq_true, if_false]
        have h := h _ rfl
        have one : ∀ (z : Int32), FM [(147, 3), (147, 4), (147, 5), (147, 6), (147, 7)] [] w (sI (sI w2 147 3 ((gI w2 147 3) + 1)) 147 5 z) ∧ gI (sI (sI w2 147 3 ((gI w2 147 3) + 1)) 147 5 z) 147 5 = z ∧ (gI (sI (sI w2 147 3 ((gI w2 147 3) + 1)) 147 5 z) 147 4).toInt = s ∧ (gI (sI (sI w2 147 3 ((gI w2 147 3) + 1)) 147 5 z) 147 3).toInt = (s + 1 : Nat) := by
          intro z
          have hS3 : SK (sI w2 147 3 ((gI w2 147 3) + 1)) := SK_sI hS2
          refine ⟨FM_trans f2 (FM_trans (FM_sI hS2 (by decide)) (FM_sI hS3 (by decide))), ?_, ?_, ?_⟩
          · exact gI_sI (SK_isF hS3 (by decide +kernel))
          · rw [gI_sI_ne (by decide), gI_sI_ne (by decide), p2]; exact a1
          · rw [gI_sI_ne (by decide), gI_sI (SK_isF hS2 (by decide +kernel)), a2, zi_inc (n := (gI w 147 2).toInt) (by omega) (zi_hi _)]
            omega
        by_cases c4 : rb w s = 59
        · rw [if_pos c4] at h
          obtain ⟨z1, z2⟩ := fin201 (SK_sI (SK_sI hS2)) (h _ rfl)
          obtain ⟨q1, q2, q3, q4⟩ := one 2
          rw [z2]
          simp only [if_pos c4]
          exact ⟨z1, q1, q2, q3, q4, fun z => absurd z (by decide), fun z => absurd z (by decide)⟩
        · rw [if_neg c4] at h
          obtain ⟨z1, z2⟩ := fin201 (SK_sI (SK_sI hS2)) (h _ rfl)
          obtain ⟨q1, q2, q3, q4⟩ := one 4
          rw [z2]
          simp only [if_neg c4]
          exact ⟨z1, q1, q2, q3, q4, fun z => absurd z (by decide), fun z => absurd z (by decide)⟩
      · rw [if_neg c3] at h
        rw [b2i_0, Bool.not_eq_false] at c3
        rw [c3]
        simp only [if_true]
        have h := h _ rfl
        obtain ⟨w3, e3⟩ : ∃ w3, w3 = sI w2 147 6 0 := ⟨_, rfl⟩
        rw [← e3] at h
        have hS3 : SK w3 := by rw [e3]; exact SK_sI hS2
        have f3 : FM [(147, 3), (147, 4), (147, 5), (147, 6), (147, 7)] [] w w3 := FM_trans f2 (by rw [e3]; exact FM_sI hS2 (by decide))
        have q := F201_195 _ _ s 0 _ hS3 (RB_FM hR f3 (by decide) (by decide)) (by rw [e3, gI_sI_ne (by decide), p2]; exact a1) (by rw [e3, gI_sI_ne (by decide), a2]; exact a1) (by rw [e3, gI_sI (SK_isF hS2 (by decide +kernel))]; rfl) (fun j hj => absurd hj (Nat.not_lt_zero j)) h
        rw [rb_FM f3 (by decide), rn_FM f3 (by decide), Nat.add_zero] at q
        obtain ⟨q1, q2, q3, q4, q5⟩ := q
        refine ⟨q1, FM_trans f3 (FM_mono q2 (by decide) (by decide)), ?_, ?_, q3, fun _ => q5, ?_⟩
        · rw [q4]
          by_cases c : tkE isDg (rb w) (rn w) s ≤ s + 2
          · simp only [if_pos c]
          · simp only [if_neg c]
        · rw [FM_i q2 (by decide), e3, gI_sI_ne (by decide), p2]; exact a1
        · intro z
          by_cases c : tkE isDg (rb w) (rn w) s ≤ s + 2
          · rw [if_pos c] at z; exact absurd z (by decide)
          · rw [if_neg c] at z; exact absurd z (by decide)
    · rw [if_neg c2] at h
      rw [b2i_0, Bool.not_eq_false] at c2
      rw [c2]
      simp only [if_true]
      have q := F201_77 _ _ s 0 _ _ hS2 hR2 (by rw [p2]; exact a1) (by rw [a2]; exact a1) (show (0 : Int32).toInt = _ from z32) (fun j hj => absurd hj (Nat.not_lt_zero j)) h
      rw [b2, n2, Nat.add_zero] at q
      obtain ⟨q1, q2, q3, q4, q5⟩ := q
      refine ⟨q1, FM_trans f2 (FM_mono q2 (by decide) (by decide)), q5, ?_, q3, fun z => absurd z (by decide), fun _ => q4⟩
      rw [FM_i q2 (by decide), p2]; exact a1
end FE
