/-! ===== roll and falls ===== -/
section HTR
variable {X : pm_X} {k k2 : Nat} {w0 w w1 w2 w3 w4 w' : pm_W} {r r2 q1 q2 : Option Value} {p p1 p2 p3 p4 p5 i1 i2 i3 sl x y z z1 z2 : Int32} {n i v j m u u2 P t s a b Q B rr len o3 N K : Nat} {V V' G G1 G2 : Nat → Int32} {Es Es' : Nat → Nat → Int32} {s0 s1 s2 t1 t2 : SN} {c d : Nat → Bool}
theorem MSK_sF (h : MSK x B (fun K => decide (K < t) && c K)) (hc : c t = false) : MSK (x ||| 0) B (fun K => decide (K < t + 1) && c K) := by
  refine MSK_cg (MSK_o0 h) (fun b _ => ?_)
  by_cases e : b = t
  · rw [e, hc, Bool.and_false, Bool.and_false]
  · by_cases e2 : b < t
    · rw [decide_eq_true e2, decide_eq_true (show b < t + 1 by omega)]
    · rw [decide_eq_false e2, decide_eq_false (show ¬ b < t + 1 by omega)]
theorem MSK_sT (h : MSK x B (fun K => decide (K < t) && c K)) (hc : c t = true) (hy : y.toInt = t) (ht : t < B) (hB : B ≤ 32) : MSK (x ||| (1 <<< (y &&& 31))) B (fun K => decide (K < t + 1) && c K) := by
  refine MSK_cg (MSK_ob h hy ht hB) (fun b _ => ?_)
  show (decide (b < t + 1) && c b) = (decide (b < t) && c b || decide (b = t))
  by_cases e : b = t
  · rw [e, hc, decide_eq_true (show t < t + 1 by omega), decide_eq_true rfl, Bool.or_true]; rfl
  · rw [decide_eq_false e, Bool.or_false]
    by_cases e2 : b < t
    · rw [decide_eq_true e2, decide_eq_true (show b < t + 1 by omega)]
    · rw [decide_eq_false e2, decide_eq_false (show ¬ b < t + 1 by omega)]
theorem MSK_z (h : ∀ b, b < B → c b = false) : MSK 0 B c := MSK_cg MSK_0 (fun b hb => h b hb)
/-- the class: rings open till before -/
theorem F125_4 (hS : SK w) (ok : okS a = true) (hN : (gI w a 2).toInt = N) (hN30 : N ≤ 30) : ∀ (k t : Nat) (i2 i3 : Int32), i3.toInt = t → t ≤ N → MSK i2 30 (fun K => decide (K < t) && cM p1 (gAr w a) K) → PS X k 125 4 [.ref a, .int p1, .int i2, .int i3] [] w r w' → (∃ z, r = some (.int z) ∧ MSK z 30 (fun K => decide (K < N) && cM p1 (gAr w a) K)) ∧ w' = w := by
  intro k
  induction k with
  | zero => intro t i2 i3 _ _ _ h; exact (PS_0 h).elim
  | succ k ih =>
    intro t i2 i3 h3 ht hm h
    have h := U125_4 hS h
    by_cases c : gI w a 2 ≤ i3
    · rw [if_pos c] at h
      rw [Int32.le_iff_toInt_le, hN, h3] at c
      have e : t = N := by omega
      rw [e] at hm
      exact ⟨⟨i2, h.1, hm⟩, h.2⟩
    · rw [if_neg c] at h
      rw [Int32.le_iff_toInt_le, hN, h3] at c
      have e1 : (i3 + 1).toInt = ((t + 1 : Nat) : Int) := by rw [zi_inc (n := 40) (by omega) (by omega), h3]; rfl
      have h := use_p hS h (fun _ _ z => F83 (K := t) hS ok h3 (by omega) z)
      cases ho : opn (gAr w a) t with
      | false =>
        rw [ho, if_pos (by decide +kernel)] at h
        exact ih (t + 1) _ _ e1 (by omega) (MSK_sF hm (by unfold cM; rw [ho]; rfl)) h
      | true =>
        rw [ho, if_neg (by decide +kernel)] at h
        have h := use_p hS h (fun _ _ z => F84 (j := 2) hS ok h3 two32 (by omega) (by decide) z)
        by_cases c2 : p1 ≤ gAr w a (10 * t + 2)
        · rw [if_pos c2] at h
          rw [Int32.le_iff_toInt_le] at c2
          exact ih (t + 1) _ _ e1 (by omega) (MSK_sF hm (by unfold cM; rw [ho, decide_eq_false (by omega)]; rfl)) h
        · rw [if_neg c2] at h
          rw [Int32.le_iff_toInt_le] at c2
          exact ih (t + 1) _ _ e1 (by omega) (MSK_sT hm (by unfold cM; rw [ho, decide_eq_true (by omega)]; rfl) h3 (by omega) (by decide)) h
/-- the reference -/
theorem F310_30 (hS : SK w) (hN : (gI w 147 14).toInt = N) (hN30 : N ≤ 30) : ∀ (k t : Nat) (i5 i6 : Int32), i6.toInt = t → t ≤ N → MSK i5 30 (fun K => decide (K < t) && cM p4 (gRr w) K) → PS X k 310 30 [.ref 147, .int i1, .int i2, .int i3, .int p4, .int i5, .int i6] [] w r w' → (∃ z, r = some (.int z) ∧ MSK z 30 (fun K => decide (K < N) && cM p4 (gRr w) K)) ∧ w' = w := by
  intro k
  induction k with
  | zero => intro t i2 i3 _ _ _ h; exact (PS_0 h).elim
  | succ k ih =>
    intro t i5 i6 h3 ht hm h
    have h := U310_30 hS h
    by_cases c : gI w 147 14 ≤ i6
    · rw [if_pos c] at h
      rw [Int32.le_iff_toInt_le, hN, h3] at c
      have e : t = N := by omega
      rw [e] at hm
      exact ⟨⟨i5, h.1, hm⟩, h.2⟩
    · rw [if_neg c] at h
      rw [Int32.le_iff_toInt_le, hN, h3] at c
      have e1 : (i6 + 1).toInt = ((t + 1 : Nat) : Int) := by rw [zi_inc (n := 40) (by omega) (by omega), h3]; rfl
      have h := use_p hS h (fun _ _ z => F236 (K := t) hS h3 (by omega) z)
      cases ho : opn (gRr w) t with
      | false =>
        rw [ho, if_pos (by decide +kernel)] at h
        exact ih (t + 1) _ _ e1 (by omega) (MSK_sF hm (by unfold cM; rw [ho]; rfl)) h
      | true =>
        rw [ho, if_neg (by decide +kernel)] at h
        obtain ⟨_, h⟩ := h
        have eg : aG w 153 (10 * i6 + 2) = gRr w (10 * t + 2) := aG_n (m := 10 * t + 2) (by rw [zi_add (zi_mul ten32 h3 (by omega) (by omega)) two32 (by omega) (by omega)]; omega)
        rw [eg] at h
        by_cases c2 : p4 ≤ gRr w (10 * t + 2)
        · rw [if_pos c2] at h
          rw [Int32.le_iff_toInt_le] at c2
          exact ih (t + 1) _ _ e1 (by omega) (MSK_sF hm (by unfold cM; rw [ho, decide_eq_false (by omega)]; rfl)) h
        · rw [if_neg c2] at h
          rw [Int32.le_iff_toInt_le] at c2
          exact ih (t + 1) _ _ e1 (by omega) (MSK_sT hm (by unfold cM; rw [ho, decide_eq_true (by omega)]; rfl) h3 (by omega) (by decide)) h
/-- roll -/
theorem RC_35 (h3 : RL3 w) (h1 : PS X k 124 0 [.ref 0, .int p1, .int p2, .int p3, .int p4] [] w r w1) (h2 : PS X k2 310 0 [.ref 147, .int p1, .int p2, .int p3, .int p4, pm_dead, pm_dead] [] w1 r2 w2) : r2 = r := by
  have hS := h3.1.1
  have e999 : (999 : Int32).toInt = 999 := by decide +kernel
  cases k with
  | zero => exact (PS_0 h1).elim
  | succ k =>
    cases k2 with
    | zero => exact (PS_0 h2).elim
    | succ k2 =>
      have h1 := U124_0 hS h1
      have no : ¬ (0 ≤ p4.toInt ∧ p4.toInt ≤ 999) → r = some (.int (-1)) ∧ w1 = w → r2 = r := by
        rintro hn ⟨a1, a2⟩
        subst w1
        have h2 := use_p hS (U310_0 hS h2) (fun _ _ z => F199 hS z)
        rw [isI_t z32 e999] at h2
        have h2 := ifb_f hn h2
        rw [h2.1, a1]
      by_cases c : p4 < 0
      · rw [if_pos c] at h1
        rw [Int32.lt_iff_toInt_lt, z32] at c
        exact no (by omega) h1
      · rw [if_neg c] at h1
        rw [Int32.lt_iff_toInt_lt, z32] at c
        by_cases c2 : 999 < p4
        · rw [if_pos c2] at h1
          rw [Int32.lt_iff_toInt_lt, e999] at c2
          exact no (by omega) h1
        · rw [if_neg c2] at h1
          rw [Int32.lt_iff_toInt_lt, e999] at c2
          obtain ⟨q1, w3, z, h1⟩ := h1
          obtain ⟨f1, alt⟩ := F98 h3 z
          have S3 : SK w3 := f1.2.2.2
          have ea := FM_al f1
          rcases alt with ⟨u, s1, a1, a2, a3⟩ | ⟨a1, a2⟩
          · have h1 := h1 _ a1 S3
            rw [if_neg (by decide +kernel)] at h1
            obtain ⟨q4, w5, y, h5⟩ := h1
            cases k with
            | zero => exact (PS_0 y).elim
            | succ k =>
              have hN := LDR_N h3.2 h3.1.2.1.1 a2
              obtain ⟨⟨z4, b1, b2⟩, b3⟩ := F125_4 (N := s1.2.2.2) S3 (by decide +kernel) a3.2.2.2.2.2 hN _ 0 0 0 z32 (Nat.zero_le _) (MSK_z (fun b _ => by rw [decide_eq_false (Nat.not_lt_zero b)]; rfl)) (U125_0 S3 y)
              rw [b3] at h5
              obtain ⟨d1, d2⟩ := h5 _ b1 S3
              rw [d2] at h2
              have h2 := use_p S3 (U310_0 S3 h2) (fun _ _ z => F199 S3 z)
              rw [isI_t z32 e999] at h2
              have h2 := ifb_t (show 0 ≤ p4.toInt ∧ p4.toInt ≤ 999 from ⟨by omega, by omega⟩) h2
              obtain ⟨q6, w6, y6, h2⟩ := h2
              obtain ⟨f6, e6, alt2⟩ := LOAD3 h3 z S3 ea y6
              have S6 : SK w6 := f6.2.2.2
              rcases alt2 with ⟨g1, _⟩ | ⟨u', t1, t2, _, g2, c1, c2, c3, c4, c5, c6, c7⟩
              · rw [a1] at g1; exact absurd g1 i10
              · have h2 := h2 _ g2 S6
                rw [if_neg (by decide +kernel)] at h2
                have eN1 : t1.2.2.2 = s1.2.2.2 := by have x1 := c5.2.2.2.2.2; have x2 := a3.2.2.2.2.2; omega
                have eN : (gI w6 147 14).toInt = s1.2.2.2 := by rw [c6.2.2.2, c4.2.2.1, eN1]
                obtain ⟨⟨z5, x1, x2⟩, x3⟩ := F310_30 S6 eN hN _ 0 0 0 z32 (Nat.zero_le _) (MSK_z (fun b _ => by rw [decide_eq_false (Nat.not_lt_zero b)]; rfl)) h2
                have hl := c4.2.2.2
                rw [eN1] at hl
                have e1 : gAr w3 33 = t1.2.1 := c5.2.2.2.1
                have e2 : gRr w6 = t2.2.1 := c6.2.1
                rw [e1] at b2
                rw [e2] at x2
                rw [x1, d1, MSK_uq x2 b2 (fun b _ => by
                  by_cases e : b < s1.2.2.2
                  · rw [cM_RG hl.1 e]
                  · rw [decide_eq_false e, Bool.false_and, Bool.false_and])]
          · have h1 := h1 _ a1 S3
            rw [if_pos rfl] at h1
            rw [h1.2] at h2
            have h2 := use_p S3 (U310_0 S3 h2) (fun _ _ z => F199 S3 z)
            rw [isI_t z32 e999] at h2
            have h2 := ifb_t (show 0 ≤ p4.toInt ∧ p4.toInt ≤ 999 from ⟨by omega, by omega⟩) h2
            obtain ⟨q6, w6, y6, h2⟩ := h2
            obtain ⟨f6, e6, alt2⟩ := LOAD3 h3 z S3 ea y6
            rcases alt2 with ⟨_, g1⟩ | ⟨u', t1, t2, g1, _⟩
            · have h2 := h2 _ g1 f6.2.2.2
              rw [if_pos rfl] at h2
              rw [h2.1, h1.1]
            · rw [a1] at g1; exact absurd g1.symm i10
end HTR
