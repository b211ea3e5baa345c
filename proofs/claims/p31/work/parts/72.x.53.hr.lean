/-! ===== ring; what both sides load ===== -/
section HRR
variable {X : pm_X} {k k2 : Nat} {w0 w w1 w2 w3 w4 w' : pm_W} {r r2 q1 q2 : Option Value} {p p1 p2 p3 p4 p5 i1 i2 i3 sl z z1 z2 : Int32} {n i v j m u u2 P t s b Q x rr len o3 N K : Nat} {a V V' G G1 G2 : Nat → Int32} {Es Es' : Nat → Nat → Int32} {s0 s1 s2 t1 t2 : SN}
theorem LDR_N (hV : VAa a) (hA : RA a) (h : LDR a p1 p2 p3 G u s0) : s0.2.2.2 ≤ 30 := by
  obtain ⟨h1, h2, h3⟩ := h
  obtain ⟨v1, _, _, v2, _⟩ := VA_v hV h2
  rcases h3 with ⟨_, _, e⟩ | ⟨_, rr, n, _, c2, _, c3, c4⟩
  · rw [e]; exact Nat.zero_le 30
  · have r := hA.2.2.2.2.2.2 rr c2
    obtain ⟨_, w2⟩ := RN_W v1 v2 WS_00 n s0 (fun j hj => VA_e hV c2 (by omega)) c4
    have z : (s00 G).2.2.2 = 0 := rfl
    omega
/-- what stands behind both loads -/
def LD3 (w w1 w3 : pm_W) (p1 : Int32) (u : Nat) (s1 s2 : SN) : Prop := p1.toInt = u ∧ u < (al w 0).toInt.toNat ∧ u ≤ 1 ∧ LSt (Pof (al w) u) s1 s2 ∧ CSt w1 33 (5 + 5 * u) (Pof (al w) u) s1.1 s1.2.1 s1.2.2.1 s1.2.2.2 ∧ RSt w3 s2.1 s2.2.1 s2.2.2.1 s2.2.2.2 ∧ s1.2.2.2 ≤ 30
theorem LOAD3 (h3 : RL3 w) (z : PS X k 98 0 [.ref 0, .int p1, .int p2, .int p3, pm_dead, pm_dead, pm_dead] [] w q1 w1) (S2 : SK w2) (e : al w2 = al w) (y : PS X k2 246 0 [.ref 147, .int p1, .int p2, .int p3] [] w2 q2 w3) : FM [(147, 14), (147, 15), (147, 16)] [152, 153] w2 w3 ∧ al w3 = al w ∧ ((q1 = some (.int 0) ∧ q2 = some (.int 0)) ∨ ∃ (u : Nat) (s1 s2 : SN), q1 = some (.int 1) ∧ q2 = some (.int 1) ∧ LD3 w w1 w3 p1 u s1 s2) := by
  obtain ⟨f1, alt⟩ := F98 h3 z
  obtain ⟨f2, alt2⟩ := F246 S2 (by rw [e]; exact h3.1.2.1.1) (by rw [e]; exact h3.2) y
  have e3 : al w3 = al w := by rw [← e]; funext q; unfold al; rw [FM_a f2 (by simp)]
  rw [e] at alt2
  refine ⟨f2, e3, ?_⟩
  have hu2 := h3.1.2.1.1.2.1
  rcases alt with ⟨u, s1, a1, a2, a3⟩ | ⟨a1, a2⟩
  · rcases alt2 with ⟨u2, s2, b1, b2, b3⟩ | ⟨b1, b2⟩
    · obtain ⟨e1, l⟩ := LDR_2 h3.2 a2 b2
      exact Or.inr ⟨u, s1, s2, a1, b1, a2.1, a2.2.1, by have := a2.2.1; omega, l, a3, b3, LDR_N h3.2 h3.1.2.1.1 a2⟩
    · exact (LD_no h3.2 a2 b2).elim
  · rcases alt2 with ⟨u2, s2, b1, b2, b3⟩ | ⟨b1, b2⟩
    · exact (LD_no h3.2 b2 a2).elim
    · exact Or.inl ⟨a1, b1⟩
/-- what ring answers of a state -/
def rgA (G : Nat → Int32) (N : Nat) (p4 p5 : Int32) : Int32 := if 0 ≤ p4.toInt ∧ p4.toInt < (N : Int) then (if 0 ≤ p5.toInt ∧ p5.toInt ≤ 3 then G (10 * p4.toInt.toNat + p5.toInt.toNat) else if 10 ≤ p5.toInt ∧ p5.toInt < 10 + (G (10 * p4.toInt.toNat)).toInt then G (10 * p4.toInt.toNat + (p5.toInt - 6).toNat) else -1) else -1
theorem rgA_2 (h : LK P V G1 G2 N) : rgA G2 N p4 p5 = rgA G1 N p4 p5 := by
  obtain ⟨hg, ⟨_, h1⟩, _⟩ := h
  unfold rgA
  by_cases c : 0 ≤ p4.toInt ∧ p4.toInt < (N : Int)
  · rw [if_pos c, if_pos c]
    have q := hg p4.toInt.toNat (by omega)
    have e0 := q 0 (by omega)
    rw [Nat.add_zero] at e0
    have wr := h1 p4.toInt.toNat (by omega)
    have wr1 := wr.1
    rw [e0]
    by_cases c2 : 0 ≤ p5.toInt ∧ p5.toInt ≤ 3
    · rw [if_pos c2, if_pos c2, q _ (by omega)]
    · rw [if_neg c2, if_neg c2]
      by_cases c3 : 10 ≤ p5.toInt ∧ p5.toInt < 10 + (G1 (10 * p4.toInt.toNat)).toInt
      · rw [if_pos c3, if_pos c3, q _ (by unfold rMy; omega)]
      · rw [if_neg c3, if_neg c3]
  · rw [if_neg c, if_neg c]
theorem F120 (hS : SK w) (hC : CSt w 33 v P V G z N) (hN : N ≤ 30) (hW : ∀ K, K < N → WRg P G K) (h : if p4 < 0 then (r = some (.int (-1)) ∧ w' = w) else (if p4 < (gI w 33 2) then (if p5 < 0 then (∃ (r4 : Option Value) (w5 : pm_W), PS X k 84 0 [.ref 33, .int p4, .int 0] [] w r4 w5 ∧ (∀ x6 : Int32, r4 = some (.int x6) → SK w5 → (if p5 < 10 then (r = some (.int (-1)) ∧ w' = w5) else (if p5 < (10 + x6) then (∃ (r7 : Option Value) (w8 : pm_W), PS X k 84 0 [.ref 33, .int p4, .int ((4 + p5) - 10)] [] w5 r7 w8 ∧ (∀ x9 : Int32, r7 = some (.int x9) → SK w8 → (r = some (.int x9) ∧ w' = w8))) else (r = some (.int (-1)) ∧ w' = w5))))) else (if 3 < p5 then (∃ (r10 : Option Value) (w11 : pm_W), PS X k 84 0 [.ref 33, .int p4, .int 0] [] w r10 w11 ∧ (∀ x12 : Int32, r10 = some (.int x12) → SK w11 → (if p5 < 10 then (r = some (.int (-1)) ∧ w' = w11) else (if p5 < (10 + x12) then (∃ (r13 : Option Value) (w14 : pm_W), PS X k 84 0 [.ref 33, .int p4, .int ((4 + p5) - 10)] [] w11 r13 w14 ∧ (∀ x15 : Int32, r13 = some (.int x15) → SK w14 → (r = some (.int x15) ∧ w' = w14))) else (r = some (.int (-1)) ∧ w' = w11))))) else (∃ (r16 : Option Value) (w17 : pm_W), PS X k 84 0 [.ref 33, .int p4, .int p5] [] w r16 w17 ∧ (∀ x18 : Int32, r16 = some (.int x18) → SK w17 → (r = some (.int x18) ∧ w' = w17))))) else (r = some (.int (-1)) ∧ w' = w))) : r = some (.int (rgA G N p4 p5)) ∧ w' = w := by
  have e2 : (gI w 33 2).toInt = N := hC.2.2.2.2.2
  have eG : gAr w 33 = G := hC.2.2.2.1
  have ok : okS 33 = true := by decide +kernel
  have e10 : (10 : Int32).toInt = 10 := ten32
  have e3 : (3 : Int32).toInt = 3 := three32
  unfold rgA
  by_cases c : p4 < 0
  · rw [if_pos c] at h
    rw [Int32.lt_iff_toInt_lt, z32] at c
    rw [if_neg (by omega)]
    exact h
  · rw [if_neg c] at h
    rw [Int32.lt_iff_toInt_lt, z32] at c
    by_cases c2 : p4 < gI w 33 2
    · rw [if_pos c2] at h
      rw [Int32.lt_iff_toInt_lt, e2] at c2
      obtain ⟨K, hK⟩ : ∃ K : Nat, p4.toInt = K := ⟨p4.toInt.toNat, by omega⟩
      rw [if_pos (by omega)]
      have eK : p4.toInt.toNat = K := by omega
      rw [eK]
      obtain ⟨w1, w2, _⟩ := hW K (by omega)
      by_cases d : p5 < 0
      · rw [if_pos d] at h
        rw [Int32.lt_iff_toInt_lt, z32] at d
        have h := use_p hS h (fun _ _ y => F84 (j := 0) hS ok hK z32 (by omega) (by omega) y)
        rw [if_pos (show p5 < 10 by rw [Int32.lt_iff_toInt_lt, e10]; omega)] at h
        rw [if_neg (by omega), if_neg (by omega)]
        exact h
      · rw [if_neg d] at h
        rw [Int32.lt_iff_toInt_lt, z32] at d
        by_cases d2 : 3 < p5
        · rw [if_pos d2] at h
          rw [Int32.lt_iff_toInt_lt, e3] at d2
          have h := use_p hS h (fun _ _ y => F84 (j := 0) hS ok hK z32 (by omega) (by omega) y)
          rw [Nat.add_zero, eG] at h
          rw [if_neg (by omega)]
          by_cases d3 : p5 < 10
          · rw [if_pos d3] at h
            rw [Int32.lt_iff_toInt_lt, e10] at d3
            rw [if_neg (by omega)]
            exact h
          · rw [if_neg d3] at h
            rw [Int32.lt_iff_toInt_lt, e10] at d3
            have es : (10 + G (10 * K)).toInt = 10 + (G (10 * K)).toInt := zi_add e10 rfl (by omega) (by omega)
            by_cases d4 : p5 < 10 + G (10 * K)
            · rw [if_pos d4] at h
              rw [Int32.lt_iff_toInt_lt, es] at d4
              rw [if_pos (by omega)]
              have ei : ((4 + p5) - 10).toInt = ((p5.toInt - 6).toNat : Nat) := by
                rw [zi_sub (zi_add four32 rfl (by omega) (by omega)) e10 (by omega) (by omega)]
                omega
              have h := use_p hS h (fun _ _ y => F84 (j := (p5.toInt - 6).toNat) hS ok hK ei (by omega) (by omega) y)
              rw [eG] at h
              exact h
            · rw [if_neg d4] at h
              rw [Int32.lt_iff_toInt_lt, es] at d4
              rw [if_neg (by omega)]
              exact h
        · rw [if_neg d2] at h
          rw [Int32.lt_iff_toInt_lt, e3] at d2
          have h := use_p hS h (fun _ _ y => F84 (j := p5.toInt.toNat) hS ok hK (by omega) (by omega) (by omega) y)
          rw [eG] at h
          rw [if_pos (by omega)]
          exact h
    · rw [if_neg c2] at h
      rw [Int32.lt_iff_toInt_lt, e2] at c2
      rw [if_neg (by omega)]
      exact h
/-- ring -/
theorem RC_15 (h3 : RL3 w) (h1 : PS X k 120 0 [.ref 0, .int p1, .int p2, .int p3, .int p4, .int p5, pm_dead] [] w r w1) (h2 : PS X k2 263 0 [.ref 147, .int p1, .int p2, .int p3, .int p4, .int p5] [] w1 r2 w2) : r2 = r := by
  have hS := h3.1.1
  cases k with
  | zero => exact (PS_0 h1).elim
  | succ k =>
    cases k2 with
    | zero => exact (PS_0 h2).elim
    | succ k2 =>
      obtain ⟨q1, w3, z, h1⟩ := U120_0 hS h1
      obtain ⟨f1, _⟩ := F98 h3 z
      have S3 : SK w3 := f1.2.2.2
      have ea := FM_al f1
      have fin : ∀ (r1 : Option Value) (x1 : Int32) (S1 : SK w1), r = some (.int x1) → al w1 = al w → (∀ q2 w4, PS X k2 246 0 [.ref 147, .int p1, .int p2, .int p3] [] w1 q2 w4 → (q1 = some (.int 0) ∧ q2 = some (.int 0) ∧ x1 = -1) ∨ ∃ (u : Nat) (s1 s2 : SN), q1 = some (.int 1) ∧ q2 = some (.int 1) ∧ LD3 w w3 w4 p1 u s1 s2 ∧ x1 = rgA s1.2.1 s1.2.2.2 p4 p5) → r2 = r := by
        intro _ x1 S1 hr e1 H
        obtain ⟨q6, w6, y6, h2⟩ := U263_0 S1 h2
        obtain ⟨f6, e6, _⟩ := LOAD3 h3 z S1 e1 y6
        have S6 : SK w6 := f6.2.2.2
        rcases H _ _ y6 with ⟨_, b2, b3⟩ | ⟨u, s1, s2, _, b2, ⟨c1, c2, c3, c4, c5, c6, c7⟩, b3⟩
        · have h2 := h2 _ b2 S6
          rw [if_pos rfl] at h2
          rw [h2.1, hr, b3]
        · have h2 := h2 _ b2 S6
          rw [if_neg (by decide +kernel)] at h2
          have eN : (gI w6 147 14).toInt = s1.2.2.2 := by rw [c6.2.2.2]; exact congrArg _ c4.2.2.1
          have eG : gRr w6 = s2.2.1 := c6.2.1
          have h2 := use_p S6 h2 (fun _ _ y => F199 S6 y)
          rw [isI_m (by omega) (by omega), eN] at h2
          have e := rgA_2 (p4 := p4) (p5 := p5) c4.2.2.2
          rw [hr, b3, ← e]
          unfold rgA
          by_cases d : 0 ≤ p4.toInt ∧ p4.toInt < (s1.2.2.2 : Int)
          · have h2 := ifb_t d h2
            rw [if_pos d]
            obtain ⟨K, hK⟩ : ∃ K : Nat, p4.toInt = K := ⟨p4.toInt.toNat, by omega⟩
            have eK : p4.toInt.toNat = K := by omega
            rw [eK]
            have wr := c4.2.2.2.2.2.2 K (by omega)
            obtain ⟨g1, g2, _⟩ := wr
            have g1 : 2 ≤ (s2.2.1 (10 * K)).toInt := g1
            have g2 : (s2.2.1 (10 * K)).toInt ≤ 6 := g2
            have h2 := use_p S6 h2 (fun _ _ y => F199 S6 y)
            rw [isI_t z32 three32] at h2
            by_cases d2 : 0 ≤ p5.toInt ∧ p5.toInt ≤ 3
            · have h2 := ifb_t d2 h2
              rw [if_pos d2]
              rw [aG_n (m := 10 * K + p5.toInt.toNat) (by rw [zi_add (zi_mul ten32 hK (by omega) (by omega)) rfl (by omega) (by omega)]; omega)] at h2
              rw [h2.2.1, ← eG]
              rfl
            · have h2 := ifb_f d2 h2
              rw [if_neg d2]
              obtain ⟨_, h2⟩ := h2
              have eg : aG w6 153 (10 * p4) = s2.2.1 (10 * K) := by
                rw [aG_n (m := 10 * K) (by rw [zi_mul ten32 hK (by omega) (by omega)]; omega), ← eG]
                rfl
              rw [eg] at h2
              have h2 := use_p S6 h2 (fun _ _ y => F199 S6 y)
              rw [isI_t ten32 (zi_add nine32 rfl (by omega) (by omega))] at h2
              by_cases d3 : 10 ≤ p5.toInt ∧ p5.toInt ≤ 9 + (s2.2.1 (10 * K)).toInt
              · have h2 := ifb_t d3 h2
                rw [if_pos (by omega)]
                have h2 := use_p S6 h2 (fun _ _ y => F234 (j := (p5.toInt - 10).toNat) S6 hK (by rw [zi_sub rfl ten32 (by omega) (by omega)]; omega) (by omega) (by omega) y)
                rw [h2.1, eG, show 10 * K + 4 + (p5.toInt - 10).toNat = 10 * K + (p5.toInt - 6).toNat by omega]
              · have h2 := ifb_f d3 h2
                rw [if_neg (by omega)]
                exact h2.1
          · have h2 := ifb_f d h2
            rw [if_neg d]
            exact h2.1
      obtain ⟨f9, alt⟩ := F98 h3 z
      rcases alt with ⟨u, s1, a1, a2, a3⟩ | ⟨a1, a2⟩
      · have h1 := h1 _ a1 S3
        rw [if_neg (by decide +kernel)] at h1
        obtain ⟨b1, b2⟩ := F120 S3 a3 (LDR_N h3.2 h3.1.2.1.1 a2) (LDR_2 h3.2 a2 a2).2.2.2.2.2.1.2 h1
        refine fin r _ (by rw [b2]; exact S3) b1 (by rw [b2]; exact ea) (fun q2 w4 y => ?_)
        obtain ⟨_, _, y⟩ := LOAD3 h3 z (by rw [b2]; exact S3) (by rw [b2]; exact ea) y
        rcases y with ⟨y1, _⟩ | ⟨u', t1, t2, y1, y2, y3⟩
        · rw [a1] at y1; exact absurd y1 i10
        · refine Or.inr ⟨u', t1, t2, y1, y2, y3, ?_⟩
          obtain ⟨c1, c2, c3, c4, c5, c6, c7⟩ := y3
          have e1 : t1.2.1 = s1.2.1 := c5.2.2.2.1.symm.trans a3.2.2.2.1
          have e2 : t1.2.2.2 = s1.2.2.2 := by have x1 := c5.2.2.2.2.2; have x2 := a3.2.2.2.2.2; omega
          rw [e1, e2]
      · have h1 := h1 _ a1 S3
        rw [if_pos rfl] at h1
        refine fin r _ (by rw [h1.2]; exact S3) h1.1 (by rw [h1.2]; exact ea) (fun q2 w4 y => ?_)
        obtain ⟨_, _, y⟩ := LOAD3 h3 z (by rw [h1.2]; exact S3) (by rw [h1.2]; exact ea) y
        rcases y with ⟨_, y2⟩ | ⟨u', t1, t2, y1, _⟩
        · exact Or.inl ⟨a1, y2, rfl⟩
        · rw [a1] at y1; exact absurd y1.symm i10
end HRR
