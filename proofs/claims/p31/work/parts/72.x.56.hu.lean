/-! ===== falls ===== -/
section HUF
variable {X : pm_X} {k k2 : Nat} {w0 w w1 w2 w3 w4 w' : pm_W} {r r2 q1 q2 : Option Value} {p p1 p2 p3 p4 p5 i1 i2 i3 sl y z z1 z2 : Int32} {n i v j m u u2 P t s a b Q B rr len o3 N K x S : Nat} {V V' G G1 G2 : Nat → Int32} {Es Es' : Nat → Nat → Int32} {s0 s1 s2 t1 t2 : SN} {c d f g : Nat → Bool}
def anN (f : Nat → Bool) : Nat → Bool
  | 0 => false
  | n + 1 => anN f n || f n
theorem anN_cg : ∀ n, (∀ K, K < n → f K = g K) → anN f n = anN g n
  | 0, _ => rfl
  | n + 1, h => by
    unfold anN
    rw [anN_cg n (fun K hK => h K (by omega)), h n (by omega)]
theorem MSK_S (hz : z.toInt = S) (hS : S < 512) (hb : ∀ b, b < 9 → S.testBit b = c b) : MSK z 9 c := by
  intro i hi
  rw [i32_of hz (by omega), show (Int32.ofNat S).toBitVec = BitVec.ofNat 32 S from rfl, BitVec.getLsbD_ofNat, decide_eq_true hi, Bool.true_and]
  by_cases e : i < 9
  · rw [hb i e, decide_eq_true e]; rfl
  · rw [decide_eq_false e, Nat.testBit_lt_two_pow (Nat.lt_of_lt_of_le hS (show 2 ^ 9 ≤ 2 ^ i from Nat.pow_le_pow_right (by decide) (by omega)))]; rfl
/-- who is in an open ring with x -/
def hiB (x : Nat) (G : Nat → Int32) (N : Nat) (b : Nat) : Bool := anN (fun K => cF x G K && inR G K b (rMy G K)) N
theorem hiB_s : hiB x G (t + 1) b = (hiB x G t b || (cF x G t && inR G t b (rMy G t))) := rfl
theorem F123_4 (hS : SK w) (ok : okS a = true) (hP : P ≤ 9) (hN : (gI w a 2).toInt = N) (hN30 : N ≤ 30) (hW : ∀ K, K < N → WRg P (gAr w a) K) (hx : p1.toInt = x) (hx9 : x < 9) : ∀ (k t : Nat) (i2 i3 : Int32), i3.toInt = t → t ≤ N → MSK i2 30 (fun K => decide (K < t) && cF x (gAr w a) K) → PS X k 123 4 [.ref a, .int p1, .int i2, .int i3] [] w r w' → (∃ z, r = some (.int z) ∧ MSK z 30 (fun K => decide (K < N) && cF x (gAr w a) K)) ∧ w' = w := by
  intro k
  induction k with
  | zero => intro t i2 i3 _ _ _ h; exact (PS_0 h).elim
  | succ k ih =>
    intro t i2 i3 h3 ht hm h
    have h := U123_4 hS h
    by_cases c : gI w a 2 ≤ i3
    · rw [if_pos c] at h
      rw [Int32.le_iff_toInt_le, hN, h3] at c
      have e : t = N := by omega
      rw [e] at hm
      exact ⟨⟨i2, h.1, hm⟩, h.2⟩
    · rw [if_neg c] at h
      rw [Int32.le_iff_toInt_le, hN, h3] at c
      have e1 : (i3 + 1).toInt = ((t + 1 : Nat) : Int) := by rw [zi_inc (n := 40) (by omega) (by omega), h3]; rfl
      have h := use_p hS h (fun _ _ z => F87 (K := t) ok hP hS h3 (by omega) (hW t (by omega)) hx hx9 z)
      cases ho : cF x (gAr w a) t with
      | false =>
        rw [ho, if_pos (by decide +kernel)] at h
        exact ih (t + 1) _ _ e1 (by omega) (MSK_sF hm ho) h
      | true =>
        rw [ho, if_neg (by decide +kernel)] at h
        exact ih (t + 1) _ _ e1 (by omega) (MSK_sT hm ho h3 (by omega) (by decide)) h
theorem F122_4 (hS : SK w) (ok : okS a = true) (hP : P ≤ 9) (hN : (gI w a 2).toInt = N) (hN30 : N ≤ 30) (hW : ∀ K, K < N → WRg P (gAr w a) K) (hx : p1.toInt = x) (hx9 : x < 9) : ∀ (k t : Nat) (i2 i3 : Int32), i3.toInt = t → t ≤ N → MSK i2 9 (hiB x (gAr w a) t) → PS X k 122 4 [.ref a, .int p1, .int i2, .int i3] [] w r w' → (∃ z, r = some (.int z) ∧ MSK z 9 (fun b => hiB x (gAr w a) N b && !decide (b = x))) ∧ w' = w := by
  intro k
  induction k with
  | zero => intro t i2 i3 _ _ _ h; exact (PS_0 h).elim
  | succ k ih =>
    intro t i2 i3 h3 ht hm h
    have h := U122_4 hS h
    by_cases c : gI w a 2 ≤ i3
    · rw [if_pos c] at h
      rw [Int32.le_iff_toInt_le, hN, h3] at c
      have e : t = N := by omega
      rw [e] at hm
      exact ⟨⟨_, h.1, MSK_cl hm hx (by omega)⟩, h.2⟩
    · rw [if_neg c] at h
      rw [Int32.le_iff_toInt_le, hN, h3] at c
      have e1 : (i3 + 1).toInt = ((t + 1 : Nat) : Int) := by rw [zi_inc (n := 40) (by omega) (by omega), h3]; rfl
      have h := use_p hS h (fun _ _ z => F87 (K := t) ok hP hS h3 (by omega) (hW t (by omega)) hx hx9 z)
      cases ho : cF x (gAr w a) t with
      | false =>
        rw [ho, if_pos (by decide +kernel)] at h
        refine ih (t + 1) _ _ e1 (by omega) (MSK_cg (MSK_o0 hm) (fun b _ => ?_)) h
        rw [hiB_s, ho, Bool.false_and, Bool.or_false]
      | true =>
        rw [ho, if_neg (by decide +kernel)] at h
        obtain ⟨q4, w5, y, h⟩ := h
        obtain ⟨z, ⟨S, z1, z2, z3⟩, z4, z5⟩ := F88 (K := t) ok hP hS h3 (by omega) (hW t (by omega)) y
        have h := h _ z4 (by rw [z5]; exact hS)
        rw [z5] at h
        refine ih (t + 1) _ _ e1 (by omega) (MSK_cg (MSK_or hm (MSK_S z1 z2 z3)) (fun b _ => ?_)) h
        rw [hiB_s, ho, Bool.true_and]
/-- the reference -/
theorem F299_4 (hS : SK w) (hP : P ≤ 9) (hN : (gI w 147 14).toInt = N) (hN30 : N ≤ 30) (hW : ∀ K, K < N → WRg P (gRr w) K) (hx : p1.toInt = x) : ∀ (k t : Nat) (i2 i3 : Int32), i3.toInt = t → t ≤ N → MSK i2 30 (fun K => decide (K < t) && cF x (gRr w) K) → PS X k 299 4 [.ref 147, .int p1, .int i2, .int i3] [] w r w' → (∃ z, r = some (.int z) ∧ MSK z 30 (fun K => decide (K < N) && cF x (gRr w) K)) ∧ w' = w := by
  intro k
  induction k with
  | zero => intro t i2 i3 _ _ _ h; exact (PS_0 h).elim
  | succ k ih =>
    intro t i2 i3 h3 ht hm h
    have h := U299_4 hS h
    by_cases c : gI w 147 14 ≤ i3
    · rw [if_pos c] at h
      rw [Int32.le_iff_toInt_le, hN, h3] at c
      have e : t = N := by omega
      rw [e] at hm
      exact ⟨⟨i2, h.1, hm⟩, h.2⟩
    · rw [if_neg c] at h
      rw [Int32.le_iff_toInt_le, hN, h3] at c
      have e1 : (i3 + 1).toInt = ((t + 1 : Nat) : Int) := by rw [zi_inc (n := 40) (by omega) (by omega), h3]; rfl
      have h := use_p hS h (fun _ _ z => F236 (K := t) hS h3 (by omega) z)
      cases ho : opn (gRr w) t with
      | false =>
        rw [ho, if_pos (by decide +kernel)] at h
        exact ih (t + 1) _ _ e1 (by omega) (MSK_sF hm (by unfold cF; rw [ho]; rfl)) h
      | true =>
        rw [ho, if_neg (by decide +kernel)] at h
        have h := use_p hS h (fun _ _ z => F239 (K := t) hS hP h3 (by omega) (hW t (by omega)) hx z)
        cases hi : inR (gRr w) t x (rMy (gRr w) t) with
        | false =>
          rw [hi, if_pos (by decide +kernel)] at h
          exact ih (t + 1) _ _ e1 (by omega) (MSK_sF hm (by unfold cF; rw [ho, hi]; rfl)) h
        | true =>
          rw [hi, if_neg (by decide +kernel)] at h
          exact ih (t + 1) _ _ e1 (by omega) (MSK_sT hm (by unfold cF; rw [ho, hi]; rfl) h3 (by omega) (by decide)) h
theorem F298_30 {i6 : Int32} (hS : SK w) (hP : P ≤ 9) (hN : (gI w 147 14).toInt = N) (hN30 : N ≤ 30) (hW : ∀ K, K < N → WRg P (gRr w) K) (hx : p4.toInt = x) (hx9 : x < 9) (h6 : MSK i6 30 (fun K => decide (K < N) && cF x (gRr w) K)) : ∀ k : Nat, (∀ (t : Nat) (i7 i8 : Int32) (u9 : Value), i8.toInt = t → t ≤ N → MSK i7 9 (hiB x (gRr w) t) → PS X k 298 30 [.ref 147, .int i1, .int i2, .int i3, .int p4, .int p5, .int i6, .int i7, .int i8, u9] [] w r w' → (∃ z, r = some (.int z) ∧ if p5 = 0 then z = i6 else MSK z 9 (fun b => hiB x (gRr w) N b && !decide (b = x))) ∧ w' = w) ∧ (∀ (t j : Nat) (i7 i8 i9 : Int32), i8.toInt = t → t < N → i9.toInt = j → j ≤ rMy (gRr w) t → MSK i7 9 (fun b => hiB x (gRr w) t b || (cF x (gRr w) t && inR (gRr w) t b j)) → PS X k 298 42 [.ref 147, .int i1, .int i2, .int i3, .int p4, .int p5, .int i6, .int i7, .int i8, .int i9] [] w r w' → (∃ z, r = some (.int z) ∧ if p5 = 0 then z = i6 else MSK z 9 (fun b => hiB x (gRr w) N b && !decide (b = x))) ∧ w' = w) := by
  intro k
  induction k with
  | zero => exact ⟨fun _ _ _ _ _ _ _ h => (PS_0 h).elim, fun _ _ _ _ _ _ _ _ _ _ h => (PS_0 h).elim⟩
  | succ k ih =>
    refine ⟨fun t i7 i8 u9 h8 ht hm h => ?_, fun t j i7 i8 i9 h8 ht h9 hj hm h => ?_⟩
    · have h := U298_30 hS h
      by_cases c : gI w 147 14 ≤ i8
      · rw [if_pos c] at h
        rw [Int32.le_iff_toInt_le, hN, h8] at c
        have e : t = N := by omega
        rw [e] at hm
        by_cases c5 : p5 = 0
        · rw [if_pos c5] at h
          exact ⟨⟨i6, h.1, by rw [if_pos c5]⟩, h.2⟩
        · rw [if_neg c5] at h
          exact ⟨⟨_, h.1, by rw [if_neg c5]; exact MSK_cl hm hx (by omega)⟩, h.2⟩
      · rw [if_neg c] at h
        rw [Int32.le_iff_toInt_le, hN, h8] at c
        exact ih.2 t 0 i7 i8 0 h8 (by omega) z32 (Nat.zero_le _) (MSK_cg hm (fun b _ => by
          show (hiB x (gRr w) t b || (cF x (gRr w) t && false)) = _
          rw [Bool.and_false, Bool.or_false])) h
    · obtain ⟨_, h⟩ := U298_42 hS h
      have wr := hW t ht
      have eg : aG w 153 (10 * i8) = gRr w (10 * t) := aG_n (m := 10 * t) (by rw [zi_mul ten32 h8 (by omega) (by omega)]; omega)
      have m6 : rMy (gRr w) t ≤ 6 := by have := wr.2.1; unfold rMy; omega
      have hmy : (gRr w (10 * t)).toInt = (rMy (gRr w) t : Nat) := by have := wr.1; unfold rMy; omega
      rw [eg] at h
      by_cases c : gRr w (10 * t) ≤ i9
      · rw [if_pos c] at h
        rw [Int32.le_iff_toInt_le, hmy, h9] at c
        have e : j = rMy (gRr w) t := by omega
        rw [e] at hm
        exact ih.1 (t + 1) i7 (i8 + 1) _ (by rw [zi_inc (n := 40) (by omega) (by omega), h8]; rfl) (by omega) hm h
      · rw [if_neg c] at h
        rw [Int32.le_iff_toInt_le, hmy, h9] at c
        have e1 : (i9 + 1).toInt = ((j + 1 : Nat) : Int) := by rw [zi_inc (n := 40) (by omega) (by omega), h9]; rfl
        have tb : ((i6 >>> (i8 &&& 31)) &&& 1) = 1 ↔ (decide (t < N) && cF x (gRr w) t) = true := MSK_t h6 h8 (by omega) (by decide)
        rw [decide_eq_true ht, Bool.true_and] at tb
        have who : (gRr w (10 * t + 4 + j)).toInt = (rWho (gRr w) t j : Nat) := by
          have z := wr.2.2.2.2.2.2.2.1 j (by omega)
          unfold rWho
          omega
        have wP := WR_who wr (i := j) (by omega)
        by_cases c1 : ((i6 >>> (i8 &&& 31)) &&& 1) = 1
        · rw [if_pos c1] at h
          have ho := tb.mp c1
          have h := use_p hS h (fun _ _ z => F234 (K := t) (j := j) hS h8 h9 (by omega) (by omega) z)
          refine ih.2 t (j + 1) _ i8 _ h8 ht e1 (by omega) (MSK_cg (MSK_ob hm who (by omega) (by decide)) (fun b _ => ?_)) h
          show (hiB x (gRr w) t b || (cF x (gRr w) t && (inR (gRr w) t b j || decide (rWho (gRr w) t j = b)))) = (hiB x (gRr w) t b || (cF x (gRr w) t && inR (gRr w) t b j) || decide (b = rWho (gRr w) t j))
          rw [ho, Bool.true_and, Bool.true_and, Bool.or_assoc]
          by_cases e : b = rWho (gRr w) t j
          · rw [decide_eq_true e, decide_eq_true e.symm]
          · rw [decide_eq_false e, decide_eq_false (fun z => e z.symm)]
        · rw [if_neg c1] at h
          have ho : cF x (gRr w) t = false := by
            cases hh : cF x (gRr w) t with
            | false => rfl
            | true => exact absurd (tb.mpr hh) c1
          refine ih.2 t (j + 1) _ i8 _ h8 ht e1 (by omega) (MSK_cg (MSK_o0 hm) (fun b _ => ?_)) h
          rw [ho, Bool.false_and, Bool.false_and]
theorem hiB_RG (h : RG2 N G1 G2) : hiB x G2 N b = hiB x G1 N b := by
  unfold hiB
  refine anN_cg N (fun K hK => ?_)
  rw [cF_RG h hK, RG2_my h hK, inR_RG h hK _ (Nat.le_refl _)]
/-- falls -/
theorem RC_26 (h3 : RL3 w) (h1 : PS X k 121 0 [.ref 0, .int p1, .int p2, .int p3, .int p4, .int p5] [] w r w1) (h2 : PS X k2 298 0 [.ref 147, .int p1, .int p2, .int p3, .int p4, .int p5, pm_dead, pm_dead, pm_dead, pm_dead] [] w1 r2 w2) : r2 = r := by
  have hS := h3.1.1
  cases k with
  | zero => exact (PS_0 h1).elim
  | succ k =>
    cases k2 with
    | zero => exact (PS_0 h2).elim
    | succ k2 =>
      obtain ⟨q1, w3, z, h1⟩ := U121_0 hS h1
      obtain ⟨k', q2, z2, alt⟩ := F101 h3 z
      obtain ⟨f1, _⟩ := F98 h3 z2
      have S3 : SK w3 := f1.2.2.2
      have ea := FM_al f1
      have none0 : (q2 = some (.int 0) ∨ ∃ u : Nat, p1.toInt = u ∧ ¬ (0 ≤ p4.toInt ∧ p4.toInt < (Pof (al w) u : Nat))) → q1 = some (.int 0) → r2 = r := by
        intro hq h0
        have h1 := h1 _ h0 S3
        rw [if_pos rfl] at h1
        rw [h1.2] at h2
        obtain ⟨q6, w6, y6, h2⟩ := U298_0 S3 h2
        obtain ⟨S6, e6, alt2⟩ := F245 h3 z2 S3 ea y6
        have : q6 = some (.int 0) := by
          rcases alt2 with ⟨_, x⟩ | ⟨u, t1, t2, b1, b3, b4, b5, b6, b7, b8⟩
          · exact x
          · rcases hq with x | ⟨u', x1, x2⟩
            · rw [b1] at x; exact absurd x i10
            · have e : u' = u := by omega
              rw [e] at x2
              rw [b8, decide_eq_false (fun y => x2 y.1)]; rfl
        have h2 := h2 _ this S6
        rw [if_pos rfl] at h2
        rw [h2.1, h1.1]
      rcases alt with ⟨a0, a1⟩ | ⟨a1, u, s1, a2, a3, a4⟩
      · exact none0 (Or.inl a0) a1
      · by_cases c : 0 ≤ p4.toInt ∧ p4.toInt < (Pof (al w) u : Nat)
        · rw [decide_eq_true c] at a4
          have h1 := h1 _ a4 S3
          rw [if_neg (by decide +kernel)] at h1
          obtain ⟨v1, _, v3, v2, v4⟩ := VA_v h3.2 a2.2.1
          obtain ⟨x, hx⟩ : ∃ x : Nat, p4.toInt = x := ⟨p4.toInt.toNat, by omega⟩
          have hN := LDR_N h3.2 h3.1.2.1.1 a2
          have hw1 := (LDR_2 h3.2 a2 a2).2.2.2.2.2.1.2
          have eg1 : gAr w3 33 = s1.2.1 := a3.2.2.2.1
          have clr : (∃ zc, r = some (.int zc) ∧ if p5 = 0 then MSK zc 30 (fun K => decide (K < s1.2.2.2) && cF x s1.2.1 K) else MSK zc 9 (fun b => hiB x s1.2.1 s1.2.2.2 b && !decide (b = x))) ∧ w1 = w3 := by
            by_cases c5 : p5 = 0
            · rw [if_pos c5] at h1
              obtain ⟨q4, w5, y, h5⟩ := h1
              cases k with
              | zero => exact (PS_0 y).elim
              | succ k =>
                obtain ⟨⟨z4, b1, b2⟩, b3⟩ := F123_4 (N := s1.2.2.2) S3 (by decide +kernel) v1 a3.2.2.2.2.2 hN (by rw [eg1]; exact hw1) hx (by omega) _ 0 0 0 z32 (Nat.zero_le _) (MSK_z (fun b _ => by rw [decide_eq_false (Nat.not_lt_zero b)]; rfl)) (U123_0 S3 y)
                rw [b3] at h5
                obtain ⟨d1, d2⟩ := h5 _ b1 S3
                rw [eg1] at b2
                exact ⟨⟨z4, d1, by rw [if_pos c5]; exact b2⟩, d2⟩
            · rw [if_neg c5] at h1
              obtain ⟨q4, w5, y, h5⟩ := h1
              cases k with
              | zero => exact (PS_0 y).elim
              | succ k =>
                obtain ⟨⟨z4, b1, b2⟩, b3⟩ := F122_4 (N := s1.2.2.2) S3 (by decide +kernel) v1 a3.2.2.2.2.2 hN (by rw [eg1]; exact hw1) hx (by omega) _ 0 0 0 z32 (Nat.zero_le _) (MSK_z (fun b _ => rfl)) (U122_0 S3 y)
                rw [b3] at h5
                obtain ⟨d1, d2⟩ := h5 _ b1 S3
                rw [eg1] at b2
                exact ⟨⟨z4, d1, by rw [if_neg c5]; exact b2⟩, d2⟩
          obtain ⟨⟨zc, r1, r3⟩, r4⟩ := clr
          rw [r4] at h2
          obtain ⟨q6, w6, y6, h2⟩ := U298_0 S3 h2
          obtain ⟨S6, e6, alt2⟩ := F245 h3 z2 S3 ea y6
          rcases alt2 with ⟨x0, _⟩ | ⟨u', t1, t2, b1, b3, b4, b5, b6, b7, b8⟩
          · rw [a1] at x0; exact absurd x0 i10
          · have eu : u' = u := by have := a2.1; omega
            subst eu
            rw [decide_eq_true ⟨c, c⟩] at b8
            have h2 := h2 _ b8 S6
            rw [if_neg (by decide +kernel)] at h2
            obtain ⟨q7, w7, y7, h7⟩ := h2
            have eN1 : t1.2.2.2 = s1.2.2.2 := by have x1 := b6.2.2.2.2.2; have x2 := a3.2.2.2.2.2; omega
            have eN : (gI w6 147 14).toInt = s1.2.2.2 := by rw [b7.2.2.2, b5.2.2.1, eN1]
            have hl := b5.2.2.2
            rw [eN1] at hl
            have e1 : t1.2.1 = s1.2.1 := b6.2.2.2.1.symm.trans eg1
            have e2 : gRr w6 = t2.2.1 := b7.2.1
            rw [e1] at hl
            cases k2 with
            | zero => exact (PS_0 y7).elim
            | succ k2 =>
              obtain ⟨⟨z5, x1, x2⟩, x3⟩ := F299_4 S6 v1 eN hN (by rw [e2]; exact hl.2.2.2) hx _ 0 0 0 z32 (Nat.zero_le _) (MSK_z (fun b _ => by rw [decide_eq_false (Nat.not_lt_zero b)]; rfl)) (U299_0 S6 y7)
              rw [x3] at h7
              have h2 := h7 _ x1 S6
              obtain ⟨⟨z6, g1, g2⟩, g3⟩ := (F298_30 S6 v1 eN hN (by rw [e2]; exact hl.2.2.2) hx (by omega) x2 _).1 0 0 0 _ z32 (Nat.zero_le _) (MSK_z (fun b _ => rfl)) h2
              rw [e2] at x2 g2
              have : z6 = zc := by
                by_cases c5 : p5 = 0
                · rw [if_pos c5] at g2 r3
                  rw [g2]
                  refine MSK_uq x2 r3 (fun b _ => ?_)
                  by_cases e : b < s1.2.2.2
                  · rw [cF_RG hl.1 e]
                  · rw [decide_eq_false e, Bool.false_and, Bool.false_and]
                · rw [if_neg c5] at g2 r3
                  refine MSK_uq g2 r3 (fun b _ => ?_)
                  rw [hiB_RG hl.1]
              rw [g1, r1, this]
        · rw [decide_eq_false c] at a4
          exact none0 (Or.inr ⟨u, a2.1, c⟩) a4
end HUF
