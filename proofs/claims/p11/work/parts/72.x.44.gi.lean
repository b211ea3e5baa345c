/-! ===== the class reads a tape: from its start ===== -/
section GI
variable {X : pm_X} {k : Nat} {w0 w w' : pm_W} {r : Option Value} {p p1 p2 p3 f0 p0 f q : Int32} {bs : Nat → Int32} {n i v j m : Nat} {b : Bool} {c : Nat → Int32} {g : Int}
/-- the cells at first -/
def i0 (b : Bool) : Nat → Int32 := cond b (fun k => if k = 0 then 4 else 0) (fun _ => 0)
/-- an array of the skeleton, filled -/
theorem F20_n {a N : Nat} (hS : SK w) (ha : sk_a a = true) (hN : (gA w a).length = N) (h1 : N ≤ 1000) (h : PS X k 20 0 [.ref a, .int p, pm_dead, pm_dead] [] w r w') : r = none ∧ FM [] [a] w w' ∧ ∀ q, q < N → (gA w' a).getD q 0 = p := by
  obtain ⟨z1, z2, z3, z4⟩ := F20 hS (SK_isA hS ha) (by omega) h
  exact ⟨z1, z2, fun q hq => z4 q (by omega)⟩
theorem F19 (hS : SK w) (h : PS X k 19 0 [.ref 24] [] w r w') : r = none ∧ FM [(24, 0), (24, 1), (24, 2)] [25, 26, 27, 28] w w' ∧ ∀ k, vcl w' 24 k = i0 true k := by
  cases k with
  | zero => exact (PS_0 h).elim
  | succ k =>
    have h := U19_0 hS h _ rfl _ rfl _ rfl
    obtain ⟨w3, e3⟩ : ∃ w3, w3 = sI (sI (sI w 24 0 4) 24 1 0) 24 2 0 := ⟨_, rfl⟩
    rw [← e3] at h
    have fa : FM [(24, 0), (24, 1), (24, 2)] [25, 26, 27, 28] w (sI w 24 0 4) := FM_sI hS (by decide)
    have fb : FM [(24, 0), (24, 1), (24, 2)] [25, 26, 27, 28] (sI w 24 0 4) (sI (sI w 24 0 4) 24 1 0) := FM_sI fa.2.2.2 (by decide)
    have fc : FM [(24, 0), (24, 1), (24, 2)] [25, 26, 27, 28] (sI (sI w 24 0 4) 24 1 0) w3 := by rw [e3]; exact FM_sI fb.2.2.2 (by decide)
    have f3 := FM_trans fa (FM_trans fb fc)
    have g0 : gI w3 24 0 = 4 := by
      rw [e3, gI_sI_ne (by decide), gI_sI_ne (by decide), gI_sI (SK_isF hS (by decide +kernel))]
    have g1 : gI w3 24 1 = 0 := by
      rw [e3, gI_sI_ne (by decide), gI_sI (SK_isF fa.2.2.2 (by decide +kernel))]
    have g2 : gI w3 24 2 = 0 := by
      rw [e3, gI_sI (SK_isF fb.2.2.2 (by decide +kernel))]
    have S3 := f3.2.2.2
    obtain ⟨r4, w5, q1, h⟩ := h
    rw [(SK_R24 S3).1] at q1
    obtain ⟨a1, a2, a3⟩ := F20_n (N := 81) S3 (by decide +kernel) (SK_len S3 (by decide +kernel) (by decide)) (by decide) q1
    have S5 := a2.2.2.2
    obtain ⟨r6, w7, q2, h⟩ := h a1 S5
    rw [(SK_R24 S5).2.1] at q2
    obtain ⟨b1, b2, b3⟩ := F20_n (N := 9) S5 (by decide +kernel) (SK_len S5 (by decide +kernel) (by decide)) (by decide) q2
    have S7 := b2.2.2.2
    obtain ⟨r8, w9, q3, h⟩ := h b1 S7
    rw [(SK_R24 S7).2.2.1] at q3
    obtain ⟨c1, c2, c3⟩ := F20_n (N := 9) S7 (by decide +kernel) (SK_len S7 (by decide +kernel) (by decide)) (by decide) q3
    have S9 := c2.2.2.2
    obtain ⟨r10, w11, q4, h⟩ := h c1 S9
    rw [(SK_R24 S9).2.2.2] at q4
    obtain ⟨d1, d2, d3⟩ := F20_n (N := 28) S9 (by decide +kernel) (SK_len S9 (by decide +kernel) (by decide)) (by decide) q4
    obtain ⟨h1, h2⟩ := h d1 d2.2.2.2
    subst w'
    refine ⟨h1, FM_trans f3 (FM_trans (FM_mono a2 (by decide) (by decide)) (FM_trans (FM_mono b2 (by decide) (by decide)) (FM_trans (FM_mono c2 (by decide) (by decide)) (FM_mono d2 (by decide) (by decide))))), fun k => ?_⟩
    have e0 : gI w11 24 0 = 4 := by rw [FM_i d2 (by decide), FM_i c2 (by decide), FM_i b2 (by decide), FM_i a2 (by decide), g0]
    have e1 : gI w11 24 1 = 0 := by rw [FM_i d2 (by decide), FM_i c2 (by decide), FM_i b2 (by decide), FM_i a2 (by decide), g1]
    have e2 : gI w11 24 2 = 0 := by rw [FM_i d2 (by decide), FM_i c2 (by decide), FM_i b2 (by decide), FM_i a2 (by decide), g2]
    have k5 : ∀ q, q < 81 → (gA w11 25).getD q 0 = 0 := fun q hq => by rw [FM_a d2 (by decide), FM_a c2 (by decide), FM_a b2 (by decide)]; exact a3 q hq
    have k6 : ∀ q, q < 9 → (gA w11 26).getD q 0 = 0 := fun q hq => by rw [FM_a d2 (by decide), FM_a c2 (by decide)]; exact b3 q hq
    have k7 : ∀ q, q < 9 → (gA w11 27).getD q 0 = 0 := fun q hq => by rw [FM_a d2 (by decide)]; exact c3 q hq
    rw [vcl_pc S3 d2.2.2.2 (c0 := 4) (c1 := 0) (c2 := 0) (dw := fun _ => 0) (df := fun _ => 0) (dr := fun _ => 0) (da := fun _ => 0) e0 e2 e1 k5 k6 k7 d3 k]
    show _ = (if k = 0 then (4 : Int32) else 0)
    by_cases c0 : k = 0
    · rw [if_pos c0, if_pos c0]
    · rw [if_neg c0, if_neg c0]
      split
      · rfl
      · split
        · rfl
        · split
          · rfl
          · split
            · rfl
            · split
              · rfl
              · split <;> rfl
/-- the tape -/
def tb (w : pm_W) (i : Nat) : Int32 := (gA w 4).getD i 0
theorem F18 (hX : XO X) (hS : SK w) (hb : b = decide (p3 = 0)) (hn : p2.toInt = n) (h600 : n ≤ 600) (h : PS X k 18 0 [.ref 23, .ref 4, .int p2, .int p3, pm_dead] [] w r w') : r = none ∧ FM ((23, 3) :: (23, 4) :: flR) alR w w' ∧ ∃ (N : Nat) (o : OC), RDq b (tb w) n N 0 0 (-1) (i0 b) (-1) o ∧ gI w' 23 10 = fF b o ∧ gI w' 23 11 = pF b n o ∧ (fF b o = 0 → CC b w' o.2.2.2.1 o.2.2.2.2) := by
  cases k with
  | zero => exact (PS_0 h).elim
  | succ k =>
    obtain ⟨r1, w2, q1, h⟩ := U18_0 hS h
    obtain ⟨a1, a2, a3⟩ := F19 hS q1
    have S2 := a2.2.2.2
    obtain ⟨r3, w4, q2, h⟩ := h a1 S2
    have F21 : r3 = none ∧ w4 = sI w2 29 0 0 := by
      cases k with
      | zero => exact (PS_0 q2).elim
      | succ k => exact U21_0 S2 q2 _ rfl
    obtain ⟨b1, b2⟩ := F21
    have f4 : FM ((23, 3) :: (23, 4) :: flR) alR w2 w4 := by rw [b2]; exact FM_sI S2 (by decide)
    have S4 := f4.2.2.2
    have g29 : gI w4 29 0 = 0 := by rw [b2, gI_sI (SK_isF S2 (by decide +kernel))]
    have v4 : ∀ k, vcl w4 24 k = i0 true k := fun k => by
      have f4' : FM [(29, 0)] [] w2 w4 := by rw [b2]; exact FM_sI S2 (by decide)
      rw [vcl_FM S2 f4' (by decide) (by decide) (by decide) (by decide) (by decide) (by decide) (by decide) k]
      exact a3 k
    have h := h b1 S4 _ rfl _ rfl _ rfl _ rfl _ rfl _ rfl
    obtain ⟨w5, e5⟩ : ∃ w5, w5 = sR w4 23 3 4 := ⟨_, rfl⟩
    rw [← e5] at h
    have f5 : FM ((23, 3) :: (23, 4) :: flR) alR w4 w5 := by rw [e5]; exact FM_sR S4 (by decide +kernel) (by decide)
    have f5' : FM [(23, 3)] [] w4 w5 := by rw [e5]; exact FM_sR S4 (by decide +kernel) (by decide)
    have g5 : gR w5 23 3 = 4 := by rw [e5]; exact gR_sR S4 (by decide +kernel)
    have S5 := f5.2.2.2
    have l4 : (gA w5 4).length = 600 := SK_len S5 (by decide +kernel) (by decide)
    have en : (if (Int32.ofNat (gN w5 4)) < p2 then (Int32.ofNat (gN w5 4)) else p2) = p2 := by
      rw [gN_A (SK_isA S5 (by decide +kernel)), l4]
      refine if_neg ?_
      rw [Int32.lt_iff_toInt_lt, show (Int32.ofNat 600).toInt = 600 from by decide +kernel]
      omega
    rw [en] at h
    obtain ⟨w10, e10⟩ : ∃ w10, w10 = sI (sI (sI (sI (sI w5 23 4 p2) 23 5 0) 23 9 (-1)) 23 10 0) 23 11 (-1) := ⟨_, rfl⟩
    rw [← e10] at h
    have s6 : FM [(23, 4), (23, 5), (23, 9), (23, 10), (23, 11)] [] w5 (sI w5 23 4 p2) := FM_sI S5 (by decide)
    have s7 : FM [(23, 4), (23, 5), (23, 9), (23, 10), (23, 11)] [] (sI w5 23 4 p2) (sI (sI w5 23 4 p2) 23 5 0) := FM_sI s6.2.2.2 (by decide)
    have s8 : FM [(23, 4), (23, 5), (23, 9), (23, 10), (23, 11)] [] (sI (sI w5 23 4 p2) 23 5 0) (sI (sI (sI w5 23 4 p2) 23 5 0) 23 9 (-1)) := FM_sI s7.2.2.2 (by decide)
    have s9 : FM [(23, 4), (23, 5), (23, 9), (23, 10), (23, 11)] [] (sI (sI (sI w5 23 4 p2) 23 5 0) 23 9 (-1)) (sI (sI (sI (sI w5 23 4 p2) 23 5 0) 23 9 (-1)) 23 10 0) := FM_sI s8.2.2.2 (by decide)
    have s10 : FM [(23, 4), (23, 5), (23, 9), (23, 10), (23, 11)] [] (sI (sI (sI (sI w5 23 4 p2) 23 5 0) 23 9 (-1)) 23 10 0) w10 := by rw [e10]; exact FM_sI s9.2.2.2 (by decide)
    have f10 := FM_trans s6 (FM_trans s7 (FM_trans s8 (FM_trans s9 s10)))
    have t4 : gI w10 23 4 = p2 := by
      rw [e10, gI_sI_ne (by decide), gI_sI_ne (by decide), gI_sI_ne (by decide), gI_sI_ne (by decide), gI_sI (SK_isF S5 (by decide +kernel))]
    have t5 : gI w10 23 5 = 0 := by
      rw [e10, gI_sI_ne (by decide), gI_sI_ne (by decide), gI_sI_ne (by decide), gI_sI (SK_isF s6.2.2.2 (by decide +kernel))]
    have t9 : gI w10 23 9 = -1 := by
      rw [e10, gI_sI_ne (by decide), gI_sI_ne (by decide), gI_sI (SK_isF s7.2.2.2 (by decide +kernel))]
    have t10 : gI w10 23 10 = 0 := by
      rw [e10, gI_sI_ne (by decide), gI_sI (SK_isF s8.2.2.2 (by decide +kernel))]
    have t11 : gI w10 23 11 = -1 := by
      rw [e10, gI_sI (SK_isF s9.2.2.2 (by decide +kernel))]
    have S10 := f10.2.2.2
    obtain ⟨r11, w12, q3, h⟩ := h
    obtain ⟨c1, c2, c3⟩ := F23 S10 (by rw [t5]; decide) q3
    have S12 := c2.2.2.2
    have h := h c1 S12
    have fAll : FM ((23, 3) :: (23, 4) :: flR) alR w w12 := FM_trans (FM_mono a2 (by decide) (by decide)) (FM_trans f4 (FM_trans f5 (FM_trans (FM_mono f10 (by decide) (by decide)) (FM_mono c2 (by decide) (by decide)))))
    have g10 : gR w10 23 3 = 4 := (FM_r f10 (by decide)).trans g5
    have cbe : cb w10 = tb w := by
      funext i
      unfold cb tb
      rw [g10, FM_a f10 (by intro z; cases z), FM_a f5 (by decide), FM_a f4 (by decide), FM_a a2 (by decide)]
    have cne : cn w10 = n := by
      unfold cn
      rw [t4]
      omega
    have cate : cat w10 = 0 := by
      unfold cat
      rw [t5]
      rfl
    unfold TKc at c3
    rw [cbe, cne, cate] at c3
    have hCS : CS w12 (tb w) n 0 0 (-1) := by
      refine ⟨S12, c3, ?_, ?_, ?_, ?_, ?_, ?_, h600, Nat.zero_le _⟩
      · exact (cb_FM c2 (by decide) (by intro z; cases z)).trans cbe
      · exact (cn_FM c2 (by decide)).trans cne
      · rw [FM_i c2 (by decide)]; exact t10
      · rw [FM_i c2 (by decide)]; exact t11
      · have e2 : gI w12 24 2 = 0 := by
          rw [FM_i c2 (by decide), FM_i f10 (by decide), FM_i f5' (by decide), ← vcl_1, v4 1]
          rfl
        have e0 : gI w12 29 0 = 0 := by
          rw [FM_i c2 (by decide), FM_i f10 (by decide), FM_i f5' (by decide)]
          exact g29
        refine ⟨SK_len S12 (by decide +kernel) (by decide), SK_len S12 (by decide +kernel) (by decide), SK_len S12 (by decide +kernel) (by decide), SK_len S12 (by decide +kernel) (by decide), SK_len S12 (by decide +kernel) (by decide), ?_, ?_, ?_, ?_⟩
        · rw [e2]; decide
        · rw [e2]; decide
        · rw [e0]; decide
        · rw [e0]; decide
      · exact (FM_r c2 (by decide)).trans g10
    have hCC : CC b w12 (i0 b) (-1) := by
      cases b with
      | true =>
        rw [CC_t]
        refine ⟨fun k => ?_, ?_⟩
        · rw [vcl_FM S10 c2 (by decide) (by decide) (by decide) (by decide) (by decide) (by decide) (by decide) k, vcl_FM S5 f10 (by decide) (by decide) (by decide) (by decide) (by decide) (by decide) (by decide) k, vcl_FM S4 f5' (by decide) (by decide) (by decide) (by decide) (by decide) (by decide) (by decide) k]
          exact v4 k
        · rw [FM_i c2 (by decide), t9]
          decide +kernel
      | false =>
        rw [CC_f]
        refine ⟨?_, fun q hq => ?_⟩
        · rw [FM_i c2 (by decide), FM_i f10 (by decide), FM_i f5' (by decide)]
          exact g29
        · exact absurd hq (by show ¬ q < 0; omega)
    obtain ⟨z1, z2, N, o, z3⟩ := F18_56 hX hb _ w12 0 0 (-1) (i0 b) (-1) 0 0 hCS hCC (by rw [FM_i c2 (by decide), t4]; exact hn) z32 (Nat.le_refl _) h
    exact ⟨z1, FM_trans fAll (FM_mono z2 (by decide) (by decide)), N, o, z3⟩
end GI
