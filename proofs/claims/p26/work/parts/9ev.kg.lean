/-! ===== need: one more unit on its way, as runs that end ===== -/
section KGA
variable {X : pm_X} {k k2 : Nat} {w0 w w1 w2 wj wk w' : pm_W} {r r2 q0 q1 : Option Value} {p1 p2 p3 p4 p5 i1 i2 i3 i4 i5 i6 i7 z z1 z2 x y v : Int32} {a b c i j m u P t s d q N : Nat} {e K δ : Int} {u3 u4 u5 : Value} {D0 : Nat → Int} {rk : Int → Nat}
theorem gA_up (h : isA w a) : gA (aS w a x y) = upa (gA w) a ((gA w a).set x.toNatClampNeg y) := by
  funext q
  unfold upa
  cases hq : Nat.beq q a with
  | true =>
    rw [Nat.eq_of_beq_eq_true hq, gA_aS h]
    rfl
  | false => exact gA_aS_ne (fun e => by rw [e, Nat.beq_refl] at hq; cases hq)
theorem gA_un (h : isA w a) (hx : x.toInt = (i : Nat)) : gA (aS w a x y) = upa (gA w) a ((gA w a).set ((i : Nat) : Int).toNat y) := by
  rw [gA_up h, i_nat hx]
  rfl
theorem ix_c : 10 * (a : Int) + (b : Int) = ((10 * a + b : Nat) : Int) := by omega
theorem mo_fr : fr (gA w 161) (10 * (a : Int) + (b : Int)) = moR w a b := by rw [ix_c]; rfl
theorem lo_fr : fr (gA w 160) (10 * (a : Int) + (b : Int)) = loR w a b := by rw [ix_c]; rfl
theorem fw_fr : fr (gA w 162) (10 * (a : Int) + (b : Int)) = fwR w a b := by rw [ix_c]; rfl
theorem wv_n : wv (gA w) a b = moR w a b - loR w a b - fwR w a b := by
  unfold wv
  rw [mo_fr, lo_fr, fw_fr]
/-- as much as is looked at here -/
def bnD (w : pm_W) : Prop := ∀ i j, i < 10 → j < 10 → (0 ≤ moR w i j ∧ moR w i j ≤ 99) ∧ (0 ≤ loR w i j ∧ loR w i j ≤ 700) ∧ 0 ≤ fwR w i j ∧ fwR w i j ≤ 20002
theorem bnD_BN (h : BN (gA w) K) (hK : K ≤ 20002) : bnD w := fun i j hi hj => by
  obtain ⟨h1, h2, h3⟩ := h (10 * (i : Int) + (j : Int)) (by omega) (by omega)
  rw [mo_fr] at h1
  rw [lo_fr] at h2
  rw [fw_fr] at h3
  exact ⟨h1, h2, h3.1, by omega⟩
theorem bnD_fm {fs : List (Nat × Nat)} {as : List Nat} (h : bnD w) (f : FM fs as w w') (h0 : 160 ∉ as) (h1 : 161 ∉ as) (h2 : 162 ∉ as) : bnD w' := by
  unfold bnD
  rw [mo_fm f h1, lo_fm f h0, fw_fm f h2]
  exact h
theorem F296 (hS : SK w) (hB : bnD w) (h1 : p1.toInt = a) (h2 : p2.toInt = b) (ha : a < 10) (hb : b < 10) (h : PS X k 296 0 [.ref 147, .int p1, .int p2] [] w r w') : ∃ z : Int32, z.toInt = wv (gA w) a b ∧ r = some (.int z) ∧ w' = w := by
  cases k with
  | zero => exact (PS_0 h).elim
  | succ k =>
    obtain ⟨_, _, _, h⟩ := U296_0 hS h
    have ix := ix10 h1 h2 ha hb
    have v1 : (aG w 161 (10 * p1 + p2)).toInt = moR w a b := by rw [aG_n ix]; rfl
    have v2 : (aG w 160 (10 * p1 + p2)).toInt = loR w a b := by rw [aG_n ix]; rfl
    have v3 : (aG w 162 (10 * p1 + p2)).toInt = fwR w a b := by rw [aG_n ix]; rfl
    have q := hB a b ha hb
    refine ⟨_, ?_, h.1, h.2⟩
    rw [zi_sub (zi_sub v1 v2 (by omega) (by omega)) v3 (by omega) (by omega), wv_n]
theorem F295 (hS : SK w) (hB : bnD w) (h1 : p1.toInt = a) (h2 : p2.toInt = b) (ha : a < 10) (hb : b < 10) (h : PS X k 295 0 [.ref 147, .int p1, .int p2, pm_dead, pm_dead] [] w r w') : ∃ z : Int32, z.toInt = pv (gA w) a b ∧ r = some (.int z) ∧ w' = w := by
  cases k with
  | zero => exact (PS_0 h).elim
  | succ k =>
    obtain ⟨zw, hw, h⟩ := use_z hS (U295_0 hS h) (fun _ _ y => F296 hS hB h1 h2 ha hb y)
    have sp := prc_spec (wv (gA w) a b) (fr (gA w 162) (10 * (b : Int) + (a : Int))) (wv (gA w) b a)
    have hpv : pv (gA w) a b = prc (wv (gA w) a b) (fr (gA w 162) (10 * (b : Int) + (a : Int))) (wv (gA w) b a) := rfl
    have vf : (aG w 162 (10 * p2 + p1)).toInt = fr (gA w 162) (10 * (b : Int) + (a : Int)) := by rw [aG_n (ix10 h2 h1 hb ha), fw_fr]; rfl
    have m1 : (-1 : Int32).toInt = -1 := m1i
    by_cases c1 : zw ≤ 0
    · rw [if_pos c1] at h
      rw [Int32.le_iff_toInt_le, z32, hw] at c1
      obtain ⟨_, h⟩ := h
      by_cases c2 : aG w 162 (10 * p2 + p1) = 0
      · rw [if_pos c2] at h
        rw [c2, z32] at vf
        exact ⟨1, by rw [o32, hpv]; omega, h⟩
      · rw [if_neg c2] at h
        have n0 : fr (gA w 162) (10 * (b : Int) + (a : Int)) ≠ 0 := fun e => c2 (Int32.toInt_inj.mp (by rw [vf, e, z32]))
        obtain ⟨z2, hw2, h⟩ := use_z hS h (fun _ _ y => F296 hS hB h2 h1 hb ha y)
        by_cases c3 : 0 ≤ z2
        · rw [if_pos c3] at h
          rw [Int32.le_iff_toInt_le, z32, hw2] at c3
          exact ⟨0, by rw [z32, hpv]; omega, h⟩
        · rw [if_neg c3] at h
          rw [Int32.le_iff_toInt_le, z32, hw2] at c3
          exact ⟨-1, by rw [m1, hpv]; omega, h⟩
    · rw [if_neg c1] at h
      rw [Int32.le_iff_toInt_le, z32, hw] at c1
      obtain ⟨_, h⟩ := h
      by_cases c2 : aG w 162 (10 * p2 + p1) = 0
      · rw [if_pos c2] at h
        rw [c2, z32] at vf
        exact ⟨0, by rw [z32, hpv]; omega, h⟩
      · rw [if_neg c2] at h
        have n0 : fr (gA w 162) (10 * (b : Int) + (a : Int)) ≠ 0 := fun e => c2 (Int32.toInt_inj.mp (by rw [vf, e, z32]))
        obtain ⟨z2, hw2, h⟩ := use_z hS h (fun _ _ y => F296 hS hB h2 h1 hb ha y)
        by_cases c3 : 0 ≤ z2
        · rw [if_pos c3] at h
          rw [Int32.le_iff_toInt_le, z32, hw2] at c3
          exact ⟨0, by rw [z32, hpv]; omega, h⟩
        · rw [if_neg c3] at h
          rw [Int32.le_iff_toInt_le, z32, hw2] at c3
          exact ⟨-1, by rw [m1, hpv]; omega, h⟩
theorem l165 (hS : SK w) : (gA w 165).length = 10 := SK_len hS (a := 165) (n := 10) (by decide +kernel) (by decide)
/-- the start of the turns -/
theorem F294_2 : ∀ (k t : Nat) (w : pm_W) (i2 : Int32), FM [] [164, 165] w0 w → i2.toInt = t → t ≤ 10 → BI (gA w) t → PS X k 294 2 [.ref 147, .int p1, .int i2, pm_dead, pm_dead, pm_dead] [] w r w' → ∃ (k' : Nat) (w1 : pm_W), FM [] [164, 165] w0 w1 ∧ BI (gA w1) 10 ∧ PS X k' 294 57 [.ref 147, .int p1, .int 0, pm_dead, pm_dead, pm_dead] [] w1 r w' := by
  intro k
  induction k with
  | zero => intro t w i2 _ _ _ _ h; exact (PS_0 h).elim
  | succ k ih =>
    intro t w i2 fm h2 ht hb h
    have hS : SK w := fm.2.2.2
    have h := U294_2 hS h
    by_cases c : 10 ≤ i2
    · rw [if_pos c] at h
      rw [Int32.le_iff_toInt_le, ten32, h2] at c
      rw [show t = 10 by omega] at hb
      exact ⟨k, w, fm, hb, h⟩
    · rw [if_neg c] at h
      rw [Int32.le_iff_toInt_le, ten32, h2] at c
      have e1 : (i2 + 1).toInt = ((t + 1 : Nat) : Int) := by rw [zi_inc (n := 40) (by omega) (by omega), h2]; rfl
      have go : ∀ x y : Int32, ((0 < fr (gA w 163) t ∧ x.toInt = t ∧ y.toInt = 0) ∨ (fr (gA w 163) t ≤ 0 ∧ x.toInt = -1 ∧ y.toInt = 1000000)) → PS X k 294 2 [.ref 147, .int p1, .int (i2 + 1), pm_dead, pm_dead, pm_dead] [] (aS (aS w 164 i2 x) 165 i2 y) r w' → ∃ (k' : Nat) (w1 : pm_W), FM [] [164, 165] w0 w1 ∧ BI (gA w1) 10 ∧ PS X k' 294 57 [.ref 147, .int p1, .int 0, pm_dead, pm_dead, pm_dead] [] w1 r w' := by
        intro x y hv hh
        have S1 : SK (aS w 164 i2 x) := SK_aS hS
        have q := BI_step (x := x) (y := y) hb (by omega) (by omega) (l164 hS) (l165 hS) (gA_un (SK_isA hS (by decide +kernel)) h2) (gA_un (SK_isA S1 (by decide +kernel)) h2) hv
        refine ih (t + 1) _ _ (FM_trans fm (FM_trans (FM_aS hS (by decide)) (FM_aS S1 (by decide)))) e1 (by omega) ?_ hh
        rw [show ((t + 1 : Nat) : Int) = (t : Int) + 1 by omega]
        exact q
      have e6 : (1000000 : Int32).toInt = 1000000 := by decide +kernel
      have v : (aG w 163 i2).toInt = fr (gA w 163) t := by rw [aG_n h2]; rfl
      have v2 : ∀ x, aG (aS w 164 i2 x) 163 i2 = aG w 163 i2 := fun x => by rw [aG_n h2, aG_n h2, gA_aS_ne (by decide)]
      obtain ⟨_, h⟩ := h
      by_cases c1 : aG w 163 i2 ≤ 0
      · rw [if_pos c1] at h
        obtain ⟨_, h⟩ := h
        obtain ⟨_, h⟩ := h _ rfl
        rw [v2, if_pos c1] at h
        rw [Int32.le_iff_toInt_le, z32, v] at c1
        exact go _ _ (Or.inr ⟨c1, m1i, e6⟩) (h.2 _ rfl)
      · rw [if_neg c1] at h
        obtain ⟨_, h⟩ := h
        obtain ⟨_, h⟩ := h _ rfl
        rw [v2, if_neg c1] at h
        rw [Int32.le_iff_toInt_le, z32, v] at c1
        exact go _ _ (Or.inl ⟨by omega, h2, z32⟩) (h.2 _ rfl)
/-- the turns -/
theorem F294_bf (hB : bnD w0) (hPw : ∀ w, FM [] [164, 165] w0 w → (aG w 148 p1).toInt = P) (hP9 : P ≤ 9) : ∀ k : Nat,
    (∀ (t : Nat) (w : pm_W) (i2 : Int32) (u3 u4 : Value), FM [] [164, 165] w0 w → i2.toInt = t → t ≤ 10 → BF (gA w) P ((t : Int) + 1) 0 0 → PS X k 294 57 [.ref 147, .int p1, .int i2, u3, u4, pm_dead] [] w r w' → ∃ (k' : Nat) (w1 : pm_W) (u4' : Value), FM [] [164, 165] w0 w1 ∧ BF (gA w1) P 11 0 0 ∧ PS X k' 294 184 [.ref 147, .int p1, .int (-1), .int 0, u4', pm_dead] [] w1 r w') ∧
    (∀ (t i : Nat) (w : pm_W) (i2 i3 : Int32) (u4 : Value), FM [] [164, 165] w0 w → i2.toInt = t → t < 10 → i3.toInt = i → i ≤ P → BF (gA w) P ((t : Int) + 1) i 0 → PS X k 294 65 [.ref 147, .int p1, .int i2, .int i3, u4, pm_dead] [] w r w' → ∃ (k' : Nat) (w1 : pm_W) (u4' : Value), FM [] [164, 165] w0 w1 ∧ BF (gA w1) P 11 0 0 ∧ PS X k' 294 184 [.ref 147, .int p1, .int (-1), .int 0, u4', pm_dead] [] w1 r w') ∧
    (∀ (t i j : Nat) (w : pm_W) (i2 i3 i4 : Int32), FM [] [164, 165] w0 w → i2.toInt = t → t < 10 → i3.toInt = i → i < P → i4.toInt = j → j ≤ P → BF (gA w) P ((t : Int) + 1) i j → PS X k 294 78 [.ref 147, .int p1, .int i2, .int i3, .int i4, pm_dead] [] w r w' → ∃ (k' : Nat) (w1 : pm_W) (u4' : Value), FM [] [164, 165] w0 w1 ∧ BF (gA w1) P 11 0 0 ∧ PS X k' 294 184 [.ref 147, .int p1, .int (-1), .int 0, u4', pm_dead] [] w1 r w') ∧
    (∀ (t i j : Nat) (w : pm_W) (i2 i3 i4 : Int32), FM [] [164, 165] w0 w → i2.toInt = t → t < 10 → i3.toInt = i → i < P → i4.toInt = j → j < P → BF (gA w) P ((t : Int) + 1) i ((j : Int) + 1) → PS X k 294 162 [.ref 147, .int p1, .int i2, .int i3, .int i4, pm_dead] [] w r w' → ∃ (k' : Nat) (w1 : pm_W) (u4' : Value), FM [] [164, 165] w0 w1 ∧ BF (gA w1) P 11 0 0 ∧ PS X k' 294 184 [.ref 147, .int p1, .int (-1), .int 0, u4', pm_dead] [] w1 r w') := by
  have e6 : (1000000 : Int32).toInt = 1000000 := by decide +kernel
  intro k
  induction k with
  | zero => exact ⟨fun _ _ _ _ _ _ _ _ _ h => (PS_0 h).elim, fun _ _ _ _ _ _ _ _ _ _ _ _ h => (PS_0 h).elim, fun _ _ _ _ _ _ _ _ _ _ _ _ _ _ _ h => (PS_0 h).elim, fun _ _ _ _ _ _ _ _ _ _ _ _ _ _ _ h => (PS_0 h).elim⟩
  | succ k ih =>
    obtain ⟨ih57, ih65, ih78, ih162⟩ := ih
    refine ⟨fun t w i2 u3 u4 fm h2 ht hb h => ?_, fun t i w i2 i3 u4 fm h2 ht h3 hi hb h => ?_, fun t i j w i2 i3 i4 fm h2 ht h3 hi h4 hj hb h => ?_, fun t i j w i2 i3 i4 fm h2 ht h3 hi h4 hj hb h => ?_⟩
    · have hS : SK w := fm.2.2.2
      have h := U294_57 hS h
      by_cases c : 10 ≤ i2
      · rw [if_pos c] at h
        rw [Int32.le_iff_toInt_le, ten32, h2] at c
        rw [show (t : Int) + 1 = 11 by omega] at hb
        exact ⟨k, w, u4, fm, hb, h⟩
      · rw [if_neg c] at h
        rw [Int32.le_iff_toInt_le, ten32, h2] at c
        exact ih65 t 0 w i2 0 u4 fm h2 (by omega) z32 (Nat.zero_le _) hb h
    · have hS : SK w := fm.2.2.2
      obtain ⟨_, h⟩ := U294_65 hS h
      by_cases c : aG w 148 p1 ≤ i3
      · rw [if_pos c] at h
        rw [Int32.le_iff_toInt_le, hPw w fm, h3] at c
        have q := BF_turn hb (by omega) (by omega)
        refine ih57 (t + 1) w _ _ _ fm (by rw [zi_inc (n := 40) (by omega) (by omega), h2]; rfl) (by omega) ?_ h
        rw [show ((t + 1 : Nat) : Int) + 1 = (t : Int) + 1 + 1 by omega]
        exact q
      · rw [if_neg c] at h
        rw [Int32.le_iff_toInt_le, hPw w fm, h3] at c
        exact ih78 t i 0 w i2 i3 0 fm h2 ht h3 (by omega) z32 (Nat.zero_le _) hb h
    · have hS : SK w := fm.2.2.2
      have hBw : bnD w := bnD_fm hB fm (by decide) (by decide) (by decide)
      obtain ⟨_, h⟩ := U294_78 hS h
      by_cases c : aG w 148 p1 ≤ i4
      · rw [if_pos c] at h
        rw [Int32.le_iff_toInt_le, hPw w fm, h4] at c
        have q := BF_row hb (by omega) (by omega)
        refine ih65 t (i + 1) w i2 _ _ fm h2 ht (by rw [zi_inc (n := 40) (by omega) (by omega), h3]; rfl) (by omega) ?_ h
        rw [show ((i + 1 : Nat) : Int) = (i : Int) + 1 by omega]
        exact q
      · rw [if_neg c] at h
        rw [Int32.le_iff_toInt_le, hPw w fm, h4] at c
        have hjP : j < P := by omega
        have vi : (aG w 165 i3).toInt = fr (gA w 165) i := by rw [aG_n h3]; rfl
        have vj : (aG w 165 i4).toInt = fr (gA w 165) j := by rw [aG_n h4]; rfl
        have skip : ((i : Int) ≠ j → fr (gA w 165) i ≠ 1000000 → fr (gA w 165) j ≤ fr (gA w 165) i + pv (gA w) i j) → PS X k 294 162 [.ref 147, .int p1, .int i2, .int i3, .int i4, pm_dead] [] w r w' → ∃ (k' : Nat) (w1 : pm_W) (u4' : Value), FM [] [164, 165] w0 w1 ∧ BF (gA w1) P 11 0 0 ∧ PS X k' 294 184 [.ref 147, .int p1, .int (-1), .int 0, u4', pm_dead] [] w1 r w' := fun hs hh => ih162 t i j w i2 i3 i4 fm h2 ht h3 hi h4 hjP (BF_skip hb hs) hh
        by_cases c1 : i3 = i4
        · rw [if_pos c1] at h
          have ei : i = j := by rw [c1, h4] at h3; omega
          exact skip (fun ne => absurd (by omega) ne) h
        · rw [if_neg c1] at h
          have ne : i ≠ j := fun e => c1 (Int32.toInt_inj.mp (by rw [h3, h4, e]))
          obtain ⟨_, h⟩ := h
          by_cases c2 : aG w 165 i3 = 1000000
          · rw [if_pos c2] at h
            rw [c2, e6] at vi
            exact skip (fun _ n => absurd vi.symm n) h
          · rw [if_neg c2] at h
            have nm : fr (gA w 165) i ≠ 1000000 := fun e => c2 (Int32.toInt_inj.mp (by rw [vi, e, e6]))
            obtain ⟨_, h⟩ := h
            obtain ⟨z3, hz3, h⟩ := use_z hS h (fun _ _ y => F295 hS hBw h3 h4 (by omega) (by omega) y)
            obtain ⟨_, h⟩ := h
            have bb := BF_bnd hb (by omega) (by omega) (by omega) (by omega) (by omega) (by omega) i (by omega) (by omega)
            have pb := pv_b (A := gA w) (a := i) (b := j)
            have vs : ∀ z : Int32, z.toInt = pv (gA w) i j → (aG w 165 i3 + z).toInt = fr (gA w 165) i + pv (gA w) i j := fun z hz => zi_add vi hz (by omega) (by omega)
            by_cases c3 : aG w 165 i3 + z3 < aG w 165 i4
            · rw [if_pos c3] at h
              rw [Int32.lt_iff_toInt_lt, vs _ hz3, vj] at c3
              obtain ⟨_, h⟩ := h
              obtain ⟨z6, hz6, h⟩ := use_z hS h (fun _ _ y => F295 hS hBw h3 h4 (by omega) (by omega) y)
              obtain ⟨_, h⟩ := h
              obtain ⟨_, h⟩ := h _ rfl
              have h := h _ rfl
              have S1 : SK (aS w 165 i4 (aG w 165 i3 + z6)) := SK_aS hS
              have q := BF_relax hb (by omega) (by omega) (by omega) (by omega) (by omega) (by omega) (by omega) (by omega) (l164 hS) (l165 hS) nm c3 (vs _ hz6) h3 (gA_un (SK_isA hS (by decide +kernel)) h4) (gA_un (y := i3) (SK_isA S1 (by decide +kernel)) h4)
              exact ih162 t i j _ i2 i3 i4 (FM_trans fm (FM_trans (FM_aS hS (by decide)) (FM_aS S1 (by decide)))) h2 ht h3 hi h4 hjP q h
            · rw [if_neg c3] at h
              rw [Int32.lt_iff_toInt_lt, vs _ hz3, vj] at c3
              exact skip (fun _ _ => by omega) h
    · have hS : SK w := fm.2.2.2
      have h := U294_162 hS h
      refine ih78 t i (j + 1) w i2 i3 _ fm h2 ht h3 hi (by rw [zi_inc (n := 40) (by omega) (by omega), h4]; rfl) (by omega) ?_ h
      rw [show ((j + 1 : Nat) : Int) = (j : Int) + 1 by omega]
      exact hb
/-- who is to be paid -/
theorem F294_184 (hS : SK w) (hPw : (aG w 148 p1).toInt = P) (hP9 : P ≤ 9) : ∀ k : Nat,
    (∀ (n : Nat) (i2 i3 : Int32) (u4 : Value), i3.toInt = n → n ≤ P → TO (gA w) P i2.toInt n → PS X k 294 184 [.ref 147, .int p1, .int i2, .int i3, u4, pm_dead] [] w r w' → ∃ (k' t : Nat) (z : Int32) (u4' u5' : Value), z.toInt = t ∧ t < P ∧ fr (gA w 163) t < 0 ∧ PS X k' 294 242 [.ref 147, .int p1, .int z, .int z, u4', u5'] [] (aS w 163 z (aG w 163 z + 1)) r w') ∧
    (∀ (n : Nat) (i2 i3 : Int32) (u4 : Value), i3.toInt = n → n < P → fr (gA w 163) n < 0 → PS X k 294 222 [.ref 147, .int p1, .int i2, .int i3, u4, pm_dead] [] w r w' → ∃ (k' t : Nat) (z : Int32) (u4' u5' : Value), z.toInt = t ∧ t < P ∧ fr (gA w 163) t < 0 ∧ PS X k' 294 242 [.ref 147, .int p1, .int z, .int z, u4', u5'] [] (aS w 163 z (aG w 163 z + 1)) r w') ∧
    (∀ (n : Nat) (i2 i3 : Int32) (u4 : Value), i3.toInt = n → n < P → TO (gA w) P i2.toInt ((n : Int) + 1) → PS X k 294 224 [.ref 147, .int p1, .int i2, .int i3, u4, pm_dead] [] w r w' → ∃ (k' t : Nat) (z : Int32) (u4' u5' : Value), z.toInt = t ∧ t < P ∧ fr (gA w 163) t < 0 ∧ PS X k' 294 242 [.ref 147, .int p1, .int z, .int z, u4', u5'] [] (aS w 163 z (aG w 163 z + 1)) r w') := by
  intro k
  induction k with
  | zero => exact ⟨fun _ _ _ _ _ _ _ h => (PS_0 h).elim, fun _ _ _ _ _ _ _ h => (PS_0 h).elim, fun _ _ _ _ _ _ _ h => (PS_0 h).elim⟩
  | succ k ih =>
    obtain ⟨ih184, ih222, ih224⟩ := ih
    refine ⟨fun n i2 i3 u4 h3 hn ht h => ?_, fun n i2 i3 u4 h3 hn hv h => ?_, fun n i2 i3 u4 h3 hn ht h => ?_⟩
    · obtain ⟨_, h⟩ := U294_184 hS h
      by_cases c : aG w 148 p1 ≤ i3
      · rw [if_pos c] at h
        obtain ⟨ai, _, h⟩ := h
        have h := h _ rfl
        have i0 : 0 ≤ i2.toInt := ai.1
        obtain ⟨g1, g2⟩ := ht.1 i0
        obtain ⟨t, et⟩ : ∃ t : Nat, i2.toInt = t := ⟨i2.toInt.toNat, by omega⟩
        rw [et] at g1 g2
        exact ⟨k, t, i2, _, _, et, by omega, g2, h⟩
      · rw [if_neg c] at h
        rw [Int32.le_iff_toInt_le, hPw, h3] at c
        have v : (aG w 163 i3).toInt = fr (gA w 163) n := by rw [aG_n h3]; rfl
        obtain ⟨_, h⟩ := h
        by_cases c1 : 0 ≤ aG w 163 i3
        · rw [if_pos c1] at h
          rw [Int32.le_iff_toInt_le, z32, v] at c1
          exact ih224 n i2 i3 u4 h3 (by omega) (TO_keep ht (fun _ => c1)) h
        · rw [if_neg c1] at h
          rw [Int32.le_iff_toInt_le, z32, v] at c1
          by_cases c2 : i2 < 0
          · rw [if_pos c2] at h
            exact ih222 n i2 i3 u4 h3 (by omega) (by omega) h
          · rw [if_neg c2] at h
            rw [Int32.lt_iff_toInt_lt, z32] at c2
            obtain ⟨_, _, h⟩ := h
            by_cases c3 : aG w 165 i2 ≤ aG w 165 i3
            · rw [if_pos c3] at h
              exact ih224 n i2 i3 u4 h3 (by omega) (TO_keep ht (fun q => by omega)) h
            · rw [if_neg c3] at h
              exact ih222 n i2 i3 u4 h3 (by omega) (by omega) h
    · have h := U294_222 hS h
      exact ih224 n i3 i3 u4 h3 hn (TO_new (by omega) (by omega) (by rw [h3]; exact hv)) h
    · have h := U294_224 hS h
      refine ih184 (n + 1) i2 _ u4 (by rw [zi_inc (n := 40) (by omega) (by omega), h3]; rfl) (by omega) ?_ h
      rw [show ((n + 1 : Nat) : Int) = (n : Int) + 1 by omega]
      exact ht
/-- what goes out, less what comes in -/
def nnF (w : pm_W) (q : Nat) : Int := suI (fun b => fwR w q b - fwR w b q) 10
theorem nt_fm {fs : List (Nat × Nat)} {as : List Nat} (f : FM fs as w w') (h2 : 162 ∉ as) : nnF w' = nnF w := by
  unfold nnF
  rw [fw_fm f h2]
theorem nt_s (hS : SK w) (ha : a < 10) (hb : b < 10) (hx : x.toInt = (10 * a + b : Nat)) (hy : y.toInt = fwR w a b + δ) (hq : q < 10) : nnF (aS w 162 x y) q = nnF w q + (if q = a then δ else 0) - (if q = b then δ else 0) := by
  unfold nnF
  have e1 : suI (fun j => fwR (aS w 162 x y) q j - fwR (aS w 162 x y) j q) 10 = suI (fun j => (fwR w q j - fwR w j q) + (if j = b then (if q = a then δ else 0) else 0) - (if j = a then (if q = b then δ else 0) else 0)) 10 := suI_cg 10 (fun j hj => by
    show fwR (aS w 162 x y) q j - fwR (aS w 162 x y) j q = (fwR w q j - fwR w j q) + (if j = b then (if q = a then δ else 0) else 0) - (if j = a then (if q = b then δ else 0) else 0)
    rw [fwR_s hS ha hb hx q j hq hj, fwR_s hS ha hb hx j q hj hq, hy]
    by_cases c1 : q = a
    · by_cases c2 : j = b
      · rw [if_pos ⟨c1, c2⟩, if_pos c2, if_pos c1, c1, c2]
        by_cases c3 : b = a
        · rw [c3, if_pos ⟨rfl, rfl⟩, if_pos rfl, if_pos rfl]
          omega
        · rw [if_neg (fun z => c3 z.1), if_neg c3]
          omega
      · rw [if_neg (fun z => c2 z.2), if_neg c2]
        by_cases c3 : j = a ∧ q = b
        · rw [if_pos c3, if_pos c3.1, if_pos c3.2, c3.1, c3.2]
          omega
        · rw [if_neg c3]
          by_cases c4 : j = a
          · rw [if_pos c4, if_neg (fun z => c3 ⟨c4, z⟩)]
            omega
          · rw [if_neg c4]
            omega
    · rw [if_neg (fun z => c1 z.1), if_neg c1]
      rw [show (if j = b then (0 : Int) else 0) = 0 by split <;> rfl]
      by_cases c3 : j = a ∧ q = b
      · rw [if_pos c3, if_pos c3.1, if_pos c3.2, c3.1, c3.2]
        omega
      · rw [if_neg c3]
        by_cases c4 : j = a
        · rw [if_pos c4, if_neg (fun z => c3 ⟨c4, z⟩)]
          omega
        · rw [if_neg c4]
          omega)
  rw [e1, suI_sub, suI_add, suI_one 10 hb, suI_one 10 ha]
/-- where the way ends -/
def CW (w1 : pm_W) (rk : Int → Nat) (P : Nat) (D0 : Nat → Int) (r : Option Value) (w' wk : pm_W) : Prop := r = none ∧ ∃ (wz : pm_W) (rt : Nat) (zx : Int32), FM [] [162] w1 wz ∧ PW (gA wz) (gA w1) rk P rt ∧ rt < P ∧ fr (gA w1 164) rt = rt ∧ zx.toInt = rt ∧ (∀ q, q < 10 → ovR w1 q + nnF wz q = D0 q + if q = rt then 1 else 0) ∧ (∀ i j, i < 10 → j < 10 → P ≤ i ∨ P ≤ j → fwR wz i j = fwR wk i j) ∧ w' = aS wz 163 zx (aG wz 163 zx - 1)
theorem CW_st {wy : pm_W} (h : CW w1 rk P D0 r w' wy) (e : ∀ i j, i < 10 → j < 10 → P ≤ i ∨ P ≤ j → fwR wy i j = fwR wk i j) : CW w1 rk P D0 r w' wk := by
  obtain ⟨h0, wz, rt, zx, h1, h2, h3, h4, h5, h6, h7, h8⟩ := h
  exact ⟨h0, wz, rt, zx, h1, h2, h3, h4, h5, h6, fun i j hi hj hij => (h7 i j hi hj hij).trans (e i j hi hj hij), h8⟩
/-- on the way back -/
theorem F294_242 (hG : GW (gA w1) rk P) (hK : BN (gA w1) K) (hK2 : K ≤ 20001) (hP9 : P ≤ 9) : ∀ (k c : Nat) (wk : pm_W) (i3 : Int32) (u4 u5 : Value), FM [] [162] w1 wk → PW (gA wk) (gA w1) rk P c → i3.toInt = c → c < P → (∀ q, q < 10 → ovR w1 q + nnF wk q = D0 q + if q = c then 1 else 0) → PS X k 294 242 [.ref 147, .int p1, .int p2, .int i3, u4, u5] [] wk r w' → CW w1 rk P D0 r w' wk := by
  intro k
  induction k using Nat.strongRecOn with
  | ind k ih =>
    intro c wk i3 u4 u5 fm hp h3 hc hd h
    cases k with
    | zero => exact (PS_0 h).elim
    | succ k =>
      have hS : SK wk := fm.2.2.2
      have hBk : bnD wk := fun i j hi hj => by
        have q1 := PW_b hp hK hK2 (10 * (i : Int) + (j : Int)) (by omega) (by omega)
        rw [fw_fr] at q1
        obtain ⟨q2, q3, _⟩ := hK (10 * (i : Int) + (j : Int)) (by omega) (by omega)
        rw [mo_fr, ← mo_fm fm (by decide)] at q2
        rw [lo_fr, ← lo_fm fm (by decide)] at q3
        exact ⟨q2, q3, q1⟩
      obtain ⟨_, h⟩ := U294_242 hS h
      have g164 : gA wk 164 = gA w1 164 := FM_a fm (by decide)
      have vf : (aG wk 164 i3).toInt = fr (gA w1 164) c := by rw [aG_n h3, g164]; rfl
      by_cases c1 : aG wk 164 i3 = i3
      · rw [if_pos c1] at h
        obtain ⟨_, _, h⟩ := h
        obtain ⟨h0, h⟩ := h _ rfl
        rw [c1, h3] at vf
        exact ⟨h0, wk, c, i3, fm, hp, hc, vf.symm, h3, hd, fun _ _ _ _ _ => rfl, h⟩
      · rw [if_neg c1] at h
        have nr : fr (gA w1 164) (c : Int) ≠ c := fun e => c1 (Int32.toInt_inj.mp (by rw [vf, e, h3]))
        obtain ⟨n1, n2, n3, n4⟩ := PW_not hG (by omega) (by omega) nr
        obtain ⟨a, ha⟩ : ∃ a : Nat, fr (gA w1 164) (c : Int) = a := ⟨(fr (gA w1 164) (c : Int)).toNat, by omega⟩
        rw [ha] at vf n2 n3
        have ca : c ≠ a := fun e => nr (by rw [ha, e])
        obtain ⟨ia, hia⟩ : ∃ ia, ia = aG wk 164 i3 := ⟨_, rfl⟩
        rw [← hia] at h vf
        have i1 := ix10 h3 vf (show c < 10 by omega) (show a < 10 by omega)
        have i2 := ix10 vf h3 (show a < 10 by omega) (show c < 10 by omega)
        have v1 : (aG wk 162 (10 * i3 + ia)).toInt = fwR wk c a := by rw [aG_n i1]; rfl
        have v2 : (aG wk 162 (10 * ia + i3)).toInt = fwR wk a c := by rw [aG_n i2]; rfl
        have b1 := hBk c a (by omega) (by omega)
        have b2 := hBk a c (by omega) (by omega)
        have isa : isA wk 162 := SK_isA hS (by decide +kernel)
        -- one less on the way back
        have back : ∀ (k' : Nat), k' < k + 1 → (0 < fwR wk c a) → (wv (gA wk) c a < 0 ∨ (0 ≤ wv (gA wk) c a ∧ wv (gA wk) a c ≤ 0)) → PS X k' 294 355 [.ref 147, .int p1, .int p2, .int i3, .int ia, .int 1] [] (aS wk 162 (10 * i3 + ia) (aG wk 162 (10 * i3 + ia) - 1)) r w' → CW w1 rk P D0 r w' wk := by
          intro k' hk' f0 hw hh
          cases k' with
          | zero => exact (PS_0 hh).elim
          | succ k' =>
            have hh := U294_355 (SK_aS hS) hh
            have vy : (aG wk 162 (10 * i3 + ia) - 1).toInt = fwR wk c a - 1 := zi_sub v1 o32 (by omega) (by omega)
            refine CW_st (ih k' (by omega) a _ ia _ _ (FM_trans fm (FM_aS hS (by decide))) (PW_step hp hG (by omega) (l162 hS) (by omega) (by omega) nr ha (gA_un isa i1) (Or.inl ⟨by omega, ?_, ?_, hw⟩)) vf (by omega) (fun q hq => ?_) hh) (fun i j hi hj hij => by rw [fwR_s hS (by omega) (by omega) i1 i j hi hj, if_neg (by omega)])
            · rw [vy]; rfl
            · show 1 ≤ fwR wk c a
              omega
            · rw [nt_s (δ := -1) hS (by omega) (by omega) i1 (by rw [vy]; omega) hq]
              have z := hd q hq
              by_cases e1 : q = c
              · rw [if_pos e1] at z ⊢
                rw [if_neg (by omega), if_neg (by omega)]
                omega
              · rw [if_neg e1] at z ⊢
                by_cases e2 : q = a
                · rw [if_pos e2, if_pos e2]
                  omega
                · rw [if_neg e2, if_neg e2]
                  omega
        -- one more
        have fwd : ∀ (k' : Nat) (u5 : Value), k' < k + 1 → (fwR wk c a = 0 ∨ (0 ≤ wv (gA wk) c a ∧ 0 < wv (gA wk) a c)) → PS X k' 294 312 [.ref 147, .int p1, .int p2, .int i3, .int ia, u5] [] wk r w' → CW w1 rk P D0 r w' wk := by
          intro k' u5 hk' hw hh
          cases k' with
          | zero => exact (PS_0 hh).elim
          | succ k' =>
            obtain ⟨_, _, hh⟩ := U294_312 hS hh
            have hh := hh _ rfl
            cases k' with
            | zero => exact (PS_0 hh).elim
            | succ k' =>
              have hh := U294_355 (SK_aS hS) hh
              have vy : (aG wk 162 (10 * ia + i3) + 1).toInt = fwR wk a c + 1 := zi_add v2 o32 (by omega) (by omega)
              refine CW_st (ih k' (by omega) a _ ia _ _ (FM_trans fm (FM_aS hS (by decide))) (PW_step hp hG (by omega) (l162 hS) (by omega) (by omega) nr ha (gA_un isa i2) (Or.inr ⟨by omega, ?_, ?_⟩)) vf (by omega) (fun q hq => ?_) hh) (fun i j hi hj hij => by rw [fwR_s hS (by omega) (by omega) i2 i j hi hj, if_neg (by omega)])
              · rw [vy]; rfl
              · rw [fw_fr]; exact hw
              · rw [nt_s (δ := 1) hS (by omega) (by omega) i2 vy hq]
                have z := hd q hq
                by_cases e1 : q = c
                · rw [if_pos e1] at z ⊢
                  rw [if_neg (show ¬ q = a by omega)]
                  omega
                · rw [if_neg e1] at z ⊢
                  by_cases e2 : q = a
                  · rw [if_pos e2]
                    omega
                  · rw [if_neg e2]
                    omega
        obtain ⟨_, _, h⟩ := h
        by_cases c2 : aG wk 162 (10 * i3 + ia) ≤ 0
        · rw [if_pos c2] at h
          rw [Int32.le_iff_toInt_le, z32, v1] at c2
          exact fwd k _ (by omega) (Or.inl (by omega)) h
        · rw [if_neg c2] at h
          rw [Int32.le_iff_toInt_le, z32, v1] at c2
          obtain ⟨z4, hz4, h⟩ := use_z hS h (fun _ _ y => F296 hS hBk h3 vf (by omega) (by omega) y)
          by_cases c3 : 0 ≤ z4
          · rw [if_pos c3] at h
            rw [Int32.le_iff_toInt_le, z32, hz4] at c3
            obtain ⟨z7, hz7, h⟩ := use_z hS h (fun _ _ y => F296 hS hBk vf h3 (by omega) (by omega) y)
            by_cases c4 : z7 ≤ 0
            · rw [if_pos c4] at h
              rw [Int32.le_iff_toInt_le, z32, hz7] at c4
              exact back k (by omega) (by omega) (Or.inr ⟨c3, c4⟩) (h.2.2 _ rfl)
            · rw [if_neg c4] at h
              rw [Int32.le_iff_toInt_le, z32, hz7] at c4
              exact fwd k _ (by omega) (Or.inr ⟨c3, by omega⟩) h
          · rw [if_neg c3] at h
            rw [Int32.le_iff_toInt_le, z32, hz4] at c3
            obtain ⟨z7, hz7, h⟩ := use_z hS h (fun _ _ y => F296 hS hBk vf h3 (by omega) (by omega) y)
            by_cases c4 : z7 ≤ 0
            · rw [if_pos c4] at h
              exact back k (by omega) (by omega) (Or.inl (by omega)) (h.2.2 _ rfl)
            · rw [if_neg c4] at h
              exact back k (by omega) (by omega) (Or.inl (by omega)) (h.2.2 _ rfl)
theorem BI_0 : BI (gA w) 0 := fun b h1 h2 => absurd h2 (by omega)
/-- one more unit, on its least dear way -/
theorem F294 (hS : SK w) (hp : p1.toInt = (610 + 132 * u : Nat)) (hP : (al w (610 + 132 * u)).toInt = P) (hP9 : P ≤ 9) (hG : GJ (gA w) P) (hs : 0 < ps (gA w 163)) (h : PS X k 294 0 [.ref 147, .int p1, pm_dead, pm_dead, pm_dead, pm_dead] [] w r w') : r = none ∧ FM [] [162, 163, 164, 165] w w' ∧ GJ (gA w') P ∧ ps (gA w' 163) + 1 = ps (gA w 163) ∧ (∀ q, q < 10 → ovR w' q + nnF w' q = ovR w q + nnF w q) ∧ ∀ i j, i < 10 → j < 10 → P ≤ i ∨ P ≤ j → fwR w' i j = fwR w i j := by
  cases k with
  | zero => exact (PS_0 h).elim
  | succ k =>
    have hG0 : GI (gA w) P (20000 - (ps (gA w 163) : Int)) := hG
    have hBw : bnD w := bnD_BN hG0.1 (by omega)
    obtain ⟨k1, w1, f1, b1, h⟩ := F294_2 (w0 := w) k 0 w 0 (FM_refl hS) z32 (Nat.zero_le _) BI_0 (U294_0 hS h)
    have G1 : GI (gA w1) P (20000 - (ps (gA w 163) : Int)) := GI_fr hG0 (FM_a f1 (by decide)) (FM_a f1 (by decide)) (FM_a f1 (by decide)) (FM_a f1 (by decide))
    have e163 : gA w1 163 = gA w 163 := FM_a f1 (by decide)
    have hPw : ∀ wx, FM [] [164, 165] w wx → (aG wx 148 p1).toInt = P := fun wx f => by
      rw [aG_n hp, FM_a f (by decide)]
      exact hP
    obtain ⟨k2, w2, u4, f2, b2, h⟩ := (F294_bf (w0 := w) (p1 := p1) (P := P) hBw hPw hP9 k1).1 0 w1 0 pm_dead pm_dead f1 z32 (by decide) (BF_init b1 (by omega) G1.2.2) h
    have S2 := f2.2.2.2
    have g163 : gA w2 163 = gA w 163 := FM_a f2 (by decide)
    have G2 : GI (gA w2) P (20000 - (ps (gA w 163) : Int)) := GI_fr hG0 (FM_a f2 (by decide)) (FM_a f2 (by decide)) (FM_a f2 (by decide)) g163
    obtain ⟨s, s0, s1, s2⟩ := GJ_src G2 (by rw [g163]; exact hs) (l163 S2)
    obtain ⟨rk, hW⟩ := BF_end b2 (by omega) s0 s1 s2
    obtain ⟨k3, t, zt, u4', u5', et, tP, tv, h⟩ := (F294_184 S2 (hPw w2 f2) hP9 k2).1 0 (-1) 0 u4 z32 (Nat.zero_le _) ⟨fun q => by rw [m1i] at q; omega, fun _ q q0 q1 => by omega⟩ h
    have vt : (aG w2 163 zt).toInt = fr (gA w2 163) t := by rw [aG_n et]; rfl
    have ob := G2.2.1.1 t (by omega) (by omega)
    have vt1 : (aG w2 163 zt + 1).toInt = fr (gA w2 163) t + 1 := zi_add vt o32 (by omega) (by omega)
    have f3 : FM [] [163] w2 (aS w2 163 zt (aG w2 163 zt + 1)) := FM_aS S2 (by decide)
    have u3 : gA (aS w2 163 zt (aG w2 163 zt + 1)) = upa (gA w2) 163 ((gA w2 163).set ((t : Nat) : Int).toNat (aG w2 163 zt + 1)) := gA_un (SK_isA S2 (by decide +kernel)) et
    have ov3 : ∀ q, ovR (aS w2 163 zt (aG w2 163 zt + 1)) q = if q = t then ovR w2 t + 1 else ovR w2 q := fun q => by
      rw [ovR_s S2 et (by omega) q, vt1]
      rfl
    obtain ⟨w3, hw3⟩ : ∃ w3, w3 = aS w2 163 zt (aG w2 163 zt + 1) := ⟨_, rfl⟩
    rw [← hw3] at h f3 u3 ov3
    have hW3 : GW (gA w3) rk P := GW_to hW (by omega) (by omega) (l163 S2) tv vt1 u3
    have K3 : BN (gA w3) (20000 - (ps (gA w 163) : Int)) := fun j j0 j1 => by
      have q := G2.1 j j0 j1
      rw [FM_a f3 (by decide), FM_a f3 (by decide), FM_a f3 (by decide)]
      exact q
    have n3 : nnF w3 = nnF w2 := nt_fm f3 (by decide)
    obtain ⟨c1, wz, rt, zx, fz, hz, rP, rr, ez, dz, kz, ew⟩ := F294_242 (D0 := fun q => ovR w2 q + nnF w2 q) hW3 K3 (by omega) hP9 k3 t w3 zt u4' u5' (FM_refl f3.2.2.2) (PW_zero hW3 K3) et tP (fun q hq => by
      rw [ov3 q, n3]
      show _ = ovR w2 q + nnF w2 q + _
      by_cases e : q = t
      · rw [if_pos e, if_pos e, e]
        omega
      · rw [if_neg e, if_neg e]
        omega) h
    have Sz := fz.2.2.2
    have vz : (aG wz 163 zx).toInt = fr (gA wz 163) rt := by rw [aG_n ez]; rfl
    have ez163 : gA wz 163 = gA w3 163 := FM_a fz (by decide)
    have zb : -2000 ≤ fr (gA wz 163) rt ∧ fr (gA wz 163) rt ≤ 2000 := by
      rw [ez163]
      show -2000 ≤ ovR w3 rt ∧ ovR w3 rt ≤ 2000
      rw [ov3 rt]
      have q1 : -1386 ≤ ovR w2 rt ∧ ovR w2 rt ≤ 1386 := G2.2.1.1 rt (by omega) (by omega)
      have q2 : -1386 ≤ ovR w2 t ∧ ovR w2 t ≤ 1386 := ob
      split <;> omega
    have vz1 : (aG wz 163 zx - 1).toInt = fr (gA wz 163) rt - 1 := zi_sub vz o32 (by omega) (by omega)
    have uz : gA (aS wz 163 zx (aG wz 163 zx - 1)) = upa (gA wz) 163 ((gA wz 163).set ((rt : Nat) : Int).toNat (aG wz 163 zx - 1)) := gA_un (SK_isA Sz (by decide +kernel)) ez
    have hGJ2 : GJ (gA w2) P := by
      show GI (gA w2) P (20000 - (ps (gA w2 163) : Int))
      rw [g163]
      exact G2
    obtain ⟨j1, j2⟩ := GJ_end (A := gA w2) (A1 := gA w3) (A2 := gA wz) hGJ2 hW3 hz (by omega) (by omega) (l163 S2) (by omega) (by omega) tv vt1 (upa_at u3) (FM_a f3 (by decide)) (FM_a f3 (by decide)) (FM_a f3 (by decide)) (FM_a fz (by decide)) (FM_a fz (by decide)) ez163 (FM_a fz (by decide)) (by omega) (by omega) rr vz1 uz
    rw [← ew] at j1 j2
    have fw : FM [] [163] wz w' := by rw [ew]; exact FM_aS Sz (by decide)
    refine ⟨c1, FM_trans (FM_trans (FM_mono f2 (fun _ h => h) (by decide)) (FM_mono f3 (fun _ h => h) (by decide))) (FM_trans (FM_mono fz (fun _ h => h) (by decide)) (FM_mono fw (fun _ h => h) (by decide))), j1, by rw [← g163]; exact j2, fun q hq => ?_, fun i j hi hj hij => by rw [fw_fm fw (by decide), kz i j hi hj hij, fw_fm f3 (by decide), fw_fm f2 (by decide)]⟩
    have d := dz q hq
    have d : ovR w3 q + nnF wz q = ovR w2 q + nnF w2 q + (if q = rt then 1 else 0) := d
    have eo : ovR w' q = if q = rt then ovR wz rt - 1 else ovR wz q := by
      rw [ew, ovR_s Sz ez (by omega) q, vz1]
      rfl
    have eoz : ovR wz = ovR w3 := ov_fm fz (by decide)
    rw [eo, nt_fm fw (by decide), eoz]
    have a1 : ovR w2 = ovR w := ov_fm f2 (by decide)
    have a2 : nnF w2 = nnF w := nt_fm f2 (by decide)
    rw [← a1, ← a2]
    by_cases e : q = rt
    · rw [if_pos e] at d ⊢
      rw [e] at d ⊢
      omega
    · rw [if_neg e] at d ⊢
      omega
end KGA
