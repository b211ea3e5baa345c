/-! ===== least ===== -/
section JCA
variable {X : pm_X} {k k2 : Nat} {w0 w w1 w2 w3 w4 w5 wj w' : pm_W} {r r2 q0 q1 q2 : Option Value} {p1 p2 p3 p4 p5 i1 i2 i3 i4 i5 i6 i7 i8 z z1 z2 x y : Int32} {i v j m u P t s b Q I J K a T p W N κ : Nat} {R R' ask : Nat → Nat → Int} {e g M sl : Int} {A B : Nat → Nat} {n : Nat → Int} {wv : Nat → Int32}
/-- each may owe each as many -/
def rmS (m : Int) (i j : Nat) : Int := if i = j then 0 else m
def CL (P W : Nat) (A B : Nat → Nat) (n : Nat → Int) (m : Int) : Prop := CANH (rmS m) P W A B n (2 ^ W - 1) 0
theorem CL_mono {m m' : Int} (h : m ≤ m') (hc : CL P W A B n m) : CL P W A B n m' := CANH_mono (fun i j _ _ => by unfold rmS; split <;> omega) hc
/-- the least below 100 -/
def LW (C : Int → Prop) (x : Int) : Prop := (x = -1 ∧ ∀ m : Int, 0 ≤ m → m < 100 → ¬ C m) ∨ (0 ≤ x ∧ x < 100 ∧ C x ∧ ∀ m : Int, 0 ≤ m → m < x → ¬ C m)
theorem LW_uq {C : Int → Prop} {x y : Int} (h1 : LW C x) (h2 : LW C y) : x = y := by
  rcases h1 with ⟨a1, a2⟩ | ⟨a1, a2, a3, a4⟩
  · rcases h2 with ⟨b1, _⟩ | ⟨b1, b2, b3, b4⟩
    · omega
    · exact absurd b3 (a2 y b1 b2)
  · rcases h2 with ⟨b1, b2⟩ | ⟨b1, b2, b3, b4⟩
    · exact absurd a3 (b2 x a1 a2)
    · by_cases c : x < y
      · exact absurd a3 (b4 x a1 c)
      · by_cases c2 : y < x
        · exact absurd b3 (a4 y b1 c2)
        · omega
/-! the class -/
theorem F185_l (hg : gR w0 68 0 = v) (hv : v < 60) (hP : (gI w0 v 0).toInt = P) (hP9 : P ≤ 9) (h1 : i1.toInt = e) : ∀ k : Nat,
    (∀ (w : pm_W) (a : Nat) (i2 : Int32) (u3 : Value), FM [] [74] w0 w → i2.toInt = a → a ≤ P → (∀ i j, i < a → j < P → rmW w i j = rmS e i j) → PS X k 185 2 [.ref 68, .int i1, .int i2, u3] [] w r w' → r = none ∧ FM [] [74] w0 w' ∧ ∀ i j, i < P → j < P → rmW w' i j = rmS e i j) ∧
    (∀ (w : pm_W) (a b : Nat) (i2 i3 : Int32), FM [] [74] w0 w → i2.toInt = a → a < P → i3.toInt = b → b ≤ P → (∀ i j, (i < a ∧ j < P) ∨ (i = a ∧ j < b) → rmW w i j = rmS e i j) → PS X k 185 15 [.ref 68, .int i1, .int i2, .int i3] [] w r w' → r = none ∧ FM [] [74] w0 w' ∧ ∀ i j, i < P → j < P → rmW w' i j = rmS e i j) := by
  intro k
  induction k with
  | zero => exact ⟨fun _ _ _ _ _ _ _ _ h => (PS_0 h).elim, fun _ _ _ _ _ _ _ _ _ _ _ h => (PS_0 h).elim⟩
  | succ k ih =>
    obtain ⟨ih2, ih15⟩ := ih
    refine ⟨fun w a i2 u3 fm h2 ha hf h => ?_, fun w a b i2 i3 fm h2 ha h3 hb hf h => ?_⟩
    · have hS : SK w := fm.2.2.2
      have h := U185_2 hS h
      rw [FM_r fm (by simp), hg, FM_i fm (by simp)] at h
      by_cases c : gI w0 v 0 ≤ i2
      · rw [if_pos c] at h
        rw [Int32.le_iff_toInt_le, hP, h2] at c
        have e : a = P := by omega
        rw [e] at hf
        rw [h.2]
        exact ⟨h.1, fm, hf⟩
      · rw [if_neg c] at h
        rw [Int32.le_iff_toInt_le, hP, h2] at c
        exact ih15 w a 0 i2 0 fm h2 (by omega) z32 (Nat.zero_le _) (fun i j hij => hf i j (by omega) (by omega)) h
    · have hS : SK w := fm.2.2.2
      have h := U185_15 hS h
      rw [FM_r fm (by simp), hg, FM_i fm (by simp)] at h
      by_cases c : gI w0 v 0 ≤ i3
      · rw [if_pos c] at h
        rw [Int32.le_iff_toInt_le, hP, h3] at c
        exact ih2 w (a + 1) _ _ fm (by rw [zi_inc (n := 40) (by omega) (by omega), h2]; rfl) (by omega) (fun i j hi hj => hf i j (by omega)) h
      · rw [if_neg c] at h
        rw [Int32.le_iff_toInt_le, hP, h3] at c
        have e1 : (i3 + 1).toInt = ((b + 1 : Nat) : Int) := by rw [zi_inc (n := 40) (by omega) (by omega), h3]; rfl
        obtain ⟨k1, hk1, h⟩ := use_z hS h (fun _ _ t => F52n hS h2 h3 (by omega) (by omega) t)
        have st : ∀ y : Int32, y.toInt = rmS e a b → PS X k 185 15 [.ref 68, .int i1, .int i2, .int (i3 + 1)] [] (aS w 74 k1 y) r w' → r = none ∧ FM [] [74] w0 w' ∧ ∀ i j, i < P → j < P → rmW w' i j = rmS e i j := by
          intro y hy hh
          have f1 : FM [] [74] w (aS w 74 k1 y) := FM_aS hS (by decide)
          refine ih15 _ a (b + 1) i2 _ (FM_trans fm f1) h2 ha e1 (by omega) (fun i j hij => ?_) hh
          rw [rmW_s hS (a := a) (b := b) (by omega) (by omega) hk1 i j (by omega) (by omega)]
          by_cases q : i = a ∧ j = b
          · rw [if_pos q, hy, q.1, q.2]
          · rw [if_neg q]
            exact hf i j (by omega)
        by_cases c2 : i2 = i3
        · rw [if_pos c2] at h
          have eab : a = b := by rw [c2, h3] at h2; omega
          exact st 0 (by unfold rmS; rw [if_pos eab, z32]) (h.2 _ rfl)
        · rw [if_neg c2] at h
          have eab : a ≠ b := fun e => c2 (Int32.toInt_inj.mp (by rw [h2, h3, e]))
          exact st i1 (by unfold rmS; rw [if_neg eab, h1]) (h.2 _ rfl)
theorem F185 (hS : SK w) (hg : gR w 68 0 = v) (hv : v < 60) (hP : (gI w v 0).toInt = P) (hP9 : P ≤ 9) (h1 : p1.toInt = e) (h : PS X k 185 0 [.ref 68, .int p1, pm_dead, pm_dead] [] w r w') : r = none ∧ FM [] [74] w w' ∧ ∀ i j, i < P → j < P → rmW w' i j = rmS e i j := by
  cases k with
  | zero => exact (PS_0 h).elim
  | succ k => exact (F185_l hg hv hP hP9 h1 k).1 w 0 0 _ (FM_refl hS) z32 (Nat.zero_le _) (fun i _ hi => absurd hi (Nat.not_lt_zero i)) (U185_0 hS h)
theorem half_t (h0 : 0 ≤ x.toInt) (h1 : x.toInt < 256) : (x >>> ((1 : Int32) &&& 31)).toInt = x.toInt / 2 := by
  obtain ⟨m, hm⟩ : ∃ m : Nat, x.toInt = m := ⟨x.toInt.toNat, by omega⟩
  have e := i32_of hm (by omega)
  have q : (List.range 256).all (fun m => decide ((Int32.ofNat m >>> ((1 : Int32) &&& 31)).toInt = ((m / 2 : Nat) : Int))) = true := by decide +kernel
  have q2 := of_decide_eq_true (List.all_eq_true.mp q m (List.mem_range.mpr (by omega)))
  rw [← e] at q2
  rw [q2, hm]
  omega
/-- the search between -/
theorem F184_13 (hV : WSH w0 P W A B n) (h7 : (gI w0 68 7).toInt = ((2 ^ W : Nat) : Int)) : ∀ (k t : Nat) (w : pm_W) (i2 i3 i4 : Int32) (u5 : Value), FM [] [74, 75, 76, 80, 81, 82] w0 w → i4.toInt = t → t ≤ 100 → -1 ≤ i2.toInt → i2.toInt < i3.toInt → i3.toInt ≤ 100 → i3.toInt - i2.toInt ≤ 101 - t → (i2.toInt = -1 ∨ ¬ CL P W A B n i2.toInt) → (i3.toInt = 100 ∨ CL P W A B n i3.toInt) → PS X k 184 13 [.ref 68, .ref v, .int i2, .int i3, .int i4, u5] [] w r w' → FM [] [74, 75, 76, 80, 81, 82] w0 w' ∧ ∃ z : Int32, r = some (.int z) ∧ LW (CL P W A B n) z.toInt := by
  obtain ⟨v0, g1, g2, hP9, g4, hW7, g6, g7, g8⟩ := id hV
  have p128 : 2 ^ W ≤ 128 := Nat.le_trans (Nat.pow_le_pow_right (by decide) hW7) (by decide)
  have p1' : 1 ≤ 2 ^ W := Nat.one_le_two_pow
  have e99 : (99 : Int32).toInt = 99 := by decide +kernel
  intro k
  induction k with
  | zero => intro t w i2 i3 i4 u5 _ _ _ _ _ _ _ _ _ h; exact (PS_0 h).elim
  | succ k ih =>
    intro t w i2 i3 i4 u5 fm h4 ht b1 b2 b3 b4 c1 c2 h
    have hS : SK w := fm.2.2.2
    have hVk : WSH w P W A B n := WSH_fm hV fm (by intro p hp; cases hp) (by decide)
    have sub : (i3 - i2).toInt = i3.toInt - i2.toInt := zi_sub rfl rfl (by omega) (by omega)
    have fin : i3.toInt - i2.toInt ≤ 1 → (if i3 ≤ 99 then (r = some (.int i3) ∧ w' = w) else (r = some (.int (-1)) ∧ w' = w)) → FM [] [74, 75, 76, 80, 81, 82] w0 w' ∧ ∃ z : Int32, r = some (.int z) ∧ LW (CL P W A B n) z.toInt := by
      intro hd hh
      have low : ∀ m : Int, 0 ≤ m → m < i3.toInt → ¬ CL P W A B n m := by
        intro m m0 m1 hc
        rcases c1 with q | q
        · omega
        · exact q (CL_mono (by omega) hc)
      by_cases c : i3 ≤ 99
      · rw [if_pos c] at hh
        rw [Int32.le_iff_toInt_le, e99] at c
        rw [hh.2]
        refine ⟨fm, i3, hh.1, Or.inr ⟨by omega, by omega, ?_, low⟩⟩
        rcases c2 with q | q
        · omega
        · exact q
      · rw [if_neg c] at hh
        rw [Int32.le_iff_toInt_le, e99] at c
        rw [hh.2]
        exact ⟨fm, -1, hh.1, Or.inl ⟨m1i, fun m m0 m1 => low m m0 (by omega)⟩⟩
    have h := U184_13 hS h
    by_cases c : 99 < i4
    · rw [if_pos c] at h
      rw [Int32.lt_iff_toInt_lt, e99, h4] at c
      exact fin (by omega) h
    · rw [if_neg c] at h
      rw [Int32.lt_iff_toInt_lt, e99, h4] at c
      by_cases d : i3 - i2 ≤ 1
      · rw [if_pos d] at h
        rw [Int32.le_iff_toInt_le, sub, o32] at d
        exact fin d h
      · rw [if_neg d] at h
        rw [Int32.le_iff_toInt_le, sub, o32] at d
        have add : (i3 + i2).toInt = i3.toInt + i2.toInt := zi_add rfl rfl (by omega) (by omega)
        have hm := half_t (x := i3 + i2) (by omega) (by omega)
        rw [add] at hm
        obtain ⟨mid, hmid⟩ : ∃ mid, mid = (i3 + i2) >>> ((1 : Int32) &&& 31) := ⟨_, rfl⟩
        rw [← hmid] at h hm
        obtain ⟨q1, w2, y1, h⟩ := h
        obtain ⟨v1, v2, v3, v4, v5, v6, v7, v8, v9⟩ := id hVk
        obtain ⟨a1, f2, a2⟩ := F185 hS v2 (by omega) v3 v4 rfl y1
        have S2 : SK w2 := f2.2.2.2
        obtain ⟨q3, w4, y3, h⟩ := h a1 S2
        have f02 : FM [] [74, 75, 76, 80, 81, 82] w0 w2 := FM_trans fm (FM_mono f2 (by intro p hp; cases hp) (by decide))
        have hS7 : (gI w2 68 7 - 1).toInt = ((2 ^ W - 1 : Nat) : Int) := by
          rw [zi_sub (show (gI w2 68 7).toInt = ((2 ^ W : Nat) : Int) by rw [FM_i f02 (by simp)]; exact h7) o32 (by omega) (by omega)]
          omega
        have rb : ∀ i j, i < P → j < P → 0 ≤ rmW w2 i j ∧ rmW w2 i j ≤ 1000 := fun i j hi hj => by
          rw [a2 i j hi hj]
          unfold rmS
          split <;> omega
        obtain ⟨f4, bb, d1, d2⟩ := F169 S2 (WSH_fm hVk f2 (by intro p hp; cases hp) (by decide)) rb (MSK_set hS7 (by omega)) z32 ⟨Int.le_refl _, by omega⟩ y3
        rw [CANH_cg a2] at d2
        have h := h _ d1 f4.2.2.2
        have f04 := FM_trans f02 (FM_mono f4 (by intro p hp; cases hp) (by decide))
        have e1 : (i4 + 1).toInt = ((t + 1 : Nat) : Int) := by rw [zi_inc (n := 200) (by omega) (by omega), h4]; rfl
        cases bb with
        | false =>
          rw [if_pos (by decide +kernel)] at h
          exact ih (t + 1) w4 mid i3 _ _ f04 e1 (by omega) (by omega) (by omega) b3 (by omega) (Or.inr (fun q => Bool.noConfusion (d2.mpr q))) c2 h
        | true =>
          rw [if_neg (by decide +kernel)] at h
          exact ih (t + 1) w4 i2 mid _ _ f04 e1 (by omega) b1 (by omega) (by omega) (by omega) c1 (Or.inr (d2.mp rfl)) h
end JCA
