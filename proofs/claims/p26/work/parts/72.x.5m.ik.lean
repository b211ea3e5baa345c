/-! ===== the class: a village's sets of wants and their worth, the rooms looked at ===== -/
section IKL
variable {X : pm_X} {k k2 : Nat} {w0 w w1 w2 w3 w4 wj w' : pm_W} {r r2 q0 q1 q2 : Option Value} {p1 p2 p3 p4 i1 i2 i3 i4 i5 i6 z z1 z2 x y : Int32} {i v j m u P t s b Q B I J K n a T p W : Nat} {f g : Nat → Int} {wv : Nat → Int32}
theorem sh_pow (h : y.toInt = t) (ht : t ≤ 7) : ((1 : Int32) <<< (y &&& 31)).toInt = ((2 ^ t : Nat) : Int) := by
  have e := i32_of h (by omega)
  have q : (List.range 8).all (fun t => decide (((1 : Int32) <<< (Int32.ofNat t &&& 31)).toInt = ((2 ^ t : Nat) : Int))) = true := by decide +kernel
  rw [e]
  exact of_decide_eq_true (List.all_eq_true.mp q t (List.mem_range.mpr (by omega)))
theorem or_pow (h : y.toInt = t) (ht : t ≤ 6) (hx : x.toInt = s) (hs : s < 2 ^ t) : (x ||| ((1 : Int32) <<< (y &&& 31))).toInt = ((2 ^ t + s : Nat) : Int) := by
  have h7 : s < 128 := Nat.lt_of_lt_of_le hs (Nat.le_trans (Nat.pow_le_pow_right (by decide) ht) (by decide))
  have e := i32_of h (by omega)
  have e2 := i32_of hx (by omega)
  have q : (List.range 7).all (fun t => (List.range 128).all (fun s => decide (s < 2 ^ t → (Int32.ofNat s ||| ((1 : Int32) <<< (Int32.ofNat t &&& 31))).toInt = ((2 ^ t + s : Nat) : Int)))) = true := by decide +kernel
  have q1 := List.all_eq_true.mp q t (List.mem_range.mpr (by omega))
  have q2 := of_decide_eq_true (List.all_eq_true.mp q1 s (List.mem_range.mpr h7))
  rw [e, e2]
  exact q2 hs
/-- the worth of a set of wants -/
def vlS (wv : Nat → Int32) (W s : Nat) : Int := suI (fun κ => if s.testBit κ = true then (wv κ).toInt else 0) W
theorem vlS_lo (hs : s < 2 ^ t) : vlS wv (t + 1) s = vlS wv t s := by
  show suI _ t + (if s.testBit t = true then (wv t).toInt else 0) = suI _ t
  rw [Nat.testBit_lt_two_pow hs, if_neg Bool.false_ne_true]
  omega
theorem vlS_hi (hs : s < 2 ^ t) : vlS wv (t + 1) (2 ^ t + s) = vlS wv t s + (wv t).toInt := by
  show suI _ t + (if (2 ^ t + s).testBit t = true then (wv t).toInt else 0) = suI _ t + _
  rw [Nat.testBit_two_pow_add_eq, Nat.testBit_lt_two_pow hs, if_pos (show (!false) = true from rfl)]
  congr 1
  refine suI_cg t (fun κ hκ => ?_)
  rw [Nat.testBit_two_pow_add_gt hκ]
theorem vlS_b (hw : ∀ κ, κ < W → 0 ≤ (wv κ).toInt ∧ (wv κ).toInt ≤ 99) : ∀ t, t ≤ W → 0 ≤ vlS wv t s ∧ vlS wv t s ≤ 99 * t := by
  intro t
  induction t with
  | zero => intro _; exact ⟨Int.le_refl _, Int.le_refl _⟩
  | succ t ih =>
    intro ht
    have q := ih (by omega)
    have q2 := hw t (by omega)
    unfold vlS at q ⊢
    show 0 ≤ suI _ t + (if s.testBit t = true then (wv t).toInt else 0) ∧ suI _ t + (if s.testBit t = true then (wv t).toInt else 0) ≤ 99 * ((t + 1 : Nat) : Int)
    split <;> omega
def vaW (w : pm_W) (s : Nat) : Int := ((gA w 77).getD s 0).toInt
theorem l77 (hS : SK w) : (gA w 77).length = 128 := SK_len hS (a := 77) (n := 128) (by decide +kernel) (by decide)
theorem vaW_s (hS : SK w) (hx : x.toInt = a) (ha : a < 128) (q : Nat) : vaW (aS w 77 x y) q = if q = a then y.toInt else vaW w q := by
  unfold vaW
  rw [gA_aS (SK_isA hS (by decide +kernel)), i_nat hx, getD_set (by rw [l77 hS]; exact ha)]
  by_cases e : q = a
  · rw [if_pos e, if_pos e]
  · rw [if_neg e, if_neg e]
theorem F160_l (hv : gR w0 v 6 = v + 4) (hv4 : v + 4 < 60) (hW : (gI w0 v 2).toInt = W) (hW7 : W ≤ 7) (hwv : ∀ κ, κ < W → (gA w0 (v + 4)).getD (4 * κ + 3) 0 = wv κ) (hwb : ∀ κ, κ < W → 0 ≤ (wv κ).toInt ∧ (wv κ).toInt ≤ 99) : ∀ k : Nat,
    (∀ (w : pm_W) (t : Nat) (i2 : Int32) (u3 : Value), FM [] [77] w0 w → i2.toInt = t → t ≤ W → (∀ s, s < 2 ^ t → vaW w s = vlS wv t s) → PS X k 160 24 [.ref 68, .ref v, .int i2, u3] [] w r w' → r = none ∧ FM [] [77] w0 w' ∧ ∀ s, s < 2 ^ W → vaW w' s = vlS wv W s) ∧
    (∀ (w : pm_W) (t j : Nat) (i2 i3 : Int32), FM [] [77] w0 w → i2.toInt = t → t < W → i3.toInt = j → j ≤ 2 ^ t → (∀ s, s < 2 ^ t → vaW w s = vlS wv t s) → (∀ s, s < j → vaW w (2 ^ t + s) = vlS wv t s + (wv t).toInt) → PS X k 160 34 [.ref 68, .ref v, .int i2, .int i3] [] w r w' → r = none ∧ FM [] [77] w0 w' ∧ ∀ s, s < 2 ^ W → vaW w' s = vlS wv W s) := by
  intro k
  induction k with
  | zero => exact ⟨fun _ _ _ _ _ _ _ _ h => (PS_0 h).elim, fun _ _ _ _ _ _ _ _ _ _ _ _ h => (PS_0 h).elim⟩
  | succ k ih =>
    obtain ⟨ih24, ih34⟩ := ih
    refine ⟨fun w t i2 u3 fm h2 ht hs h => ?_, fun w t j i2 i3 fm h2 ht h3 hj hs hs2 h => ?_⟩
    · have hS : SK w := fm.2.2.2
      have h := U160_24 hS h
      rw [FM_i fm (by simp)] at h
      by_cases c : gI w0 v 2 ≤ i2
      · rw [if_pos c] at h
        rw [Int32.le_iff_toInt_le, hW, h2] at c
        have e : t = W := by omega
        rw [e] at hs
        rw [h.2]
        exact ⟨h.1, fm, hs⟩
      · rw [if_neg c] at h
        rw [Int32.le_iff_toInt_le, hW, h2] at c
        exact ih34 w t 0 i2 0 fm h2 (by omega) z32 (Nat.zero_le _) hs (fun s hs => absurd hs (Nat.not_lt_zero s)) h
    · have hS : SK w := fm.2.2.2
      have h := U160_34 hS h
      have ep := sh_pow h2 (show t ≤ 7 by omega)
      have p128 : 2 ^ t ≤ 64 := Nat.le_trans (Nat.pow_le_pow_right (by decide) (show t ≤ 6 by omega)) (by decide)
      by_cases c : (1 : Int32) <<< (i2 &&& 31) ≤ i3
      · rw [if_pos c] at h
        rw [Int32.le_iff_toInt_le, ep, h3] at c
        have e : j = 2 ^ t := by omega
        refine ih24 w (t + 1) _ _ fm (by rw [zi_inc (n := 40) (by omega) (by omega), h2]; rfl) (by omega) (fun s hs3 => ?_) h
        by_cases e2 : s < 2 ^ t
        · rw [vlS_lo e2]; exact hs s e2
        · rw [Nat.pow_succ] at hs3
          obtain ⟨s', hs'⟩ : ∃ s', s = 2 ^ t + s' := ⟨s - 2 ^ t, by omega⟩
          rw [hs', vlS_hi (by omega)]
          exact hs2 s' (by omega)
      · rw [if_neg c] at h
        rw [Int32.le_iff_toInt_le, ep, h3] at c
        obtain ⟨_, h⟩ := h
        have hv' : gR w v 6 = v + 4 := by rw [FM_r fm (by simp)]; exact hv
        have h := use_p hS h (fun _ _ y => F65 hS hv' y)
        obtain ⟨_, h⟩ := h
        have h := h _ rfl
        have e65 : aG w (v + 4) (i2 * 4 + 3) = wv t := by
          rw [aG_n (m := 4 * t + 3) (by rw [zi_add (zi_mul h2 four32 (by omega) (by omega)) three32 (by omega) (by omega)]; omega), FM_a fm (by simp <;> omega)]
          exact hwv t ht
        rw [e65] at h
        have e77 : (aG w 77 i3).toInt = vlS wv t j := by
          rw [aG_n h3]
          exact hs j (by omega)
        obtain ⟨b1, b2⟩ := vlS_b (s := j) hwb t (by omega)
        obtain ⟨b3, b4⟩ := hwb t ht
        have eo := or_pow h2 (show t ≤ 6 by omega) h3 (show j < 2 ^ t by omega)
        have vs := vaW_s hS eo (by omega) (y := aG w 77 i3 + wv t)
        have esum : (aG w 77 i3 + wv t).toInt = vlS wv t j + (wv t).toInt := zi_add e77 rfl (by omega) (by omega)
        refine ih34 _ t (j + 1) i2 _ (FM_trans fm (FM_aS hS (by decide))) h2 ht (by rw [zi_inc (n := 200) (by omega) (by omega), h3]; rfl) (by omega) (fun s hs3 => ?_) (fun s hs3 => ?_) h
        · rw [vs, if_neg (by omega)]; exact hs s hs3
        · rw [vs]
          by_cases e2 : s = j
          · rw [if_pos (by omega), esum, e2]
          · rw [if_neg (by omega)]; exact hs2 s (by omega)
theorem F160 (hS : SK w) (hv : gR w v 6 = v + 4) (hv4 : v + 4 < 60) (hW : (gI w v 2).toInt = W) (hW7 : W ≤ 7) (hwv : ∀ κ, κ < W → (gA w (v + 4)).getD (4 * κ + 3) 0 = wv κ) (hwb : ∀ κ, κ < W → 0 ≤ (wv κ).toInt ∧ (wv κ).toInt ≤ 99) (h : PS X k 160 0 [.ref 68, .ref v, pm_dead, pm_dead] [] w r w') : r = none ∧ FM [(68, 0), (68, 7)] [77] w w' ∧ gR w' 68 0 = v ∧ (gI w' 68 7).toInt = ((2 ^ W : Nat) : Int) ∧ ∀ s, s < 2 ^ W → vaW w' s = vlS wv W s := by
  cases k with
  | zero => exact (PS_0 h).elim
  | succ k =>
    have h := U160_0 hS h _ rfl _ rfl
    obtain ⟨_, h⟩ := h
    have h := h _ rfl
    have f1 : FM [(68, 0), (68, 7)] [77] w (sR w 68 0 v) := FM_sR hS (by decide +kernel) (by decide)
    have S1 : SK (sR w 68 0 v) := f1.2.2.2
    have eW : gI (sR w 68 0 v) v 2 = gI w v 2 := FM_i f1 (by simp <;> omega)
    rw [eW] at h
    have f2 : FM [(68, 0), (68, 7)] [77] (sR w 68 0 v) (sI (sR w 68 0 v) 68 7 (1 <<< (gI w v 2 &&& 31))) := FM_sI S1 (by decide)
    have S2 := f2.2.2.2
    have f3 : FM [(68, 0), (68, 7)] [77] (sI (sR w 68 0 v) 68 7 (1 <<< (gI w v 2 &&& 31))) (aS (sI (sR w 68 0 v) 68 7 (1 <<< (gI w v 2 &&& 31))) 77 0 0) := FM_aS S2 (by decide)
    have f4 := FM_trans f1 (FM_trans f2 f3)
    have hv' : gR (aS (sI (sR w 68 0 v) 68 7 (1 <<< (gI w v 2 &&& 31))) 77 0 0) v 6 = v + 4 := by rw [FM_r f4 (by simp <;> omega)]; exact hv
    obtain ⟨a1, a2, a3⟩ := (F160_l (w0 := aS (sI (sR w 68 0 v) 68 7 (1 <<< (gI w v 2 &&& 31))) 77 0 0) hv' hv4 (by rw [FM_i f4 (by simp <;> omega)]; exact hW) hW7 (fun κ hκ => by rw [FM_a f4 (by simp <;> omega)]; exact hwv κ hκ) hwb k).1 _ 0 0 _ (FM_refl f3.2.2.2) z32 (Nat.zero_le _) (fun s hs => by
      have e : s = 0 := by have : (2 : Nat) ^ 0 = 1 := rfl; omega
      rw [e, vaW_s S2 z32 (by decide), if_pos rfl, z32]
      rfl) h
    refine ⟨a1, FM_trans f4 (FM_mono a2 (by intro x hx; cases hx) (by decide)), ?_, ?_, a3⟩
    · rw [FM_r a2 (by simp), gR_aS, gR_sI, gR_sR hS (by decide +kernel)]
    · rw [FM_i a2 (by simp), gI_aS, gI_sI (SK_isF S1 (by decide +kernel))]
      exact sh_pow hW hW7
theorem l74 (hS : SK w) : (gA w 74).length = 81 := SK_len hS (a := 74) (n := 81) (by decide +kernel) (by decide)
theorem rmW_s (hS : SK w) (ha : a < 9) (hb : b < 9) (hx : x.toInt = (9 * a + b : Nat)) (i j : Nat) (hi : i < 9) (hj : j < 9) : rmW (aS w 74 x y) i j = if i = a ∧ j = b then y.toInt else rmW w i j := by
  unfold rmW
  rw [gA_aS (SK_isA hS (by decide +kernel)), i_nat hx, getD_set (by rw [l74 hS]; omega)]
  by_cases e : i = a ∧ j = b
  · rw [if_pos (by omega), if_pos e]
  · rw [if_neg (by omega), if_neg e]
theorem F159_l (hv : gR w0 33 0 = v) (hv2 : gR w0 68 0 = v) (okv : okV v = true) (hvv : v + 4 < 33) (hP : (gI w0 v 0).toInt = P) (hP9 : P ≤ 9) (hS0 : SK w0) : ∀ k : Nat,
    (∀ (w : pm_W) (A : Nat) (i2 : Int32) (u3 : Value), FM [] [74] w0 w → i2.toInt = A → A ≤ P → (∀ i j, i < A → j < P → rmW w i j = (rmI (vcl w0 v) (dA w0 33) i j).toInt) → PS X k 159 10 [.ref 68, .ref 33, .int i2, u3] [] w r w' → r = none ∧ FM [] [74] w0 w' ∧ ∀ i j, i < P → j < P → rmW w' i j = (rmI (vcl w0 v) (dA w0 33) i j).toInt) ∧
    (∀ (w : pm_W) (A B : Nat) (i2 i3 : Int32), FM [] [74] w0 w → i2.toInt = A → A < P → i3.toInt = B → B ≤ P → (∀ i j, (i < A ∧ j < P) ∨ (i = A ∧ j < B) → rmW w i j = (rmI (vcl w0 v) (dA w0 33) i j).toInt) → PS X k 159 23 [.ref 68, .ref 33, .int i2, .int i3] [] w r w' → r = none ∧ FM [] [74] w0 w' ∧ ∀ i j, i < P → j < P → rmW w' i j = (rmI (vcl w0 v) (dA w0 33) i j).toInt) := by
  intro k
  induction k with
  | zero => exact ⟨fun _ _ _ _ _ _ _ _ h => (PS_0 h).elim, fun _ _ _ _ _ _ _ _ _ _ _ h => (PS_0 h).elim⟩
  | succ k ih =>
    obtain ⟨ih10, ih23⟩ := ih
    refine ⟨fun w A i2 u3 fm h2 hA hf h => ?_, fun w A B i2 i3 fm h2 hA h3 hB hf h => ?_⟩
    · have hS : SK w := fm.2.2.2
      have h := U159_10 hS h
      rw [FM_r fm (by simp), FM_i fm (by simp), hv2] at h
      by_cases c : gI w0 v 0 ≤ i2
      · rw [if_pos c] at h
        rw [Int32.le_iff_toInt_le, hP, h2] at c
        rw [h.2]
        exact ⟨h.1, fm, fun i j hi hj => hf i j (by omega) hj⟩
      · rw [if_neg c] at h
        rw [Int32.le_iff_toInt_le, hP, h2] at c
        exact ih23 w A 0 i2 0 fm h2 (by omega) z32 (Nat.zero_le _) (fun i j q => hf i j (by omega) (by omega)) h
    · have hS : SK w := fm.2.2.2
      have h := U159_23 hS h
      rw [FM_r fm (by simp), FM_i fm (by simp), hv2] at h
      by_cases c : gI w0 v 0 ≤ i3
      · rw [if_pos c] at h
        rw [Int32.le_iff_toInt_le, hP, h3] at c
        exact ih10 w (A + 1) _ _ fm (by rw [zi_inc (n := 40) (by omega) (by omega), h2]; rfl) (by omega) (fun i j hi hj => hf i j (by omega)) h
      · rw [if_neg c] at h
        rw [Int32.le_iff_toInt_le, hP, h3] at c
        obtain ⟨c9, hc9, h⟩ := use_z hS h (fun _ _ t => F52n hS h2 h3 (by omega) (by omega) t)
        have hv' : gR w 33 0 = v := by rw [FM_r fm (by simp)]; exact hv
        have h := use_p hS h (fun _ _ y => F77n hS (by decide +kernel) okv hv' h2 h3 (by omega) (by omega) y)
        obtain ⟨_, h⟩ := h
        have h := h _ rfl
        have ev : vcl w v = vcl w0 v := by
          funext q
          exact vcl_FMv hS0 fm okv (by simp) (by simp) (by simp) (by simp <;> omega) (by simp <;> omega) (by simp <;> omega) (by simp <;> omega) q
        have ed : dA w 33 = dA w0 33 := by funext q; unfold dA; rw [FM_a fm (by simp)]
        rw [ev, ed] at h
        refine ih23 _ A (B + 1) i2 _ (FM_trans fm (FM_aS hS (by decide))) h2 hA (by rw [zi_inc (n := 40) (by omega) (by omega), h3]; rfl) (by omega) (fun i j q => ?_) h
        rw [rmW_s hS (show A < 9 by omega) (show B < 9 by omega) hc9 i j (by omega) (by omega)]
        by_cases e : i = A ∧ j = B
        · rw [if_pos e, e.1, e.2]
        · rw [if_neg e]; exact hf i j (by omega)
theorem F159 (hS : SK w) (hv : gR w 33 0 = v) (okv : okV v = true) (hvv : v + 4 < 33) (hv6 : gR w v 6 = v + 4) (hP : (gI w v 0).toInt = P) (hP9 : P ≤ 9) (hW : (gI w v 2).toInt = W) (hW7 : W ≤ 7) (hwv : ∀ κ, κ < W → (gA w (v + 4)).getD (4 * κ + 3) 0 = wv κ) (hwb : ∀ κ, κ < W → 0 ≤ (wv κ).toInt ∧ (wv κ).toInt ≤ 99) (h : PS X k 159 0 [.ref 68, .ref 33, pm_dead, pm_dead] [] w r w') : r = none ∧ FM [(68, 0), (68, 7)] [74, 77] w w' ∧ gR w' 68 0 = v ∧ (gI w' 68 7).toInt = ((2 ^ W : Nat) : Int) ∧ (∀ s, s < 2 ^ W → vaW w' s = vlS wv W s) ∧ ∀ i j, i < P → j < P → rmW w' i j = (rmI (vcl w v) (dA w 33) i j).toInt := by
  cases k with
  | zero => exact (PS_0 h).elim
  | succ k =>
    obtain ⟨q1, w2, y, h⟩ := U159_0 hS h
    rw [hv] at y
    obtain ⟨a1, f1, a3, a4, a5⟩ := F160 hS hv6 (by omega) hW hW7 hwv hwb y
    have S2 : SK w2 := f1.2.2.2
    have h := h a1 S2
    have hv' : gR w2 33 0 = v := by rw [FM_r f1 (by simp)]; exact hv
    obtain ⟨b1, b2, b3⟩ := (F159_l hv' a3 okv hvv (by rw [FM_i f1 (by simp <;> omega)]; exact hP) hP9 S2 k).1 w2 0 0 _ (FM_refl S2) z32 (Nat.zero_le _) (fun i j hi => absurd hi (Nat.not_lt_zero i)) h
    refine ⟨b1, FM_trans (FM_mono f1 (by intro x hx; exact hx) (by decide)) (FM_mono b2 (by intro x hx; cases hx) (by decide)), by rw [FM_r b2 (by simp)]; exact a3, by rw [FM_i b2 (by simp)]; exact a4, fun s hs => ?_, fun i j hi hj => ?_⟩
    · rw [← a5 s hs]
      unfold vaW
      rw [FM_a b2 (by simp)]
    · rw [b3 i j hi hj]
      have ev : vcl w2 v = vcl w v := by
        funext q
        exact vcl_FMv hS f1 okv (by simp <;> omega) (by simp <;> omega) (by simp <;> omega) (by simp <;> omega) (by simp <;> omega) (by simp <;> omega) (by simp <;> omega) q
      have ed : dA w2 33 = dA w 33 := by funext q; unfold dA; rw [FM_a f1 (by simp)]
      rw [ev, ed]
end IKL
