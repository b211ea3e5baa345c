/-! ===== the best set of wants, on both sides ===== -/
section ITB
variable {X : pm_X} {k k2 : Nat} {w0 w w1 w2 w3 w4 w5 wj w' : pm_W} {r r2 q0 q1 q2 : Option Value} {p1 p2 p3 p4 p5 i0 i1 i2 i3 i4 i5 i6 i7 i8 z z1 z2 x y : Int32} {i v j m u P t s b Q I J K T p W M N κ : Nat} {R R' C ask c : Nat → Nat → Int} {e g d sl : Int} {A B : Nat → Nat} {n o : Nat → Int} {S : Nat → Bool} {a : Nat → Int32} {wv : Nat → Int32}
/-- how many are in a set -/
def pcS (s : Nat) : Nat := cntN (fun i => s.testBit i) 7
def bcE (p1 : Int32) : Int32 := ((((((((p1 - (((p1.toUInt32 >>> ((1 : Int32).toUInt32 &&& Int32.toUInt32 31)).toInt32) &&& 1431655765)) &&& 858993459) + ((((p1 - (((p1.toUInt32 >>> ((1 : Int32).toUInt32 &&& Int32.toUInt32 31)).toInt32) &&& 1431655765)).toUInt32 >>> ((2 : Int32).toUInt32 &&& Int32.toUInt32 31)).toInt32) &&& 858993459)) + (((((p1 - (((p1.toUInt32 >>> ((1 : Int32).toUInt32 &&& Int32.toUInt32 31)).toInt32) &&& 1431655765)) &&& 858993459) + ((((p1 - (((p1.toUInt32 >>> ((1 : Int32).toUInt32 &&& Int32.toUInt32 31)).toInt32) &&& 1431655765)).toUInt32 >>> ((2 : Int32).toUInt32 &&& Int32.toUInt32 31)).toInt32) &&& 858993459)).toUInt32 >>> ((4 : Int32).toUInt32 &&& Int32.toUInt32 31)).toInt32)) &&& 252645135) + (((((((p1 - (((p1.toUInt32 >>> ((1 : Int32).toUInt32 &&& Int32.toUInt32 31)).toInt32) &&& 1431655765)) &&& 858993459) + ((((p1 - (((p1.toUInt32 >>> ((1 : Int32).toUInt32 &&& Int32.toUInt32 31)).toInt32) &&& 1431655765)).toUInt32 >>> ((2 : Int32).toUInt32 &&& Int32.toUInt32 31)).toInt32) &&& 858993459)) + (((((p1 - (((p1.toUInt32 >>> ((1 : Int32).toUInt32 &&& Int32.toUInt32 31)).toInt32) &&& 1431655765)) &&& 858993459) + ((((p1 - (((p1.toUInt32 >>> ((1 : Int32).toUInt32 &&& Int32.toUInt32 31)).toInt32) &&& 1431655765)).toUInt32 >>> ((2 : Int32).toUInt32 &&& Int32.toUInt32 31)).toInt32) &&& 858993459)).toUInt32 >>> ((4 : Int32).toUInt32 &&& Int32.toUInt32 31)).toInt32)) &&& 252645135).toUInt32 >>> ((8 : Int32).toUInt32 &&& Int32.toUInt32 31)).toInt32)) + ((((((((p1 - (((p1.toUInt32 >>> ((1 : Int32).toUInt32 &&& Int32.toUInt32 31)).toInt32) &&& 1431655765)) &&& 858993459) + ((((p1 - (((p1.toUInt32 >>> ((1 : Int32).toUInt32 &&& Int32.toUInt32 31)).toInt32) &&& 1431655765)).toUInt32 >>> ((2 : Int32).toUInt32 &&& Int32.toUInt32 31)).toInt32) &&& 858993459)) + (((((p1 - (((p1.toUInt32 >>> ((1 : Int32).toUInt32 &&& Int32.toUInt32 31)).toInt32) &&& 1431655765)) &&& 858993459) + ((((p1 - (((p1.toUInt32 >>> ((1 : Int32).toUInt32 &&& Int32.toUInt32 31)).toInt32) &&& 1431655765)).toUInt32 >>> ((2 : Int32).toUInt32 &&& Int32.toUInt32 31)).toInt32) &&& 858993459)).toUInt32 >>> ((4 : Int32).toUInt32 &&& Int32.toUInt32 31)).toInt32)) &&& 252645135) + (((((((p1 - (((p1.toUInt32 >>> ((1 : Int32).toUInt32 &&& Int32.toUInt32 31)).toInt32) &&& 1431655765)) &&& 858993459) + ((((p1 - (((p1.toUInt32 >>> ((1 : Int32).toUInt32 &&& Int32.toUInt32 31)).toInt32) &&& 1431655765)).toUInt32 >>> ((2 : Int32).toUInt32 &&& Int32.toUInt32 31)).toInt32) &&& 858993459)) + (((((p1 - (((p1.toUInt32 >>> ((1 : Int32).toUInt32 &&& Int32.toUInt32 31)).toInt32) &&& 1431655765)) &&& 858993459) + ((((p1 - (((p1.toUInt32 >>> ((1 : Int32).toUInt32 &&& Int32.toUInt32 31)).toInt32) &&& 1431655765)).toUInt32 >>> ((2 : Int32).toUInt32 &&& Int32.toUInt32 31)).toInt32) &&& 858993459)).toUInt32 >>> ((4 : Int32).toUInt32 &&& Int32.toUInt32 31)).toInt32)) &&& 252645135).toUInt32 >>> ((8 : Int32).toUInt32 &&& Int32.toUInt32 31)).toInt32)).toUInt32 >>> ((16 : Int32).toUInt32 &&& Int32.toUInt32 31)).toInt32)) &&& 63)
set_option maxRecDepth 100000 in
theorem bcE_t : (List.range 128).all (fun s => decide ((bcE (Int32.ofNat s)).toInt = (pcS s : Nat))) = true := by decide +kernel
theorem F176 (hS : SK w) (h1 : p1.toInt = s) (hs : s < 128) (h : PS X k 176 0 [.int p1] [] w r w') : ∃ z : Int32, z.toInt = (pcS s : Nat) ∧ r = some (.int z) ∧ w' = w := by
  cases k with
  | zero => exact (PS_0 h).elim
  | succ k =>
    obtain ⟨e1, e2⟩ := U176_0 hS h
    refine ⟨bcE p1, ?_, e1, e2⟩
    rw [i32_of h1 (by omega)]
    exact of_decide_eq_true (List.all_eq_true.mp bcE_t s (List.mem_range.mpr hs))
theorem pc_t : (List.range 128).all (fun m => decide (pcS m = m % 2 + pcS (m / 2) ∧ (Int32.ofNat m &&& 1).toInt = ((m % 2 : Nat) : Int) ∧ (Int32.ofNat m >>> ((1 : Int32) &&& 31)).toInt = ((m / 2 : Nat) : Int))) = true := by decide +kernel
theorem pc_b : pcS s ≤ 7 := cntN_le 7
theorem F289 (hS : SK w) (h1 : p1.toInt = s) (hs : s < 128) (h : PS X k 289 0 [.int p1, pm_dead, pm_dead] [] w r w') : ∃ z : Int32, z.toInt = (pcS s : Nat) ∧ r = some (.int z) ∧ w' = w := by
  have lp : ∀ (k m c : Nat) (i1 i2 : Int32), i2.toInt = m → m < 128 → i1.toInt = c → c + pcS m ≤ 7 → PS X k 289 4 [.int p1, .int i1, .int i2] [] w r w' → ∃ z : Int32, z.toInt = (c + pcS m : Nat) ∧ r = some (.int z) ∧ w' = w := by
    intro k
    induction k with
    | zero => intro m c i1 i2 _ _ _ _ h; exact (PS_0 h).elim
    | succ k ih =>
      intro m c i1 i2 h2 hm hi hc h
      have h := U289_4 hS h
      by_cases q : i2 ≤ 0
      · rw [if_pos q] at h
        rw [Int32.le_iff_toInt_le, h2, z32] at q
        have e : m = 0 := by omega
        refine ⟨i1, ?_, h.1, h.2⟩
        rw [e, show pcS 0 = 0 by decide +kernel, hi]
        rfl
      · rw [if_neg q] at h
        have t := of_decide_eq_true (List.all_eq_true.mp pc_t m (List.mem_range.mpr hm))
        rw [← i32_of h2 (by omega)] at t
        obtain ⟨t1, t2, t3⟩ := t
        obtain ⟨z, z1, z2, z3⟩ := ih (m / 2) (c + m % 2) _ _ t3 (by omega) (by rw [zi_add hi t2 (by omega) (by omega)]; omega) (by omega) h
        exact ⟨z, by rw [z1, t1]; omega, z2, z3⟩
  cases k with
  | zero => exact (PS_0 h).elim
  | succ k =>
    obtain ⟨z, z1, z2⟩ := lp k s 0 0 p1 h1 hs z32 (by have := pc_b (s := s); omega) (U289_0 hS h)
    exact ⟨z, by rw [z1]; omega, z2⟩
/-- a set is better -/
def bet (wv : Nat → Int32) (W s b : Nat) : Prop := vlS wv W b < vlS wv W s ∨ (vlS wv W s = vlS wv W b ∧ pcS s < pcS b)
noncomputable def bstF (can : Nat → Prop) (bt : Nat → Nat → Prop) : Nat → Nat
  | 0 => 0
  | n + 1 => @ite Nat (bt (n + 1) (bstF can bt n) ∧ can (n + 1)) (Classical.propDecidable _) (n + 1) (bstF can bt n)
theorem bstF_le {can : Nat → Prop} {bt : Nat → Nat → Prop} : ∀ n, bstF can bt n ≤ n
  | 0 => Nat.le_refl 0
  | n + 1 => by
    have q : bstF can bt n ≤ n := bstF_le n
    unfold bstF
    split <;> omega
theorem bstF_cg {can can' : Nat → Prop} {bt : Nat → Nat → Prop} (h : ∀ s, can s ↔ can' s) : ∀ n, bstF can bt n = bstF can' bt n := by
  rw [show can = can' from funext fun s => propext (h s)]
  intro n
  rfl
theorem bstF_y {can : Nat → Prop} {bt : Nat → Nat → Prop} (h1 : bt (t + 1) (bstF can bt t)) (h2 : can (t + 1)) : bstF can bt (t + 1) = t + 1 := by
  show @ite Nat _ (Classical.propDecidable _) _ _ = _
  exact if_pos ⟨h1, h2⟩
theorem bstF_n {can : Nat → Prop} {bt : Nat → Nat → Prop} (h : ¬ (bt (t + 1) (bstF can bt t) ∧ can (t + 1))) : bstF can bt (t + 1) = bstF can bt t := by
  show @ite Nat _ (Classical.propDecidable _) _ _ = _
  exact if_neg h
/-! the class -/
theorem F175 (hS : SK w) (hv : ∀ s, s < 2 ^ W → vaW w s = vlS wv W s) (hW7 : W ≤ 7) (h1 : p1.toInt = s) (h2 : p2.toInt = b) (hs : s < 2 ^ W) (hb : b < 2 ^ W) (h : PS X k 175 0 [.ref 68, .int p1, .int p2] [] w r w') : w' = w ∧ ((bet wv W s b ∧ r = some (.int 1)) ∨ (¬ bet wv W s b ∧ r = some (.int 0))) := by
  have p128 : 2 ^ W ≤ 128 := Nat.le_trans (Nat.pow_le_pow_right (by decide) hW7) (by decide)
  cases k with
  | zero => exact (PS_0 h).elim
  | succ k =>
    obtain ⟨_, _, h⟩ := U175_0 hS h
    have v1 : (aG w 77 p1).toInt = vlS wv W s := by rw [aG_n h1]; exact hv s hs
    have v2 : (aG w 77 p2).toInt = vlS wv W b := by rw [aG_n h2]; exact hv b hb
    unfold bet
    by_cases c : aG w 77 p1 = aG w 77 p2
    · rw [if_pos c] at h
      have e : vlS wv W s = vlS wv W b := by rw [← v1, ← v2, c]
      obtain ⟨z3, hz3, h⟩ := use_z hS h (fun _ _ y => F176 hS h1 (by omega) y)
      obtain ⟨z6, hz6, h⟩ := use_z hS h (fun _ _ y => F176 hS h2 (by omega) y)
      by_cases c2 : z6 ≤ z3
      · rw [if_pos c2] at h
        rw [Int32.le_iff_toInt_le, hz3, hz6] at c2
        exact ⟨h.2, Or.inr ⟨by omega, h.1⟩⟩
      · rw [if_neg c2] at h
        rw [Int32.le_iff_toInt_le, hz3, hz6] at c2
        exact ⟨h.2, Or.inl ⟨by omega, h.1⟩⟩
    · rw [if_neg c] at h
      obtain ⟨_, _, h⟩ := h
      have e : vlS wv W s ≠ vlS wv W b := fun e => c (Int32.toInt_inj.mp (by rw [v1, v2, e]))
      by_cases c2 : aG w 77 p1 ≤ aG w 77 p2
      · rw [if_pos c2] at h
        rw [Int32.le_iff_toInt_le, v1, v2] at c2
        exact ⟨h.2, Or.inr ⟨by omega, h.1⟩⟩
      · rw [if_neg c2] at h
        rw [Int32.le_iff_toInt_le, v1, v2] at c2
        exact ⟨h.2, Or.inl ⟨by omega, h.1⟩⟩
theorem F174 (hS : SK w) (hV : WSH w P W A B n) (hR : ∀ i j, i < P → j < P → 0 ≤ rmW w i j ∧ rmW w i j ≤ 1000) (h7 : (gI w 68 7).toInt = ((2 ^ W : Nat) : Int)) (hv : ∀ s, s < 2 ^ W → vaW w s = vlS wv W s) (h1 : p1.toInt = sl) (hsl : 0 ≤ sl ∧ sl ≤ 99) (h : PS X k 174 0 [.ref 68, .int p1, pm_dead, pm_dead] [] w r w') : FM [] [75, 76, 80, 81, 82] w w' ∧ ∃ z : Int32, r = some (.int z) ∧ z.toInt = (bstF (fun s => CANH (rmW w) P W A B n s sl) (bet wv W) (2 ^ W - 1) : Nat) := by
  obtain ⟨v, _, _, _, _, hW7, _⟩ := id hV
  have p128 : 2 ^ W ≤ 128 := Nat.le_trans (Nat.pow_le_pow_right (by decide) hW7) (by decide)
  have p1' : 1 ≤ 2 ^ W := Nat.one_le_two_pow
  have lp : ∀ (k t : Nat) (wk : pm_W) (i2 i3 : Int32), FM [] [75, 76, 80, 81, 82] w wk → i3.toInt = (t + 1 : Nat) → t + 1 ≤ 2 ^ W → i2.toInt = (bstF (fun s => CANH (rmW w) P W A B n s sl) (bet wv W) t : Nat) → PS X k 174 4 [.ref 68, .int p1, .int i2, .int i3] [] wk r w' → FM [] [75, 76, 80, 81, 82] w w' ∧ ∃ z : Int32, r = some (.int z) ∧ z.toInt = (bstF (fun s => CANH (rmW w) P W A B n s sl) (bet wv W) (2 ^ W - 1) : Nat) := by
    intro k
    induction k with
    | zero => intro t wk i2 i3 _ _ _ _ h; exact (PS_0 h).elim
    | succ k ih =>
      intro t wk i2 i3 fm h3 ht h2 h
      have S1 : SK wk := fm.2.2.2
      have h := U174_4 S1 h
      rw [FM_i fm (by simp)] at h
      by_cases c : gI w 68 7 ≤ i3
      · rw [if_pos c] at h
        rw [Int32.le_iff_toInt_le, h7, h3] at c
        have e : t = 2 ^ W - 1 := by omega
        rw [h.2]
        exact ⟨fm, i2, h.1, by rw [h2, e]⟩
      · rw [if_neg c] at h
        rw [Int32.le_iff_toInt_le, h7, h3] at c
        have e1 : (i3 + 1).toInt = ((t + 1 + 1 : Nat) : Int) := by rw [zi_inc (n := 200) (by omega) (by omega), h3]; rfl
        have hb := bstF_le (can := fun s => CANH (rmW w) P W A B n s sl) (bt := bet wv W) t
        have er : rmW wk = rmW w := by funext i j; unfold rmW; rw [FM_a fm (by decide)]
        obtain ⟨q1, w2, y, h5⟩ := h
        obtain ⟨a1, a2⟩ := F175 (wv := wv) (W := W) S1 (fun s hs => by
          rw [← hv s hs]
          unfold vaW
          rw [FM_a fm (by decide)]) hW7 h3 h2 (by omega) (by omega) y
        rcases a2 with ⟨b1, b2⟩ | ⟨b1, b2⟩
        · have h := h5 _ b2 (by rw [a1]; exact S1)
          rw [if_neg (by decide +kernel), a1] at h
          obtain ⟨q4, w5, y5, h6⟩ := h
          obtain ⟨f5, bb, c1, c2⟩ := F169 S1 (WSH_fm hV fm (by intro p hp; cases hp) (by decide)) (by rw [er]; exact hR) (MSK_set h3 (by omega)) h1 hsl y5
          rw [er] at c2
          have h := h6 _ c1 f5.2.2.2
          cases bb with
          | true =>
            rw [if_neg (by decide +kernel)] at h
            exact ih (t + 1) w5 _ _ (FM_trans fm f5) e1 (by omega) (by rw [bstF_y b1 (c2.mp rfl)]; exact h3) h
          | false =>
            rw [if_pos (by decide +kernel)] at h
            exact ih (t + 1) w5 _ _ (FM_trans fm f5) e1 (by omega) (by rw [bstF_n (fun z => Bool.noConfusion (c2.mpr z.2))]; exact h2) h
        · have h := h5 _ b2 (by rw [a1]; exact S1)
          rw [if_pos rfl, a1] at h
          exact ih (t + 1) wk _ _ fm e1 (by omega) (by rw [bstF_n (fun z => b1 z.1)]; exact h2) h
  cases k with
  | zero => exact (PS_0 h).elim
  | succ k => exact lp k 0 w 0 1 (FM_refl hS) o32 (by omega) z32 (U174_0 hS h)
/-! the reference -/
theorem F288 (hS : SK w) (hV : WSR w u P W A B n) (hp : p1.toInt = (610 + 132 * u : Nat)) (hwb : ∀ κ, κ < W → 0 ≤ (wtP (al w) u κ 3).toInt ∧ (wtP (al w) u κ 3).toInt ≤ 99) (h2 : p2.toInt = s) (hs : s < 128) (h : PS X k 288 0 [.ref 147, .int p1, .int p2, pm_dead, pm_dead] [] w r w') : ∃ z : Int32, z.toInt = vlS (fun κ => wtP (al w) u κ 3) W s ∧ r = some (.int z) ∧ w' = w := by
  obtain ⟨hu, hP, hP9, hW, hW7, hw, hR⟩ := id hV
  have hm := MSK_set h2 hs
  have eW : (aG w 148 (p1 + 1)).toInt = W := by
    rw [aG_n (m := 611 + 132 * u) (by rw [zi_add hp o32 (by omega) (by omega)]; omega)]
    exact hW
  have lp : ∀ (k t : Nat) (i3 i4 : Int32), i4.toInt = t → t ≤ W → i3.toInt = vlS (fun κ => wtP (al w) u κ 3) t s → PS X k 288 5 [.ref 147, .int p1, .int p2, .int i3, .int i4] [] w r w' → ∃ z : Int32, z.toInt = vlS (fun κ => wtP (al w) u κ 3) W s ∧ r = some (.int z) ∧ w' = w := by
    intro k
    induction k with
    | zero => intro t i3 i4 _ _ _ h; exact (PS_0 h).elim
    | succ k ih =>
      intro t i3 i4 h4 ht h3 h
      obtain ⟨_, h⟩ := U288_5 hS h
      by_cases c : aG w 148 (p1 + 1) ≤ i4
      · rw [if_pos c] at h
        rw [Int32.le_iff_toInt_le, eW, h4] at c
        have e : t = W := by omega
        rw [e] at h3
        exact ⟨i3, h3, h.1, h.2⟩
      · rw [if_neg c] at h
        rw [Int32.le_iff_toInt_le, eW, h4] at c
        have h := use_p hS h (fun _ _ y => F224w (c := 3) hS hu hp h4 (by omega) three32 (by decide) y)
        obtain ⟨b1, b2⟩ := vlS_b (s := s) hwb t (by omega)
        obtain ⟨b3, b4⟩ := hwb t (by omega)
        have es : vlS (fun κ => wtP (al w) u κ 3) (t + 1) s = vlS (fun κ => wtP (al w) u κ 3) t s + (if s.testBit t = true then (wtP (al w) u t 3).toInt else 0) := rfl
        have ev : (((p2 >>> (i4 &&& 31)) &&& 1) * wtP (al w) u t 3).toInt = if s.testBit t = true then (wtP (al w) u t 3).toInt else 0 := by
          cases hb : s.testBit t with
          | true =>
            rw [(MSK_t hm h4 (by omega) (by decide)).mpr hb, if_pos rfl, zi_mul o32 rfl (by omega) (by omega)]
            omega
          | false =>
            rw [(MSK_f hm h4 (by omega) (by decide)).mpr hb, if_neg Bool.false_ne_true, zi_mul z32 rfl (by omega) (by omega)]
            omega
        refine ih (t + 1) _ _ (by rw [zi_inc (n := 40) (by omega) (by omega), h4]; rfl) (by omega) ?_ h
        rw [es, zi_add h3 ev (by split <;> omega) (by split <;> omega)]
  cases k with
  | zero => exact (PS_0 h).elim
  | succ k => exact lp k 0 0 0 z32 (Nat.zero_le _) z32 (U288_0 hS h)
theorem F287 (hS : SK w) (hV : WSR w u P W A B n) (hp : p1.toInt = (610 + 132 * u : Nat)) (hwb : ∀ κ, κ < W → 0 ≤ (wtP (al w) u κ 3).toInt ∧ (wtP (al w) u κ 3).toInt ≤ 99) (h2 : p2.toInt = sl) (hsl : 0 ≤ sl ∧ sl ≤ 99) (h : PS X k 287 0 [.ref 147, .int p1, .int p2, .int p3, pm_dead, pm_dead, pm_dead] [] w r w') : FM [] [160, 161, 162, 163, 164] w w' ∧ ∃ z : Int32, r = some (.int z) ∧ z.toInt = (bstF (fun s => CANH (rmX (rmA w u) p3.toInt (gI w 147 31).toInt (gI w 147 32).toInt) P W A B n s sl) (bet (fun κ => wtP (al w) u κ 3) W) (2 ^ W - 1) : Nat) := by
  obtain ⟨hu, hP, hP9, hW, hW7, hw, hR⟩ := id hV
  have p128 : 2 ^ W ≤ 128 := Nat.le_trans (Nat.pow_le_pow_right (by decide) hW7) (by decide)
  have p1' : 1 ≤ 2 ^ W := Nat.one_le_two_pow
  have eW : ∀ wk, FM [] [160, 161, 162, 163, 164] w wk → (aG wk 148 (p1 + 1)).toInt = W := fun wk f => by
    rw [aG_n (m := 611 + 132 * u) (by rw [zi_add hp o32 (by omega) (by omega)]; omega), FM_a f (by decide)]
    exact hW
  obtain ⟨can, hcan⟩ : ∃ can, can = (fun s => CANH (rmX (rmA w u) p3.toInt (gI w 147 31).toInt (gI w 147 32).toInt) P W A B n s sl) := ⟨_, rfl⟩
  rw [← hcan]
  have lp : ∀ (k t : Nat) (wk : pm_W) (i4 i5 : Int32) (u6 : Value), FM [] [160, 161, 162, 163, 164] w wk → i5.toInt = (t + 1 : Nat) → t + 1 ≤ 2 ^ W → i4.toInt = (bstF can (bet (fun κ => wtP (al w) u κ 3) W) t : Nat) → PS X k 287 6 [.ref 147, .int p1, .int p2, .int p3, .int i4, .int i5, u6] [] wk r w' → FM [] [160, 161, 162, 163, 164] w w' ∧ ∃ z : Int32, r = some (.int z) ∧ z.toInt = (bstF can (bet (fun κ => wtP (al w) u κ 3) W) (2 ^ W - 1) : Nat) := by
    intro k
    induction k with
    | zero => intro t wk i4 i5 u6 _ _ _ _ h; exact (PS_0 h).elim
    | succ k ih =>
      intro t wk i4 i5 u6 fm h5 ht h4 h
      have S1 : SK wk := fm.2.2.2
      have ea : al wk = al w := al_FM fm (by decide)
      have hVk := WSR_fm hV fm (by decide) (by decide)
      obtain ⟨_, h⟩ := U287_6 S1 h
      have ep := sh_pow (eW wk fm) hW7
      by_cases c : (1 : Int32) <<< (aG wk 148 (p1 + 1) &&& 31) ≤ i5
      · rw [if_pos c] at h
        rw [Int32.le_iff_toInt_le, ep, h5] at c
        have e : t = 2 ^ W - 1 := by omega
        rw [h.2]
        exact ⟨fm, i4, h.1, by rw [h4, e]⟩
      · rw [if_neg c] at h
        rw [Int32.le_iff_toInt_le, ep, h5] at c
        have e1 : (i5 + 1).toInt = ((t + 1 + 1 : Nat) : Int) := by rw [zi_inc (n := 200) (by omega) (by omega), h5]; rfl
        have hb := bstF_le (can := can) (bt := bet (fun κ => wtP (al w) u κ 3) W) t
        obtain ⟨bb, hbb⟩ : ∃ bb, bb = bstF can (bet (fun κ => wtP (al w) u κ 3) W) t := ⟨_, rfl⟩
        rw [← hbb] at h4 hb
        obtain ⟨z3, hz3, h⟩ := use_z S1 h (fun _ _ y => F288 S1 hVk hp (by rw [ea]; exact hwb) h5 (by omega) y)
        obtain ⟨z6, hz6, h⟩ := use_z S1 h (fun _ _ y => F288 S1 hVk hp (by rw [ea]; exact hwb) h4 (by omega) y)
        rw [ea] at hz3 hz6
        obtain ⟨b1, b2⟩ := vlS_b (s := t + 1) hwb W (Nat.le_refl _)
        obtain ⟨b3, b4⟩ := vlS_b (s := bb) hwb W (Nat.le_refl _)
        have ed : (z3 - z6).toInt = vlS (fun κ => wtP (al w) u κ 3) W (t + 1) - vlS (fun κ => wtP (al w) u κ 3) W bb := zi_sub hz3 hz6 (by omega) (by omega)
        have ask : bet (fun κ => wtP (al w) u κ 3) W (t + 1) bb → (∃ (r7 : Option Value) (w8 : pm_W), PS X k 284 0 [.ref 147, .int p1, .int i5, .int p2, .int p3, pm_dead, pm_dead] [] wk r7 w8 ∧ (∀ x9 : Int32, r7 = some (.int x9) → SK w8 → (if x9 = 0 then (PS X k 287 6 [.ref 147, .int p1, .int p2, .int p3, .int i4, .int (i5 + 1), .int (z3 - z6)] [] w8 r w') else (PS X k 287 6 [.ref 147, .int p1, .int p2, .int p3, .int i5, .int (i5 + 1), .int (z3 - z6)] [] w8 r w')))) → FM [] [160, 161, 162, 163, 164] w w' ∧ ∃ z : Int32, r = some (.int z) ∧ z.toInt = (bstF can (bet (fun κ => wtP (al w) u κ 3) W) (2 ^ W - 1) : Nat) := by
          intro hbt h
          obtain ⟨q4, w5, y5, h6⟩ := h
          obtain ⟨f5, bo, c1, c2⟩ := F284 S1 hVk hp (MSK_set h5 (by omega)) h2 hsl y5
          rw [rmA_fm fm (by decide) (by decide), FM_i fm (by simp), FM_i fm (by simp)] at c2
          have c2 : bo = true ↔ can (t + 1) := by rw [hcan]; exact c2
          have h := h6 _ c1 f5.2.2.2
          cases bo with
          | true =>
            rw [if_neg (by decide +kernel)] at h
            exact ih (t + 1) w5 _ _ _ (FM_trans fm f5) e1 (by omega) (by rw [bstF_y (by rw [← hbb]; exact hbt) (c2.mp rfl)]; exact h5) h
          | false =>
            rw [if_pos (by decide +kernel)] at h
            exact ih (t + 1) w5 _ _ _ (FM_trans fm f5) e1 (by omega) (by rw [bstF_n (fun z => Bool.noConfusion (c2.mpr z.2)), ← hbb]; exact h4) h
        have nob : ¬ bet (fun κ => wtP (al w) u κ 3) W (t + 1) bb → PS X k 287 6 [.ref 147, .int p1, .int p2, .int p3, .int i4, .int (i5 + 1), .int (z3 - z6)] [] wk r w' → FM [] [160, 161, 162, 163, 164] w w' ∧ ∃ z : Int32, r = some (.int z) ∧ z.toInt = (bstF can (bet (fun κ => wtP (al w) u κ 3) W) (2 ^ W - 1) : Nat) := by
          intro hbt h
          exact ih (t + 1) wk _ _ _ fm e1 (by omega) (by rw [bstF_n (fun z => hbt (by rw [hbb]; exact z.1)), ← hbb]; exact h4) h
        unfold bet at ask nob
        by_cases c1 : 0 < z3 - z6
        · rw [if_pos c1] at h
          rw [Int32.lt_iff_toInt_lt, z32, ed] at c1
          exact ask (Or.inl (by omega)) h
        · rw [if_neg c1] at h
          rw [Int32.lt_iff_toInt_lt, z32, ed] at c1
          by_cases c2 : z3 - z6 = 0
          · rw [if_pos c2] at h
            rw [c2, z32] at ed
            obtain ⟨z9, hz9, h⟩ := use_z S1 h (fun _ _ y => F289 S1 h5 (by omega) y)
            obtain ⟨z8, hz8, h⟩ := use_z S1 h (fun _ _ y => F289 S1 h4 (by omega) y)
            by_cases c3 : z8 ≤ z9
            · rw [if_pos c3] at h
              rw [Int32.le_iff_toInt_le, hz9, hz8] at c3
              exact nob (by omega) h
            · rw [if_neg c3] at h
              rw [Int32.le_iff_toInt_le, hz9, hz8] at c3
              exact ask (Or.inr ⟨by omega, by omega⟩) h
          · rw [if_neg c2] at h
            have : (z3 - z6).toInt ≠ 0 := fun e => c2 (Int32.toInt_inj.mp (by rw [e, z32]))
            exact nob (by omega) h
  cases k with
  | zero => exact (PS_0 h).elim
  | succ k => exact lp k 0 w 0 1 _ (FM_refl hS) o32 (by omega) z32 (U287_0 hS h)
end ITB
