section
/-! ===== can a set of wants be had (the reference) ===== -/
section IRC
variable {X : pm_X} {k k2 : Nat} {w0 w w1 w2 w3 w4 w5 wj w' : pm_W} {r r2 q0 q1 q2 : Option Value} {p1 p2 p3 p4 p5 i1 i2 i3 i4 i5 i6 i7 i8 z z1 z2 x y : Int32} {i v j m u P t s b Q I J K T p W M N κ : Nat} {R R' C ask c : Nat → Nat → Int} {e g d sl : Int} {A B : Nat → Nat} {n o : Nat → Int} {S : Nat → Bool} {a : Nat → Int32}
def wAf (a : Nat → Int32) (u κ : Nat) : Nat := (wtP a u κ 0).toInt.toNat
def wBf (a : Nat → Int32) (u κ : Nat) : Nat := (wtP a u κ 1).toInt.toNat
def wNf (a : Nat → Int32) (u κ : Nat) : Int := (wtP a u κ 2).toInt
theorem ask_hi (hA : ∀ κ, κ < W → A κ < P ∧ B κ < P) (h : P ≤ i ∨ P ≤ j) : ∀ t, t ≤ W → askS A B n s t i j = 0 := by
  intro t
  induction t with
  | zero => intro _; rfl
  | succ t ih =>
    intro ht
    obtain ⟨h1, h2⟩ := hA t (by omega)
    rw [ask_s, ih (by omega), if_neg (by omega)]
    rfl
theorem ask_ge (hn : ∀ κ, κ < W → 1 ≤ n κ ∧ n κ ≤ 99) (hs : s.testBit κ = true) : ∀ t, t ≤ W → κ < t → n κ ≤ askS A B n s t (A κ) (B κ) := by
  intro t
  induction t with
  | zero => intro _ h; exact absurd h (Nat.not_lt_zero κ)
  | succ t ih =>
    intro ht hk
    rw [ask_s]
    have q := ask_b (A := A) (B := B) (s := s) (i := A κ) (j := B κ) hn t (by omega)
    have q2 := hn t (by omega)
    by_cases e : κ = t
    · subst e
      rw [if_pos ⟨hs, rfl, rfl⟩]
      omega
    · have := ih (by omega) (by omega)
      split <;> omega
theorem loR_s {a b : Nat} (hS : SK w) (ha : a < 10) (hb : b < 10) (hx : x.toInt = (10 * a + b : Nat)) (i j : Nat) (hi : i < 10) (hj : j < 10) : loR (aS w 160 x y) i j = if i = a ∧ j = b then y.toInt else loR w i j := by
  unfold loR
  rw [gA_aS (SK_isA hS (by decide +kernel)), i_nat hx, getD_set (by rw [l160 hS]; omega)]
  by_cases e : i = a ∧ j = b
  · rw [if_pos (by omega), if_pos e]
  · rw [if_neg (by omega), if_neg e]
theorem lo_163 : loR (aS w 163 x y) = loR w := by funext i j; unfold loR; rw [gA_aS_ne (by decide)]
theorem ov_160 : ovR (aS w 160 x y) = ovR w := by funext i; unfold ovR; rw [gA_aS_ne (by decide)]
/-- what is asked, laid -/
theorem F285_6 (hu : u ≤ 1) (hp : i1.toInt = (610 + 132 * u : Nat)) (hW : (al w0 (611 + 132 * u)).toInt = W) (hW7 : W ≤ 7) (hP9 : P ≤ 9) (hw : ∀ κ, κ < W → (wtP (al w0) u κ 0).toInt = A κ ∧ (wtP (al w0) u κ 1).toInt = B κ ∧ (wtP (al w0) u κ 2).toInt = n κ ∧ A κ < P ∧ B κ < P ∧ 1 ≤ n κ ∧ n κ ≤ 99) (hm : MSK i2 7 (fun b => s.testBit b)) : ∀ (k t : Nat) (w : pm_W) (i3 : Int32) (u4 u5 : Value), FM [] [160, 163] w0 w → i3.toInt = t → t ≤ W → (∀ i j, i < 10 → j < 10 → loR w i j = askS A B n s t i j) → (∀ p, p < 10 → ovR w p = surS A B n s t p) → PS X k 285 6 [.ref 147, .int i1, .int i2, .int i3, u4, u5] [] w r w' → r = none ∧ FM [] [160, 163] w0 w' ∧ (∀ i j, i < 10 → j < 10 → loR w' i j = askS A B n s W i j) ∧ ∀ p, p < 10 → ovR w' p = surS A B n s W p := by
  have hn : ∀ κ, κ < W → 1 ≤ n κ ∧ n κ ≤ 99 := fun κ hκ => (hw κ hκ).2.2.2.2.2
  intro k
  induction k with
  | zero => intro t w i3 u4 u5 _ _ _ _ _ h; exact (PS_0 h).elim
  | succ k ih =>
    intro t w i3 u4 u5 fm h3 ht hl ho h
    have hS : SK w := fm.2.2.2
    have ea : al w = al w0 := al_FM fm (by decide)
    obtain ⟨_, h⟩ := U285_6 hS h
    have eW : (aG w 148 (i1 + 1)).toInt = W := by
      rw [aG_n (m := 611 + 132 * u) (by rw [zi_add hp o32 (by omega) (by omega)]; omega)]
      show (al w _).toInt = _
      rw [ea]; exact hW
    by_cases c : aG w 148 (i1 + 1) ≤ i3
    · rw [if_pos c] at h
      rw [Int32.le_iff_toInt_le, eW, h3] at c
      have e : t = W := by omega
      rw [e] at hl ho
      rw [h.2]
      exact ⟨h.1, fm, hl, ho⟩
    · rw [if_neg c] at h
      rw [Int32.le_iff_toInt_le, eW, h3] at c
      have htW : t < W := by omega
      have e1 : (i3 + 1).toInt = ((t + 1 : Nat) : Int) := by rw [zi_inc (n := 40) (by omega) (by omega), h3]; rfl
      have tb : ((i2 >>> (i3 &&& 31)) &&& 1) = 0 ↔ s.testBit t = false := MSK_f hm h3 (by omega) (by decide)
      by_cases c2 : ((i2 >>> (i3 &&& 31)) &&& 1) = 0
      · rw [if_pos c2] at h
        have hb := tb.mp c2
        refine ih (t + 1) w _ _ _ fm e1 (by omega) (fun i j hi hj => ?_) (fun p hp => ?_) h
        · rw [ask_s, hb, if_neg (fun z => Bool.noConfusion z.1), hl i j hi hj]; omega
        · rw [sur_s, hb, if_neg Bool.false_ne_true, ho p hp]; omega
      · rw [if_neg c2] at h
        have hb : s.testBit t = true := by
          cases hh : s.testBit t with
          | true => rfl
          | false => exact absurd (tb.mpr hh) c2
        obtain ⟨b1, b2, b3, c1, c3, c4, c5⟩ := hw t htW
        rw [← ea] at b1 b2 b3
        have F : ∀ (w1 : pm_W) (c : Nat) (p : Int32) (r1 : Option Value) (w2 : pm_W), SK w1 → al w1 = al w → p.toInt = c → c < 4 → PS X k 224 0 [.ref 147, .int i1, .int i3, .int p] [] w1 r1 w2 → r1 = some (.int (wtP (al w) u t c)) ∧ w2 = w1 := by
          intro w1 c p r1 w2 S1 hw1 hc hc4 y
          have q := F224w S1 hu hp h3 (by omega) hc hc4 y
          rw [hw1] at q
          exact q
        have h := use_p hS h (fun _ _ y => F w 0 0 _ _ hS rfl z32 (by decide) y)
        have h := use_p hS h (fun _ _ y => F w 1 1 _ _ hS rfl o32 (by decide) y)
        obtain ⟨_, h⟩ := h
        have h := use_p hS h (fun _ _ y => F w 2 2 _ _ hS rfl two32 (by decide) y)
        obtain ⟨xa, hxa⟩ : ∃ xa, xa = wtP (al w) u t 0 := ⟨_, rfl⟩
        obtain ⟨xb, hxb⟩ : ∃ xb, xb = wtP (al w) u t 1 := ⟨_, rfl⟩
        obtain ⟨xn, hxn⟩ : ∃ xn, xn = wtP (al w) u t 2 := ⟨_, rfl⟩
        rw [← hxa, ← hxb, ← hxn] at h
        rw [← hxa] at b1
        rw [← hxb] at b2
        rw [← hxn] at b3
        obtain ⟨_, h⟩ := h
        have h := h _ rfl
        have A9 : A t < 10 := by omega
        have B9 : B t < 10 := by omega
        have ix := ix10 b1 b2 A9 B9
        have S1 : SK (aS w 160 (10 * xa + xb) (aG w 160 (10 * xa + xb) + xn)) := SK_aS hS
        have ea1 : al (aS w 160 (10 * xa + xb) (aG w 160 (10 * xa + xb) + xn)) = al w := by funext q; unfold al; rw [gA_aS_ne (by decide)]
        obtain ⟨_, h⟩ := h
        have h := use_p S1 h (fun _ _ y => F _ 2 2 _ _ S1 ea1 two32 (by decide) y)
        rw [← hxn] at h
        obtain ⟨_, h⟩ := h
        have h := h _ rfl
        obtain ⟨W1, hW1⟩ : ∃ W1, W1 = aS w 160 (10 * xa + xb) (aG w 160 (10 * xa + xb) + xn) := ⟨_, rfl⟩
        rw [← hW1] at h S1 ea1
        have S2 : SK (aS W1 163 xa (aG W1 163 xa - xn)) := SK_aS S1
        have ea2 : al (aS W1 163 xa (aG W1 163 xa - xn)) = al w := by funext q; unfold al; rw [gA_aS_ne (by decide)]; exact congrFun ea1 q
        obtain ⟨_, h⟩ := h
        have h := use_p S2 h (fun _ _ y => F _ 2 2 _ _ S2 ea2 two32 (by decide) y)
        rw [← hxn] at h
        obtain ⟨_, h⟩ := h
        have h := h _ rfl
        obtain ⟨W2, hW2⟩ : ∃ W2, W2 = aS W1 163 xa (aG W1 163 xa - xn) := ⟨_, rfl⟩
        rw [← hW2] at h S2
        obtain ⟨q1, q2⟩ := ask_b (A := A) (B := B) (s := s) (i := A t) (j := B t) hn t (by omega)
        have vl : (aG w 160 (10 * xa + xb)).toInt = askS A B n s t (A t) (B t) := by rw [aG_n ix]; exact hl _ _ A9 B9
        have vl2 : (aG w 160 (10 * xa + xb) + xn).toInt = askS A B n s t (A t) (B t) + n t := zi_add vl b3 (by omega) (by omega)
        have lo1 := loR_s (y := aG w 160 (10 * xa + xb) + xn) hS A9 B9 ix
        rw [← hW1] at lo1
        have eo1 : ovR W1 = ovR w := by rw [hW1, ov_160]
        obtain ⟨q5, q6⟩ := sur_b (A := A) (B := B) (s := s) (p := A t) hn t (by omega)
        obtain ⟨q7, q8⟩ := sur_b (A := A) (B := B) (s := s) (p := B t) hn t (by omega)
        have sA : (aG W1 163 xa).toInt = surS A B n s t (A t) := by
          rw [aG_n b1]
          show ovR W1 (A t) = _
          rw [eo1]; exact ho _ A9
        have s1 : (aG W1 163 xa - xn).toInt = surS A B n s t (A t) - n t := zi_sub sA b3 (by omega) (by omega)
        have sp2 : ∀ q, ovR W2 q = if q = A t then surS A B n s t (A t) - n t else ovR w q := fun q => by
          rw [hW2, ovR_s S1 b1 A9, s1, eo1]
        have sB : (aG W2 163 xb).toInt = if B t = A t then surS A B n s t (A t) - n t else surS A B n s t (B t) := by
          rw [aG_n b2]
          show ovR W2 (B t) = _
          rw [sp2, ho _ B9]
        have s2 : (aG W2 163 xb + xn).toInt = (if B t = A t then surS A B n s t (A t) - n t else surS A B n s t (B t)) + n t := zi_add sB b3 (by split <;> omega) (by split <;> omega)
        have sp3 := ovR_s (y := aG W2 163 xb + xn) S2 b2 B9
        have f4 : FM [] [160, 163] w (aS W2 163 xb (aG W2 163 xb + xn)) := by
          have f1 : FM [] [160, 163] w W1 := by rw [hW1]; exact FM_aS hS (by decide)
          have f2 : FM [] [160, 163] W1 W2 := by rw [hW2]; exact FM_aS S1 (by decide)
          exact FM_trans f1 (FM_trans f2 (FM_aS S2 (by decide)))
        refine ih (t + 1) _ _ _ _ (FM_trans fm f4) e1 (by omega) (fun i j hi hj => ?_) (fun p hp => ?_) h
        · rw [lo_163, hW2, lo_163, lo1 i j hi hj, vl2, ask_s, hb, hl i j hi hj]
          by_cases e : i = A t ∧ j = B t
          · rw [if_pos e, if_pos ⟨rfl, e.1.symm, e.2.symm⟩, e.1, e.2]
          · rw [if_neg e, if_neg (fun z => e ⟨z.2.1.symm, z.2.2.symm⟩)]; omega
        · rw [sp3 p, s2, sp2, sur_s, hb, if_pos rfl]
          by_cases e1 : p = B t
          · rw [if_pos e1, if_pos e1.symm, e1]
            by_cases e2 : B t = A t
            · rw [if_pos e2, if_pos e2.symm, e2]; omega
            · rw [if_neg e2, if_neg (show ¬ A t = B t from fun z => e2 z.symm)]; omega
          · rw [if_neg e1, if_neg (show ¬ B t = p from fun z => e1 z.symm)]
            by_cases e2 : p = A t
            · rw [if_pos e2, if_pos e2.symm, e2]; omega
            · rw [if_neg e2, if_neg (show ¬ A t = p from fun z => e2 z.symm), ho p hp]; omega
theorem F285 (hS : SK w) (hu : u ≤ 1) (hp : p1.toInt = (610 + 132 * u : Nat)) (hW : (al w (611 + 132 * u)).toInt = W) (hW7 : W ≤ 7) (hP9 : P ≤ 9) (hw : ∀ κ, κ < W → (wtP (al w) u κ 0).toInt = A κ ∧ (wtP (al w) u κ 1).toInt = B κ ∧ (wtP (al w) u κ 2).toInt = n κ ∧ A κ < P ∧ B κ < P ∧ 1 ≤ n κ ∧ n κ ≤ 99) (hm : MSK p2 7 (fun b => s.testBit b)) (h : PS X k 285 0 [.ref 147, .int p1, .int p2, pm_dead, pm_dead, pm_dead] [] w r w') : r = none ∧ FM [] [160, 161, 162, 163] w w' ∧ (∀ i j, i < 10 → j < 10 → loR w' i j = askS A B n s W i j) ∧ (∀ p, p < 10 → ovR w' p = surS A B n s W p) ∧ ∀ i j, i < 10 → j < 10 → moR w' i j = 0 ∧ fwR w' i j = 0 := by
  cases k with
  | zero => exact (PS_0 h).elim
  | succ k =>
    obtain ⟨q1, w2, y, h⟩ := U285_0 hS h
    obtain ⟨a1, f1, z1, z2⟩ := F277 hS y
    have h := h a1 f1.2.2.2
    have ea : al w2 = al w := al_FM f1 (by decide)
    obtain ⟨b1, b2, b3, b4⟩ := F285_6 (w0 := w2) hu hp (by rw [ea]; exact hW) hW7 hP9 (by rw [ea]; exact hw) hm k 0 w2 0 _ _ (FM_refl f1.2.2.2) z32 (Nat.zero_le _) (fun i j hi hj => by
      unfold loR
      rw [(z1 _ (by omega)).1, z32]
      rfl) (fun p hp => by
      unfold ovR
      rw [z2 p hp, z32]
      rfl) h
    refine ⟨b1, FM_trans f1 (FM_mono b2 (by intro x hx; cases hx) (by decide)), b3, b4, fun i j hi hj => ⟨?_, ?_⟩⟩
    · rw [mo_fm b2 (by decide)]
      unfold moR
      rw [(z1 _ (by omega)).2.1, z32]
    · rw [fw_fm b2 (by decide)]
      unfold fwR
      rw [(z1 _ (by omega)).2.2, z32]
/-- the rooms without one, with one more between two -/
def rmX (R : Nat → Nat → Int) (wo mf mt : Int) (i j : Nat) : Int := if (i : Int) = wo ∨ (j : Int) = wo then 0 else R i j + (if (i : Int) = mf ∧ (j : Int) = mt then 1 else 0)
def LAYx (R : Nat → Nat → Int) (P : Nat) (sl : Int) (a b i j : Nat) : Int := if (i < a ∧ j < P) ∨ (i = a ∧ j < b) then R i j else if (i < a ∧ j = 9) ∨ (i = 9 ∧ j < a) then sl else 0
theorem F284_l (hu : u ≤ 1) (hp : i1.toInt = (610 + 132 * u : Nat)) (hP : (al w0 (610 + 132 * u)).toInt = P) (hP9 : P ≤ 9) (hsl : i3.toInt = sl) (hs9 : 0 ≤ sl ∧ sl ≤ 99) (hR : ∀ i j, i < P → j < P → 0 ≤ rmA w0 u i j ∧ rmA w0 u i j ≤ 99) (hRR : R = rmX (rmA w0 u) i4.toInt (gI w0 147 31).toInt (gI w0 147 32).toInt) (hW7 : W ≤ 7) (hAB : ∀ κ, κ < W → A κ < P ∧ B κ < P ∧ 1 ≤ n κ ∧ n κ ≤ 99) (hlo : ∀ i j, i < 10 → j < 10 → loR w0 i j = askS A B n s W i j) (hov : ∀ p, p < 10 → ovR w0 p = surS A B n s W p) (hfw : ∀ i j, i < 10 → j < 10 → fwR w0 i j = 0) : ∀ k : Nat,
    (∀ (w : pm_W) (a : Nat) (i5 : Int32) (u6 : Value), FM [] [161] w0 w → i5.toInt = a → a ≤ P → (∀ i j, i < 10 → j < 10 → moR w i j = LAYx R P sl a 0 i j) → (∀ i j, i < a → j < P → askS A B n s W i j ≤ R i j) → PS X k 284 69 [.ref 147, .int i1, .int i2, .int i3, .int i4, .int i5, u6] [] w r w' → FM [] [161, 162, 163, 164] w0 w' ∧ ∃ b : Bool, r = some (.int (b2i b)) ∧ (b = true ↔ CANH R P W A B n s sl)) ∧
    (∀ (w : pm_W) (a b : Nat) (i5 i6 : Int32), FM [] [161] w0 w → i5.toInt = a → a < P → i6.toInt = b → b ≤ P → (∀ i j, i < 10 → j < 10 → moR w i j = LAYx R P sl a b i j) → (∀ i j, (i < a ∧ j < P) ∨ (i = a ∧ j < b) → askS A B n s W i j ≤ R i j) → PS X k 284 83 [.ref 147, .int i1, .int i2, .int i3, .int i4, .int i5, .int i6] [] w r w' → FM [] [161, 162, 163, 164] w0 w' ∧ ∃ b : Bool, r = some (.int (b2i b)) ∧ (b = true ↔ CANH R P W A B n s sl)) := by
  have hn : ∀ κ, κ < W → 1 ≤ n κ ∧ n κ ≤ 99 := fun κ hκ => (hAB κ hκ).2.2
  have hAB' : ∀ κ, κ < W → A κ < P ∧ B κ < P := fun κ hκ => ⟨(hAB κ hκ).1, (hAB κ hκ).2.1⟩
  have e90 : (90 : Int32).toInt = 90 := by decide +kernel
  have Rb : ∀ i j, i < P → j < P → 0 ≤ R i j ∧ R i j ≤ 100 := by
    intro i j hi hj
    have q := hR i j hi hj
    rw [hRR]
    unfold rmX
    split
    · omega
    · split <;> omega
  intro k
  induction k with
  | zero => exact ⟨fun _ _ _ _ _ _ _ _ _ h => (PS_0 h).elim, fun _ _ _ _ _ _ _ _ _ _ _ _ h => (PS_0 h).elim⟩
  | succ k ih =>
    obtain ⟨ih69, ih83⟩ := ih
    refine ⟨fun w a i5 u6 fm h5 ha hf hc h => ?_, fun w a b i5 i6 fm h5 ha h6 hb hf hc h => ?_⟩
    · have hS : SK w := fm.2.2.2
      obtain ⟨_, h⟩ := U284_69 hS h
      have eP : aG w 148 i1 = al w0 (610 + 132 * u) := by rw [aG_n hp, FM_a fm (by decide)]; rfl
      rw [eP] at h
      by_cases q : al w0 (610 + 132 * u) ≤ i5
      · rw [if_pos q] at h
        rw [Int32.le_iff_toInt_le, hP, h5] at q
        have e : a = P := by omega
        rw [e] at hf hc
        obtain ⟨q1, w2, y, h⟩ := h
        have el : ∀ i j, i < 10 → j < 10 → loR w i j = askS A B n s W i j := fun i j hi hj => by rw [lo_fm fm (by decide)]; exact hlo i j hi hj
        have eo : ∀ p, p < 10 → ovR w p = surS A B n s W p := fun p hp => by rw [ov_fm fm (by decide)]; exact hov p hp
        have ef : ∀ i j, i < 10 → j < 10 → fwR w i j = 0 := fun i j hi hj => by rw [fw_fm fm (by decide)]; exact hfw i j hi hj
        have cc : ∀ i j, i < 10 → j < 10 → cR w i j = capS R (askS A B n s W) P sl i j := by
          intro i j hi hj
          unfold cR
          rw [hf i j hi hj, el i j hi hj]
          unfold LAYx capS
          by_cases q1 : i < P ∧ j < P
          · rw [if_pos (by omega), if_pos q1]
            have := hc i j q1.1 q1.2
            unfold psI
            omega
          · rw [if_neg (by omega), if_neg q1, ask_hi hAB' (by omega) W (Nat.le_refl _)]
            by_cases q2 : (i < P ∧ j = 9) ∨ (i = 9 ∧ j < P)
            · rw [if_pos q2]; omega
            · rw [if_neg q2]; omega
        have cb := capS_b (R := R) (ask := askS A B n s W) (P := P) (sl := sl) (fun i j hi hj => ⟨by have := (Rb i j hi hj).2; omega, (ask_b hn W (Nat.le_refl _)).1⟩) hs9
        have e0 : EV0 w := by
          refine ⟨fun i j hi hj => ?_, fun p hp => ?_⟩
          · rw [el i j hi hj, cc i j hi hj, hf i j hi hj]
            have q1 := ask_b (A := A) (B := B) (s := s) (i := i) (j := j) hn W (Nat.le_refl _)
            have q2 := cb i j
            have q3 : -1000000 ≤ LAYx R P sl P 0 i j ∧ LAYx R P sl P 0 i j ≤ 1000000 := by
              unfold LAYx
              split
              · rename_i hh
                have := Rb i j (by omega) (by omega)
                omega
              · split <;> omega
            omega
          · rw [eo p hp]
            have := sur_b (A := A) (B := B) (s := s) (p := p) hn W (Nat.le_refl _)
            omega
        obtain ⟨f2, b, b1, b2, b3, b4⟩ := F278 hS e0 ef (fun i j hi hj _ => by rw [cc i j hi hj]; exact (cb i j).1) y
        have h := h _ b1 f2.2.2.2
        rw [h.2]
        refine ⟨FM_trans (FM_mono fm (by intro x hx; cases hx) (by decide)) (FM_mono f2 (by intro x hx; cases hx) (by decide)), b, h.1, ?_⟩
        have cg : ∀ S : Nat → Bool, CUTo (cR w) (ovR w) S 10 = CUTo (capS R (askS A B n s W) P sl) (surS A B n s W) S 10 := by
          intro S
          unfold CUTo
          rw [cutC_cg cc, suI_cg (g := fun a => bz (!S a) (psI (surS A B n s W a)) + bz (S a) (psI (-surS A B n s W a))) 10 (fun p hp => by rw [eo p hp])]
        have sm : suI (fun p => psI (ovR w p)) 10 = suI (fun p => psI (surS A B n s W p)) 10 := suI_cg 10 (fun p hp => by rw [eo p hp])
        rw [sm] at b2
        have b2 : MCo (capS R (askS A B n s W) P sl) (surS A B n s W) 10 (suI (fun p => psI (surS A B n s W p)) 10 - suI (fun p => psI (ovR w2 p)) 10) := ⟨fun S => by rw [← cg]; exact b2.1 S, b2.2.elim (fun S q => ⟨S, by rw [← cg]; exact q⟩)⟩
        rw [b4]
        constructor
        · intro hz
          refine ⟨hc, ?_⟩
          have z0 : suI (fun p => psI (ovR w2 p)) 10 = 0 := suI_z 10 (fun p hp => by have := hz p hp; unfold psI; omega)
          rw [z0] at b2
          rw [show suI (fun p => psI (surS A B n s W p)) 10 = suI (fun p => psI (surS A B n s W p)) 10 - 0 by omega]
          exact b2
        · intro hz p hp
          have u := MCo_uq b2 hz.2
          have q := suI_0 (n := fun p => psI (ovR w2 p)) 10 (fun p _ => psI_0) (by omega) p hp
          unfold psI at q
          omega
      · rw [if_neg q] at h
        rw [Int32.le_iff_toInt_le, hP, h5] at q
        exact ih83 w a 0 i5 0 fm h5 (by omega) z32 (Nat.zero_le _) hf (fun i j hij => hc i j (by omega) (by omega)) h
    · have hS : SK w := fm.2.2.2
      obtain ⟨_, h⟩ := U284_83 hS h
      have eP : aG w 148 i1 = al w0 (610 + 132 * u) := by rw [aG_n hp, FM_a fm (by decide)]; rfl
      rw [eP] at h
      by_cases q : al w0 (610 + 132 * u) ≤ i6
      · rw [if_pos q] at h
        rw [Int32.le_iff_toInt_le, hP, h6] at q
        have e : b = P := by omega
        rw [e] at hf hc
        obtain ⟨_, h⟩ := h
        obtain ⟨_, h⟩ := h _ rfl
        have h := h _ rfl
        have S1 : SK (aS w 161 (10 * i5 + 9) i3) := SK_aS hS
        have x1 : (10 * i5 + 9).toInt = (10 * a + 9 : Nat) := ix10 h5 nine32 (by omega) (by decide)
        have x2 : (90 + i5).toInt = (10 * 9 + a : Nat) := by rw [zi_add e90 h5 (by omega) (by omega)]; omega
        refine ih69 _ (a + 1) _ _ (FM_trans fm (FM_trans (FM_aS hS (by decide)) (FM_aS S1 (by decide)))) (by rw [zi_inc (n := 40) (by omega) (by omega), h5]; rfl) (by omega) (fun i j hi hj => ?_) (fun i j hi hj => hc i j (by omega)) h
        rw [moR_s S1 (by decide) (show a < 10 by omega) x2 i j hi hj, moR_s hS (show a < 10 by omega) (by decide) x1 i j hi hj, hf i j hi hj, hsl]
        unfold LAYx
        by_cases k1 : i = 9 ∧ j = a
        · rw [if_pos k1, if_neg (by omega), if_pos (by omega)]
        · rw [if_neg k1]
          by_cases k2 : i = a ∧ j = 9
          · rw [if_pos k2, if_neg (by omega), if_pos (by omega)]
          · rw [if_neg k2]
            by_cases k3 : (i < a ∧ j < P) ∨ (i = a ∧ j < P)
            · rw [if_pos k3, if_pos (by omega)]
            · rw [if_neg k3, if_neg (show ¬ ((i < a + 1 ∧ j < P) ∨ (i = a + 1 ∧ j < 0)) by omega)]
              by_cases k4 : (i < a ∧ j = 9) ∨ (i = 9 ∧ j < a)
              · rw [if_pos k4, if_pos (by omega)]
              · rw [if_neg k4, if_neg (by omega)]
      · rw [if_neg q] at h
        rw [Int32.le_iff_toInt_le, hP, h6] at q
        have ix := ix10 h5 h6 (show a < 10 by omega) (show b < 10 by omega)
        have st : ∀ mv : Int32, mv.toInt = R a b → (aI w 161 ((10 * i5) + i6) ∧ (∀ w3 : pm_W, w3 = aS w 161 ((10 * i5) + i6) mv → (aI w3 160 ((10 * i5) + i6) ∧ (aI w3 161 ((10 * i5) + i6) ∧ (if (aG w3 160 ((10 * i5) + i6)) ≤ (aG w3 161 ((10 * i5) + i6)) then (PS X k 284 83 [.ref 147, .int i1, .int i2, .int i3, .int i4, .int i5, .int (i6 + 1)] [] w3 r w') else (r = some (.int 0) ∧ w' = w3)))))) → FM [] [161, 162, 163, 164] w0 w' ∧ ∃ b : Bool, r = some (.int (b2i b)) ∧ (b = true ↔ CANH R P W A B n s sl) := by
          intro mv hmv h
          obtain ⟨_, h⟩ := h
          obtain ⟨_, _, h⟩ := h _ rfl
          have f1 : FM [] [161] w (aS w 161 ((10 * i5) + i6) mv) := FM_aS hS (by decide)
          have ms := moR_s (y := mv) hS (show a < 10 by omega) (show b < 10 by omega) ix
          have v1 : (aG (aS w 161 ((10 * i5) + i6) mv) 160 ((10 * i5) + i6)).toInt = askS A B n s W a b := by
            rw [aG_n ix]
            show loR _ a b = _
            rw [lo_fm f1 (by decide), lo_fm fm (by decide)]
            exact hlo a b (by omega) (by omega)
          have v2 : (aG (aS w 161 ((10 * i5) + i6) mv) 161 ((10 * i5) + i6)).toInt = R a b := by
            rw [aG_n ix]
            show moR _ a b = _
            rw [ms a b (by omega) (by omega), if_pos ⟨rfl, rfl⟩, hmv]
          by_cases c : aG (aS w 161 ((10 * i5) + i6) mv) 160 ((10 * i5) + i6) ≤ aG (aS w 161 ((10 * i5) + i6) mv) 161 ((10 * i5) + i6)
          · rw [if_pos c] at h
            rw [Int32.le_iff_toInt_le, v1, v2] at c
            refine ih83 _ a (b + 1) i5 _ (FM_trans fm f1) h5 ha (by rw [zi_inc (n := 40) (by omega) (by omega), h6]; rfl) (by omega) (fun i j hi hj => ?_) (fun i j hij => ?_) h
            · rw [ms i j hi hj, hf i j hi hj, hmv]
              unfold LAYx
              by_cases k1 : i = a ∧ j = b
              · rw [if_pos k1, if_pos (by omega), k1.1, k1.2]
              · rw [if_neg k1]
                by_cases k3 : (i < a ∧ j < P) ∨ (i = a ∧ j < b)
                · rw [if_pos k3, if_pos (by omega)]
                · rw [if_neg k3, if_neg (show ¬ ((i < a ∧ j < P) ∨ (i = a ∧ j < b + 1)) by omega)]
            · by_cases k1 : i = a ∧ j = b
              · rw [k1.1, k1.2]; exact c
              · exact hc i j (by omega)
          · rw [if_neg c] at h
            rw [Int32.le_iff_toInt_le, v1, v2] at c
            rw [h.2]
            exact ⟨FM_mono (FM_trans fm f1) (by intro x hx; cases hx) (by decide), false, h.1, fun z => Bool.noConfusion z, fun hz => absurd (hz.1 a b ha (by omega)) c⟩
        have io : i5 = i4 ↔ (a : Int) = i4.toInt := ⟨fun e => by rw [← e, h5], fun e => Int32.toInt_inj.mp (by rw [h5, e])⟩
        have jo : i6 = i4 ↔ (b : Int) = i4.toInt := ⟨fun e => by rw [← e, h6], fun e => Int32.toInt_inj.mp (by rw [h6, e])⟩
        by_cases c1 : i5 = i4
        · rw [if_pos c1] at h
          refine st 0 ?_ h
          rw [hRR]
          unfold rmX
          rw [if_pos (Or.inl (io.mp c1)), z32]
        · rw [if_neg c1] at h
          by_cases c2 : i6 = i4
          · rw [if_pos c2] at h
            refine st 0 ?_ h
            rw [hRR]
            unfold rmX
            rw [if_pos (Or.inr (jo.mp c2)), z32]
          · rw [if_neg c2] at h
            have h := use_p hS h (fun _ _ y => F231n hS hp hu h5 h6 (by omega) (by omega) y)
            have ea : al w = al w0 := al_FM fm (by decide)
            have ed : dR w = dR w0 := by funext q; unfold dR; rw [FM_a fm (by decide)]
            have g31 : gI w 147 31 = gI w0 147 31 := FM_i fm (by simp)
            have g32 : gI w 147 32 = gI w0 147 32 := FM_i fm (by simp)
            rw [ea, ed, g31, g32] at h
            have vr : (rmI (fun k => al w0 (610 + 132 * u + k)) (dR w0) a b).toInt = rmA w0 u a b := rfl
            have qr := hR a b ha (by omega)
            have eR : R a b = rmA w0 u a b + (if (a : Int) = (gI w0 147 31).toInt ∧ (b : Int) = (gI w0 147 32).toInt then 1 else 0) := by
              rw [hRR]
              unfold rmX
              rw [if_neg (fun z => z.elim (fun z => c1 (io.mpr z)) (fun z => c2 (jo.mpr z)))]
            by_cases c3 : i5 = gI w0 147 31
            · rw [if_pos c3] at h
              by_cases c4 : i6 = gI w0 147 32
              · rw [if_pos c4] at h
                refine st _ ?_ h
                rw [eR, if_pos ⟨by rw [← c3, h5], by rw [← c4, h6]⟩, zi_add vr o32 (by omega) (by omega)]
              · rw [if_neg c4] at h
                refine st _ ?_ h
                rw [eR, if_neg (fun z => c4 (Int32.toInt_inj.mp (by rw [h6, z.2]))), zi_add vr z32 (by omega) (by omega)]
            · rw [if_neg c3] at h
              refine st _ ?_ h
              rw [eR, if_neg (fun z => c3 (Int32.toInt_inj.mp (by rw [h5, z.1]))), zi_add vr z32 (by omega) (by omega)]
end IRC
end
section
/-! ===== can a set of wants be had: the reference as a whole; which sets there are ===== -/
section ISH
variable {X : pm_X} {k k2 : Nat} {w0 w w1 w2 w3 w4 w5 wj w' : pm_W} {r r2 q0 q1 q2 : Option Value} {p1 p2 p3 p4 p5 i1 i2 i3 i4 i5 i6 i7 i8 z z1 z2 x y : Int32} {i v j m u P t s b Q I J K T p W M N κ : Nat} {R R' C ask c : Nat → Nat → Int} {e g d sl : Int} {A B : Nat → Nat} {n o : Nat → Int} {S : Nat → Bool} {a : Nat → Int32}
/-- the reference's village: as many wants, each with its A, B, n -/
def WSR (w : pm_W) (u P W : Nat) (A B : Nat → Nat) (n : Nat → Int) : Prop := u ≤ 1 ∧ (al w (610 + 132 * u)).toInt = P ∧ P ≤ 9 ∧ (al w (611 + 132 * u)).toInt = W ∧ W ≤ 7 ∧ (∀ κ, κ < W → (wtP (al w) u κ 0).toInt = A κ ∧ (wtP (al w) u κ 1).toInt = B κ ∧ (wtP (al w) u κ 2).toInt = n κ ∧ A κ < P ∧ B κ < P ∧ 1 ≤ n κ ∧ n κ ≤ 99) ∧ ∀ i j, i < P → j < P → 0 ≤ rmA w u i j ∧ rmA w u i j ≤ 99
theorem rmA_fm {fs : List (Nat × Nat)} {as : List Nat} (f : FM fs as w w') (h1 : 148 ∉ as) (h2 : 152 ∉ as) : rmA w' u = rmA w u := by
  funext i j
  unfold rmA
  rw [al_FM f h1, show dR w' = dR w from by funext q; unfold dR; rw [FM_a f h2]]
theorem WSR_fm {fs : List (Nat × Nat)} {as : List Nat} (h : WSR w u P W A B n) (f : FM fs as w w') (h1 : 148 ∉ as) (h2 : 152 ∉ as) : WSR w' u P W A B n := by
  unfold WSR
  rw [al_FM f h1, rmA_fm f h1 h2]
  exact h
theorem F284 (hS : SK w) (hV : WSR w u P W A B n) (hp : p1.toInt = (610 + 132 * u : Nat)) (hm : MSK p2 7 (fun b => s.testBit b)) (hsl : p3.toInt = sl) (hs9 : 0 ≤ sl ∧ sl ≤ 99) (h : PS X k 284 0 [.ref 147, .int p1, .int p2, .int p3, .int p4, pm_dead, pm_dead] [] w r w') : FM [] [160, 161, 162, 163, 164] w w' ∧ ∃ b : Bool, r = some (.int (b2i b)) ∧ (b = true ↔ CANH (rmX (rmA w u) p4.toInt (gI w 147 31).toInt (gI w 147 32).toInt) P W A B n s sl) := by
  obtain ⟨hu, hP, hP9, hW, hW7, hw, hR⟩ := id hV
  have hn : ∀ κ, κ < W → 1 ≤ n κ ∧ n κ ≤ 99 := fun κ hκ => (hw κ hκ).2.2.2.2.2
  have eW : (aG w 148 (p1 + 1)).toInt = W := by
    rw [aG_n (m := 611 + 132 * u) (by rw [zi_add hp o32 (by omega) (by omega)]; omega)]
    exact hW
  have lp : ∀ (k t : Nat) (i5 : Int32), i5.toInt = t → t ≤ W → PS X k 284 3 [.ref 147, .int p1, .int p2, .int p3, .int p4, .int i5, pm_dead] [] w r w' → FM [] [160, 161, 162, 163, 164] w w' ∧ ∃ b : Bool, r = some (.int (b2i b)) ∧ (b = true ↔ CANH (rmX (rmA w u) p4.toInt (gI w 147 31).toInt (gI w 147 32).toInt) P W A B n s sl) := by
    intro k
    induction k using Nat.strongRecOn with
    | _ k ih =>
      intro t i5 h5 ht h
      match k, ih, h with
      | 0, _, h => exact (PS_0 h).elim
      | k + 1, ih, h =>
        obtain ⟨_, h⟩ := U284_3 hS h
        by_cases c : aG w 148 (p1 + 1) ≤ i5
        · rw [if_pos c] at h
          obtain ⟨q1, w2, y, h⟩ := h
          obtain ⟨a1, f1, a2, a3, a4⟩ := F285 hS hu hp hW hW7 hP9 hw hm y
          have h := h a1 f1.2.2.2
          have er : rmA w2 u = rmA w u := rmA_fm f1 (by decide) (by decide)
          have ea : al w2 = al w := al_FM f1 (by decide)
          obtain ⟨b1, b2⟩ := (F284_l (w0 := w2) (n := n) (s := s) (A := A) (B := B) (W := W) hu hp (by rw [ea]; exact hP) hP9 hsl hs9 (by rw [er]; exact hR) rfl hW7 (fun κ hκ => (hw κ hκ).2.2.2) a2 a3 (fun i j hi hj => (a4 i j hi hj).2) k).1 w2 0 0 _ (FM_refl f1.2.2.2) z32 (Nat.zero_le _) (fun i j hi hj => by
            rw [(a4 i j hi hj).1]
            unfold LAYx
            rw [if_neg (by omega), if_neg (by omega)]) (fun i j hi => absurd hi (Nat.not_lt_zero i)) h
          rw [er, FM_i f1 (by simp), FM_i f1 (by simp)] at b2
          exact ⟨FM_trans (FM_mono f1 (by intro x hx; cases hx) (by decide)) (FM_mono b1 (by intro x hx; cases hx) (by decide)), b2⟩
        · rw [if_neg c] at h
          rw [Int32.le_iff_toInt_le, eW, h5] at c
          have htW : t < W := by omega
          obtain ⟨b1, b2, b3, c1, c2, c3, c4⟩ := hw t htW
          have tb : ((p2 >>> (i5 &&& 31)) &&& 1) = 1 ↔ s.testBit t = true := MSK_t hm h5 (by omega) (by decide)
          have no : s.testBit t = true → ((A t : Int) = p4.toInt ∨ (B t : Int) = p4.toInt) → PS X k 284 52 [.ref 147, .int p1, .int p2, .int p3, .int p4, .int i5, pm_dead] [] w r w' → FM [] [160, 161, 162, 163, 164] w w' ∧ ∃ b : Bool, r = some (.int (b2i b)) ∧ (b = true ↔ CANH (rmX (rmA w u) p4.toInt (gI w 147 31).toInt (gI w 147 32).toInt) P W A B n s sl) := by
            intro hb hx h
            match k, h with
            | 0, h => exact (PS_0 h).elim
            | k + 1, h =>
              obtain ⟨e1, e2⟩ := U284_52 hS h
              rw [e2]
              refine ⟨FM_refl hS, false, e1, fun z => Bool.noConfusion z, fun hz => ?_⟩
              have q := hz.1 (A t) (B t) c1 c2
              have q2 := ask_ge (A := A) (B := B) hn hb W (Nat.le_refl _) htW
              unfold rmX at q
              rw [if_pos hx] at q
              have := hn t htW
              omega
          have go : PS X k 284 54 [.ref 147, .int p1, .int p2, .int p3, .int p4, .int i5, pm_dead] [] w r w' → FM [] [160, 161, 162, 163, 164] w w' ∧ ∃ b : Bool, r = some (.int (b2i b)) ∧ (b = true ↔ CANH (rmX (rmA w u) p4.toInt (gI w 147 31).toInt (gI w 147 32).toInt) P W A B n s sl) := by
            intro h
            match k, ih, h with
            | 0, _, h => exact (PS_0 h).elim
            | k + 1, ih, h => exact ih k (by omega) (t + 1) _ (by rw [zi_inc (n := 40) (by omega) (by omega), h5]; rfl) (by omega) (U284_54 hS h)
          by_cases c5 : ((p2 >>> (i5 &&& 31)) &&& 1) = 1
          · rw [if_pos c5] at h
            have hb := tb.mp c5
            have h := use_p hS h (fun _ _ y => F224w (c := 0) hS hu hp h5 (by omega) z32 (by decide) y)
            by_cases c6 : wtP (al w) u t 0 = p4
            · rw [if_pos c6] at h
              exact no hb (Or.inl (by rw [← b1, c6])) h
            · rw [if_neg c6] at h
              have h := use_p hS h (fun _ _ y => F224w (c := 1) hS hu hp h5 (by omega) o32 (by decide) y)
              by_cases c7 : wtP (al w) u t 1 = p4
              · rw [if_pos c7] at h
                exact no hb (Or.inr (by rw [← b2, c7])) h
              · rw [if_neg c7] at h
                exact go h
          · rw [if_neg c5] at h
            exact go h
  cases k with
  | zero => exact (PS_0 h).elim
  | succ k => exact lp k 0 0 z32 (Nat.zero_le _) (U284_0 hS h)
/-- a set's bits as a mask -/
theorem MSK_set (hx : x.toInt = s) (hs : s < 128) : MSK x 7 (fun b => s.testBit b) := by
  intro i hi
  rw [i32_of hx (by omega), show (Int32.ofNat s).toBitVec = BitVec.ofNat 32 s from rfl, BitVec.getLsbD_ofNat, decide_eq_true hi, Bool.true_and]
  by_cases e : i < 7
  · rw [decide_eq_true e]; rfl
  · rw [decide_eq_false e, Nat.testBit_lt_two_pow (Nat.lt_of_lt_of_le hs (show 2 ^ 7 ≤ 2 ^ i from Nat.pow_le_pow_right (by decide) (by omega)))]; rfl
theorem CANH_cg (h : ∀ i j, i < P → j < P → R i j = R' i j) : CANH R P W A B n s sl ↔ CANH R' P W A B n s sl := by
  unfold CANH
  rw [capS_cg (R := R) (R' := R') (ask := askS A B n s W) (ask' := askS A B n s W) (fun i j hi hj => ⟨h i j hi hj, rfl⟩)]
  constructor
  · rintro ⟨h1, h2⟩
    exact ⟨fun i j hi hj => by rw [← h i j hi hj]; exact h1 i j hi hj, h2⟩
  · rintro ⟨h1, h2⟩
    exact ⟨fun i j hi hj => by rw [h i j hi hj]; exact h1 i j hi hj, h2⟩
/-- what the class looks at behind LOOK3 is the village loaded -/
theorem LOOK_V (h3 : RL3 w) (f1 : FM [(33, 0), (33, 1), (33, 2)] [39, 40, 41] w w3) (hu : u < (al w 0).toInt.toNat) (f2 : FM [(68, 0), (68, 7)] [74, 77] w3 w5) (g : gR w5 68 0 = 5 + 5 * u) (gP : (gI w5 (gR w5 68 0) 0).toInt = Pof (al w) u) : WSH w5 (Pof (al w) u) (Wof (al w) u) (wAf (al w) u) (wBf (al w) u) (wNf (al w) u) := by
  have hS := h3.1.1
  have S3 : SK w3 := f1.2.2.2
  obtain ⟨v1, _, v3, v2, v4⟩ := VA_v h3.2 hu
  obtain ⟨x1, x2, x3⟩ := VA_w h3.2 hu
  obtain ⟨u1, g0, gw, _, _, _, _, g6⟩ := VT hS h3.1.2.1 hu
  obtain ⟨_, _, _, v6⟩ := VR S3 u1
  rw [g] at gP
  have cell : ∀ κ c, κ < Wof (al w) u → c < 4 → (gA w5 (5 + 5 * u + 4)).getD (4 * κ + c) 0 = wtP (al w) u κ c := fun κ c hκ hc => by
    rw [show 5 + 5 * u + 4 = 9 + 5 * u by omega, FM_a f2 (by simp <;> omega), FM_a f1 (by simp <;> omega), g6 _ (by omega)]
    unfold wtP
    rw [show 712 + 132 * u + (4 * κ + c) = 712 + 132 * u + 4 * κ + c by omega]
  refine ⟨5 + 5 * u, g, gP, v1, by rw [FM_i f2 (by simp <;> omega), FM_i f1 (by simp <;> omega), gw]; exact x1, x2, by rw [FM_r f2 (by simp <;> omega), v6]; omega, by omega, fun κ hκ => ?_, fun κ hκ => ?_⟩
  · obtain ⟨y0, y0', y1, y1', _⟩ := x3 κ hκ
    have c0 : (gA w5 (5 + 5 * u + 4)).getD (4 * κ) 0 = wtP (al w) u κ 0 := cell κ 0 hκ (by decide)
    rw [c0, cell κ 1 hκ (by decide), cell κ 2 hκ (by decide)]
    unfold wAf wBf wNf
    exact ⟨by omega, by omega, rfl⟩
  · obtain ⟨y0, y0', y1, y1', _, y2, y2', _⟩ := x3 κ hκ
    unfold wAf wBf wNf
    omega
theorem WSR_ld (hV : VAa (al w0)) (hu : u < (al w0 0).toInt.toNat) (u1 : u ≤ 1) (ea : al w = al w0) (hr : ∀ i j, i < Pof (al w0) u → j < Pof (al w0) u → 0 ≤ rmA w u i j ∧ rmA w u i j ≤ 99) : WSR w u (Pof (al w0) u) (Wof (al w0) u) (wAf (al w0) u) (wBf (al w0) u) (wNf (al w0) u) := by
  obtain ⟨v1, _, v3, v2, v4⟩ := VA_v hV hu
  obtain ⟨x1, x2, x3⟩ := VA_w hV hu
  refine ⟨u1, by rw [ea]; exact v3, v1, by rw [ea]; exact x1, x2, fun κ hκ => ?_, hr⟩
  obtain ⟨y0, y0', y1, y1', _, y2, y2', _⟩ := x3 κ hκ
  rw [ea]
  unfold wAf wBf wNf
  omega
end ISH
end
section
/-! ===== the best set of wants, on both sides ===== -/
section ITB
variable {X : pm_X} {k k2 : Nat} {w0 w w1 w2 w3 w4 w5 wj w' : pm_W} {r r2 q0 q1 q2 : Option Value} {p1 p2 p3 p4 p5 i0 i1 i2 i3 i4 i5 i6 i7 i8 z z1 z2 x y : Int32} {i v j m u P t s b Q I J K T p W M N κ : Nat} {R R' C ask c : Nat → Nat → Int} {e g d sl : Int} {A B : Nat → Nat} {n o : Nat → Int} {S : Nat → Bool} {a : Nat → Int32} {wv : Nat → Int32}
/-- how many are in a set -/
def pcS (s : Nat) : Nat := cntN (fun i => s.testBit i) 7
def bcE (p1 : Int32) : Int32 := ((((((((p1 - (((p1.toUInt32 >>> ((1 : Int32).toUInt32 &&& Int32.toUInt32 31)).toInt32) &&& 1431655765)) &&& 858993459) + ((((p1 - (((p1.toUInt32 >>> ((1 : Int32).toUInt32 &&& Int32.toUInt32 31)).toInt32) &&& 1431655765)).toUInt32 >>> ((2 : Int32).toUInt32 &&& Int32.toUInt32 31)).toInt32) &&& 858993459)) + (((((p1 - (((p1.toUInt32 >>> ((1 : Int32).toUInt32 &&& Int32.toUInt32 31)).toInt32) &&& 1431655765)) &&& 858993459) + ((((p1 - (((p1.toUInt32 >>> ((1 : Int32).toUInt32 &&& Int32.toUInt32 31)).toInt32) &&& 1431655765)).toUInt32 >>> ((2 : Int32).toUInt32 &&& Int32.toUInt32 31)).toInt32) &&& 858993459)).toUInt32 >>> ((4 : Int32).toUInt32 &&& Int32.toUInt32 31)).toInt32)) &&& 252645135) + (((((((p1 - (((p1.toUInt32 >>> ((1 : Int32).toUInt32 &&& Int32.toUInt32 31)).toInt32) &&& 1431655765)) &&& 858993459) + ((((p1 - (((p1.toUInt32 >>> ((1 : Int32).toUInt32 &&& Int32.toUInt32 31)).toInt32) &&& 1431655765)).toUInt32 >>> ((2 : Int32).toUInt32 &&& Int32.toUInt32 31)).toInt32) &&& 858993459)) + (((((p1 - (((p1.toUInt32 >>> ((1 : Int32).toUInt32 &&& Int32.toUInt32 31)).toInt32) &&& 1431655765)) &&& 858993459) + ((((p1 - (((p1.toUInt32 >>> ((1 : Int32).toUInt32 &&& Int32.toUInt32 31)).toInt32) &&& 1431655765)).toUInt32 >>> ((2 : Int32).toUInt32 &&& Int32.toUInt32 31)).toInt32) &&& 858993459)).toUInt32 >>> ((4 : Int32).toUInt32 &&& Int32.toUInt32 31)).toInt32)) &&& 252645135).toUInt32 >>> ((8 : Int32).toUInt32 &&& Int32.toUInt32 31)).toInt32)) + ((((((((p1 - (((p1.toUInt32 >>> ((1 : Int32).toUInt32 &&& Int32.toUInt32 31)).toInt32) &&& 1431655765)) &&& 858993459) + ((((p1 - (((p1.toUInt32 >>> ((1 : Int32).toUInt32 &&& Int32.toUInt32 31)).toInt32) &&& 1431655765)).toUInt32 >>> ((2 : Int32).toUInt32 &&& Int32.toUInt32 31)).toInt32) &&& 858993459)) + (((((p1 - (((p1.toUInt32 >>> ((1 : Int32).toUInt32 &&& Int32.toUInt32 31)).toInt32) &&& 1431655765)) &&& 858993459) + ((((p1 - (((p1.toUInt32 >>> ((1 : Int32).toUInt32 &&& Int32.toUInt32 31)).toInt32) &&& 1431655765)).toUInt32 >>> ((2 : Int32).toUInt32 &&& Int32.toUInt32 31)).toInt32) &&& 858993459)).toUInt32 >>> ((4 : Int32).toUInt32 &&& Int32.toUInt32 31)).toInt32)) &&& 252645135) + (((((((p1 - (((p1.toUInt32 >>> ((1 : Int32).toUInt32 &&& Int32.toUInt32 31)).toInt32) &&& 1431655765)) &&& 858993459) + ((((p1 - (((p1.toUInt32 >>> ((1 : Int32).toUInt32 &&& Int32.toUInt32 31)).toInt32) &&& 1431655765)).toUInt32 >>> ((2 : Int32).toUInt32 &&& Int32.toUInt32 31)).toInt32) &&& 858993459)) + (((((p1 - (((p1.toUInt32 >>> ((1 : Int32).toUInt32 &&& Int32.toUInt32 31)).toInt32) &&& 1431655765)) &&& 858993459) + ((((p1 - (((p1.toUInt32 >>> ((1 : Int32).toUInt32 &&& Int32.toUInt32 31)).toInt32) &&& 1431655765)).toUInt32 >>> ((2 : Int32).toUInt32 &&& Int32.toUInt32 31)).toInt32) &&& 858993459)).toUInt32 >>> ((4 : Int32).toUInt32 &&& Int32.toUInt32 31)).toInt32)) &&& 252645135).toUInt32 >>> ((8 : Int32).toUInt32 &&& Int32.toUInt32 31)).toInt32)).toUInt32 >>> ((16 : Int32).toUInt32 &&& Int32.toUInt32 31)).toInt32)) &&& 63)
set_option maxRecDepth 100000 in
theorem bcE_t : (List.range 128).all (fun s => decide ((bcE (Int32.ofNat s)).toInt = (pcS s : Nat))) = true := by decide +kernel
theorem F176 (hS : SK w) (h1 : p1.toInt = s) (hs : s < 128) (h : PS X k 176 0 [.int p1] [] w r w') : ∃ z : Int32, z.toInt = (pcS s : Nat) ∧ r = some (.int z) ∧ w' = w := by
  cases k with
  | zero => exact (PS_0 h).elim
  | succ k =>
    obtain ⟨e1, e2⟩ := U176_0 hS h
    refine ⟨bcE p1, ?_, e1, e2⟩
    rw [i32_of h1 (by omega)]
    exact of_decide_eq_true (List.all_eq_true.mp bcE_t s (List.mem_range.mpr hs))
theorem pc_t : (List.range 128).all (fun m => decide (pcS m = m % 2 + pcS (m / 2) ∧ (Int32.ofNat m &&& 1).toInt = ((m % 2 : Nat) : Int) ∧ (Int32.ofNat m >>> ((1 : Int32) &&& 31)).toInt = ((m / 2 : Nat) : Int))) = true := by decide +kernel
theorem pc_b : pcS s ≤ 7 := cntN_le 7
theorem F289 (hS : SK w) (h1 : p1.toInt = s) (hs : s < 128) (h : PS X k 289 0 [.int p1, pm_dead, pm_dead] [] w r w') : ∃ z : Int32, z.toInt = (pcS s : Nat) ∧ r = some (.int z) ∧ w' = w := by
  have lp : ∀ (k m c : Nat) (i1 i2 : Int32), i2.toInt = m → m < 128 → i1.toInt = c → c + pcS m ≤ 7 → PS X k 289 4 [.int p1, .int i1, .int i2] [] w r w' → ∃ z : Int32, z.toInt = (c + pcS m : Nat) ∧ r = some (.int z) ∧ w' = w := by
    intro k
    induction k with
    | zero => intro m c i1 i2 _ _ _ _ h; exact (PS_0 h).elim
    | succ k ih =>
      intro m c i1 i2 h2 hm hi hc h
      have h := U289_4 hS h
      by_cases q : i2 ≤ 0
      · rw [if_pos q] at h
        rw [Int32.le_iff_toInt_le, h2, z32] at q
        have e : m = 0 := by omega
        refine ⟨i1, ?_, h.1, h.2⟩
        rw [e, show pcS 0 = 0 by decide +kernel, hi]
        rfl
      · rw [if_neg q] at h
        have t := of_decide_eq_true (List.all_eq_true.mp pc_t m (List.mem_range.mpr hm))
        rw [← i32_of h2 (by omega)] at t
        obtain ⟨t1, t2, t3⟩ := t
        obtain ⟨z, z1, z2, z3⟩ := ih (m / 2) (c + m % 2) _ _ t3 (by omega) (by rw [zi_add hi t2 (by omega) (by omega)]; omega) (by omega) h
        exact ⟨z, by rw [z1, t1]; omega, z2, z3⟩
  cases k with
  | zero => exact (PS_0 h).elim
  | succ k =>
    obtain ⟨z, z1, z2⟩ := lp k s 0 0 p1 h1 hs z32 (by have := pc_b (s := s); omega) (U289_0 hS h)
    exact ⟨z, by rw [z1]; omega, z2⟩
/-- a set is better -/
def bet (wv : Nat → Int32) (W s b : Nat) : Prop := vlS wv W b < vlS wv W s ∨ (vlS wv W s = vlS wv W b ∧ pcS s < pcS b)
noncomputable def bstF (can : Nat → Prop) (bt : Nat → Nat → Prop) : Nat → Nat
  | 0 => 0
  | n + 1 => @ite Nat (bt (n + 1) (bstF can bt n) ∧ can (n + 1)) (Classical.propDecidable _) (n + 1) (bstF can bt n)
theorem bstF_le {can : Nat → Prop} {bt : Nat → Nat → Prop} : ∀ n, bstF can bt n ≤ n
  | 0 => Nat.le_refl 0
  | n + 1 => by
    have q : bstF can bt n ≤ n := bstF_le n
    unfold bstF
    split <;> omega
theorem bstF_cg {can can' : Nat → Prop} {bt : Nat → Nat → Prop} (h : ∀ s, can s ↔ can' s) : ∀ n, bstF can bt n = bstF can' bt n := by
  rw [show can = can' from funext fun s => propext (h s)]
  intro n
  rfl
theorem bstF_y {can : Nat → Prop} {bt : Nat → Nat → Prop} (h1 : bt (t + 1) (bstF can bt t)) (h2 : can (t + 1)) : bstF can bt (t + 1) = t + 1 := by
  show @ite Nat _ (Classical.propDecidable _) _ _ = _
  exact if_pos ⟨h1, h2⟩
theorem bstF_n {can : Nat → Prop} {bt : Nat → Nat → Prop} (h : ¬ (bt (t + 1) (bstF can bt t) ∧ can (t + 1))) : bstF can bt (t + 1) = bstF can bt t := by
  show @ite Nat _ (Classical.propDecidable _) _ _ = _
  exact if_neg h
/-! the class -/
theorem F175 (hS : SK w) (hv : ∀ s, s < 2 ^ W → vaW w s = vlS wv W s) (hW7 : W ≤ 7) (h1 : p1.toInt = s) (h2 : p2.toInt = b) (hs : s < 2 ^ W) (hb : b < 2 ^ W) (h : PS X k 175 0 [.ref 68, .int p1, .int p2] [] w r w') : w' = w ∧ ((bet wv W s b ∧ r = some (.int 1)) ∨ (¬ bet wv W s b ∧ r = some (.int 0))) := by
  have p128 : 2 ^ W ≤ 128 := Nat.le_trans (Nat.pow_le_pow_right (by decide) hW7) (by decide)
  cases k with
  | zero => exact (PS_0 h).elim
  | succ k =>
    obtain ⟨_, _, h⟩ := U175_0 hS h
    have v1 : (aG w 77 p1).toInt = vlS wv W s := by rw [aG_n h1]; exact hv s hs
    have v2 : (aG w 77 p2).toInt = vlS wv W b := by rw [aG_n h2]; exact hv b hb
    unfold bet
    by_cases c : aG w 77 p1 = aG w 77 p2
    · rw [if_pos c] at h
      have e : vlS wv W s = vlS wv W b := by rw [← v1, ← v2, c]
      obtain ⟨z3, hz3, h⟩ := use_z hS h (fun _ _ y => F176 hS h1 (by omega) y)
      obtain ⟨z6, hz6, h⟩ := use_z hS h (fun _ _ y => F176 hS h2 (by omega) y)
      by_cases c2 : z6 ≤ z3
      · rw [if_pos c2] at h
        rw [Int32.le_iff_toInt_le, hz3, hz6] at c2
        exact ⟨h.2, Or.inr ⟨by omega, h.1⟩⟩
      · rw [if_neg c2] at h
        rw [Int32.le_iff_toInt_le, hz3, hz6] at c2
        exact ⟨h.2, Or.inl ⟨by omega, h.1⟩⟩
    · rw [if_neg c] at h
      obtain ⟨_, _, h⟩ := h
      have e : vlS wv W s ≠ vlS wv W b := fun e => c (Int32.toInt_inj.mp (by rw [v1, v2, e]))
      by_cases c2 : aG w 77 p1 ≤ aG w 77 p2
      · rw [if_pos c2] at h
        rw [Int32.le_iff_toInt_le, v1, v2] at c2
        exact ⟨h.2, Or.inr ⟨by omega, h.1⟩⟩
      · rw [if_neg c2] at h
        rw [Int32.le_iff_toInt_le, v1, v2] at c2
        exact ⟨h.2, Or.inl ⟨by omega, h.1⟩⟩
theorem F174 (hS : SK w) (hV : WSH w P W A B n) (hR : ∀ i j, i < P → j < P → 0 ≤ rmW w i j ∧ rmW w i j ≤ 1000) (h7 : (gI w 68 7).toInt = ((2 ^ W : Nat) : Int)) (hv : ∀ s, s < 2 ^ W → vaW w s = vlS wv W s) (h1 : p1.toInt = sl) (hsl : 0 ≤ sl ∧ sl ≤ 99) (h : PS X k 174 0 [.ref 68, .int p1, pm_dead, pm_dead] [] w r w') : FM [] [75, 76, 80, 81, 82] w w' ∧ ∃ z : Int32, r = some (.int z) ∧ z.toInt = (bstF (fun s => CANH (rmW w) P W A B n s sl) (bet wv W) (2 ^ W - 1) : Nat) := by
  obtain ⟨v, _, _, _, _, hW7, _⟩ := id hV
  have p128 : 2 ^ W ≤ 128 := Nat.le_trans (Nat.pow_le_pow_right (by decide) hW7) (by decide)
  have p1' : 1 ≤ 2 ^ W := Nat.one_le_two_pow
  have lp : ∀ (k t : Nat) (wk : pm_W) (i2 i3 : Int32), FM [] [75, 76, 80, 81, 82] w wk → i3.toInt = (t + 1 : Nat) → t + 1 ≤ 2 ^ W → i2.toInt = (bstF (fun s => CANH (rmW w) P W A B n s sl) (bet wv W) t : Nat) → PS X k 174 4 [.ref 68, .int p1, .int i2, .int i3] [] wk r w' → FM [] [75, 76, 80, 81, 82] w w' ∧ ∃ z : Int32, r = some (.int z) ∧ z.toInt = (bstF (fun s => CANH (rmW w) P W A B n s sl) (bet wv W) (2 ^ W - 1) : Nat) := by
    intro k
    induction k with
    | zero => intro t wk i2 i3 _ _ _ _ h; exact (PS_0 h).elim
    | succ k ih =>
      intro t wk i2 i3 fm h3 ht h2 h
      have S1 : SK wk := fm.2.2.2
      have h := U174_4 S1 h
      rw [FM_i fm (by simp)] at h
      by_cases c : gI w 68 7 ≤ i3
      · rw [if_pos c] at h
        rw [Int32.le_iff_toInt_le, h7, h3] at c
        have e : t = 2 ^ W - 1 := by omega
        rw [h.2]
        exact ⟨fm, i2, h.1, by rw [h2, e]⟩
      · rw [if_neg c] at h
        rw [Int32.le_iff_toInt_le, h7, h3] at c
        have e1 : (i3 + 1).toInt = ((t + 1 + 1 : Nat) : Int) := by rw [zi_inc (n := 200) (by omega) (by omega), h3]; rfl
        have hb := bstF_le (can := fun s => CANH (rmW w) P W A B n s sl) (bt := bet wv W) t
        have er : rmW wk = rmW w := by funext i j; unfold rmW; rw [FM_a fm (by decide)]
        obtain ⟨q1, w2, y, h5⟩ := h
        obtain ⟨a1, a2⟩ := F175 (wv := wv) (W := W) S1 (fun s hs => by
          rw [← hv s hs]
          unfold vaW
          rw [FM_a fm (by decide)]) hW7 h3 h2 (by omega) (by omega) y
        rcases a2 with ⟨b1, b2⟩ | ⟨b1, b2⟩
        · have h := h5 _ b2 (by rw [a1]; exact S1)
          rw [if_neg (by decide +kernel), a1] at h
          obtain ⟨q4, w5, y5, h6⟩ := h
          obtain ⟨f5, bb, c1, c2⟩ := F169 S1 (WSH_fm hV fm (by intro p hp; cases hp) (by decide)) (by rw [er]; exact hR) (MSK_set h3 (by omega)) h1 hsl y5
          rw [er] at c2
          have h := h6 _ c1 f5.2.2.2
          cases bb with
          | true =>
            rw [if_neg (by decide +kernel)] at h
            exact ih (t + 1) w5 _ _ (FM_trans fm f5) e1 (by omega) (by rw [bstF_y b1 (c2.mp rfl)]; exact h3) h
          | false =>
            rw [if_pos (by decide +kernel)] at h
            exact ih (t + 1) w5 _ _ (FM_trans fm f5) e1 (by omega) (by rw [bstF_n (fun z => Bool.noConfusion (c2.mpr z.2))]; exact h2) h
        · have h := h5 _ b2 (by rw [a1]; exact S1)
          rw [if_pos rfl, a1] at h
          exact ih (t + 1) wk _ _ fm e1 (by omega) (by rw [bstF_n (fun z => b1 z.1)]; exact h2) h
  cases k with
  | zero => exact (PS_0 h).elim
  | succ k => exact lp k 0 w 0 1 (FM_refl hS) o32 (by omega) z32 (U174_0 hS h)
/-! the reference -/
theorem F288 (hS : SK w) (hV : WSR w u P W A B n) (hp : p1.toInt = (610 + 132 * u : Nat)) (hwb : ∀ κ, κ < W → 0 ≤ (wtP (al w) u κ 3).toInt ∧ (wtP (al w) u κ 3).toInt ≤ 99) (h2 : p2.toInt = s) (hs : s < 128) (h : PS X k 288 0 [.ref 147, .int p1, .int p2, pm_dead, pm_dead] [] w r w') : ∃ z : Int32, z.toInt = vlS (fun κ => wtP (al w) u κ 3) W s ∧ r = some (.int z) ∧ w' = w := by
  obtain ⟨hu, hP, hP9, hW, hW7, hw, hR⟩ := id hV
  have hm := MSK_set h2 hs
  have eW : (aG w 148 (p1 + 1)).toInt = W := by
    rw [aG_n (m := 611 + 132 * u) (by rw [zi_add hp o32 (by omega) (by omega)]; omega)]
    exact hW
  have lp : ∀ (k t : Nat) (i3 i4 : Int32), i4.toInt = t → t ≤ W → i3.toInt = vlS (fun κ => wtP (al w) u κ 3) t s → PS X k 288 5 [.ref 147, .int p1, .int p2, .int i3, .int i4] [] w r w' → ∃ z : Int32, z.toInt = vlS (fun κ => wtP (al w) u κ 3) W s ∧ r = some (.int z) ∧ w' = w := by
    intro k
    induction k with
    | zero => intro t i3 i4 _ _ _ h; exact (PS_0 h).elim
    | succ k ih =>
      intro t i3 i4 h4 ht h3 h
      obtain ⟨_, h⟩ := U288_5 hS h
      by_cases c : aG w 148 (p1 + 1) ≤ i4
      · rw [if_pos c] at h
        rw [Int32.le_iff_toInt_le, eW, h4] at c
        have e : t = W := by omega
        rw [e] at h3
        exact ⟨i3, h3, h.1, h.2⟩
      · rw [if_neg c] at h
        rw [Int32.le_iff_toInt_le, eW, h4] at c
        have h := use_p hS h (fun _ _ y => F224w (c := 3) hS hu hp h4 (by omega) three32 (by decide) y)
        obtain ⟨b1, b2⟩ := vlS_b (s := s) hwb t (by omega)
        obtain ⟨b3, b4⟩ := hwb t (by omega)
        have es : vlS (fun κ => wtP (al w) u κ 3) (t + 1) s = vlS (fun κ => wtP (al w) u κ 3) t s + (if s.testBit t = true then (wtP (al w) u t 3).toInt else 0) := rfl
        have ev : (((p2 >>> (i4 &&& 31)) &&& 1) * wtP (al w) u t 3).toInt = if s.testBit t = true then (wtP (al w) u t 3).toInt else 0 := by
          cases hb : s.testBit t with
          | true =>
            rw [(MSK_t hm h4 (by omega) (by decide)).mpr hb, if_pos rfl, zi_mul o32 rfl (by omega) (by omega)]
            omega
          | false =>
            rw [(MSK_f hm h4 (by omega) (by decide)).mpr hb, if_neg Bool.false_ne_true, zi_mul z32 rfl (by omega) (by omega)]
            omega
        refine ih (t + 1) _ _ (by rw [zi_inc (n := 40) (by omega) (by omega), h4]; rfl) (by omega) ?_ h
        rw [es, zi_add h3 ev (by split <;> omega) (by split <;> omega)]
  cases k with
  | zero => exact (PS_0 h).elim
  | succ k => exact lp k 0 0 0 z32 (Nat.zero_le _) z32 (U288_0 hS h)
theorem F287 (hS : SK w) (hV : WSR w u P W A B n) (hp : p1.toInt = (610 + 132 * u : Nat)) (hwb : ∀ κ, κ < W → 0 ≤ (wtP (al w) u κ 3).toInt ∧ (wtP (al w) u κ 3).toInt ≤ 99) (h2 : p2.toInt = sl) (hsl : 0 ≤ sl ∧ sl ≤ 99) (h : PS X k 287 0 [.ref 147, .int p1, .int p2, .int p3, pm_dead, pm_dead, pm_dead] [] w r w') : FM [] [160, 161, 162, 163, 164] w w' ∧ ∃ z : Int32, r = some (.int z) ∧ z.toInt = (bstF (fun s => CANH (rmX (rmA w u) p3.toInt (gI w 147 31).toInt (gI w 147 32).toInt) P W A B n s sl) (bet (fun κ => wtP (al w) u κ 3) W) (2 ^ W - 1) : Nat) := by
  obtain ⟨hu, hP, hP9, hW, hW7, hw, hR⟩ := id hV
  have p128 : 2 ^ W ≤ 128 := Nat.le_trans (Nat.pow_le_pow_right (by decide) hW7) (by decide)
  have p1' : 1 ≤ 2 ^ W := Nat.one_le_two_pow
  have eW : ∀ wk, FM [] [160, 161, 162, 163, 164] w wk → (aG wk 148 (p1 + 1)).toInt = W := fun wk f => by
    rw [aG_n (m := 611 + 132 * u) (by rw [zi_add hp o32 (by omega) (by omega)]; omega), FM_a f (by decide)]
    exact hW
  obtain ⟨can, hcan⟩ : ∃ can, can = (fun s => CANH (rmX (rmA w u) p3.toInt (gI w 147 31).toInt (gI w 147 32).toInt) P W A B n s sl) := ⟨_, rfl⟩
  rw [← hcan]
  have lp : ∀ (k t : Nat) (wk : pm_W) (i4 i5 : Int32) (u6 : Value), FM [] [160, 161, 162, 163, 164] w wk → i5.toInt = (t + 1 : Nat) → t + 1 ≤ 2 ^ W → i4.toInt = (bstF can (bet (fun κ => wtP (al w) u κ 3) W) t : Nat) → PS X k 287 6 [.ref 147, .int p1, .int p2, .int p3, .int i4, .int i5, u6] [] wk r w' → FM [] [160, 161, 162, 163, 164] w w' ∧ ∃ z : Int32, r = some (.int z) ∧ z.toInt = (bstF can (bet (fun κ => wtP (al w) u κ 3) W) (2 ^ W - 1) : Nat) := by
    intro k
    induction k with
    | zero => intro t wk i4 i5 u6 _ _ _ _ h; exact (PS_0 h).elim
    | succ k ih =>
      intro t wk i4 i5 u6 fm h5 ht h4 h
      have S1 : SK wk := fm.2.2.2
      have ea : al wk = al w := al_FM fm (by decide)
      have hVk := WSR_fm hV fm (by decide) (by decide)
      obtain ⟨_, h⟩ := U287_6 S1 h
      have ep := sh_pow (eW wk fm) hW7
      by_cases c : (1 : Int32) <<< (aG wk 148 (p1 + 1) &&& 31) ≤ i5
      · rw [if_pos c] at h
        rw [Int32.le_iff_toInt_le, ep, h5] at c
        have e : t = 2 ^ W - 1 := by omega
        rw [h.2]
        exact ⟨fm, i4, h.1, by rw [h4, e]⟩
      · rw [if_neg c] at h
        rw [Int32.le_iff_toInt_le, ep, h5] at c
        have e1 : (i5 + 1).toInt = ((t + 1 + 1 : Nat) : Int) := by rw [zi_inc (n := 200) (by omega) (by omega), h5]; rfl
        have hb := bstF_le (can := can) (bt := bet (fun κ => wtP (al w) u κ 3) W) t
        obtain ⟨bb, hbb⟩ : ∃ bb, bb = bstF can (bet (fun κ => wtP (al w) u κ 3) W) t := ⟨_, rfl⟩
        rw [← hbb] at h4 hb
        obtain ⟨z3, hz3, h⟩ := use_z S1 h (fun _ _ y => F288 S1 hVk hp (by rw [ea]; exact hwb) h5 (by omega) y)
        obtain ⟨z6, hz6, h⟩ := use_z S1 h (fun _ _ y => F288 S1 hVk hp (by rw [ea]; exact hwb) h4 (by omega) y)
        rw [ea] at hz3 hz6
        obtain ⟨b1, b2⟩ := vlS_b (s := t + 1) hwb W (Nat.le_refl _)
        obtain ⟨b3, b4⟩ := vlS_b (s := bb) hwb W (Nat.le_refl _)
        have ed : (z3 - z6).toInt = vlS (fun κ => wtP (al w) u κ 3) W (t + 1) - vlS (fun κ => wtP (al w) u κ 3) W bb := zi_sub hz3 hz6 (by omega) (by omega)
        have ask : bet (fun κ => wtP (al w) u κ 3) W (t + 1) bb → (∃ (r7 : Option Value) (w8 : pm_W), PS X k 284 0 [.ref 147, .int p1, .int i5, .int p2, .int p3, pm_dead, pm_dead] [] wk r7 w8 ∧ (∀ x9 : Int32, r7 = some (.int x9) → SK w8 → (if x9 = 0 then (PS X k 287 6 [.ref 147, .int p1, .int p2, .int p3, .int i4, .int (i5 + 1), .int (z3 - z6)] [] w8 r w') else (PS X k 287 6 [.ref 147, .int p1, .int p2, .int p3, .int i5, .int (i5 + 1), .int (z3 - z6)] [] w8 r w')))) → FM [] [160, 161, 162, 163, 164] w w' ∧ ∃ z : Int32, r = some (.int z) ∧ z.toInt = (bstF can (bet (fun κ => wtP (al w) u κ 3) W) (2 ^ W - 1) : Nat) := by
          intro hbt h
          obtain ⟨q4, w5, y5, h6⟩ := h
          obtain ⟨f5, bo, c1, c2⟩ := F284 S1 hVk hp (MSK_set h5 (by omega)) h2 hsl y5
          rw [rmA_fm fm (by decide) (by decide), FM_i fm (by simp), FM_i fm (by simp)] at c2
          have c2 : bo = true ↔ can (t + 1) := by rw [hcan]; exact c2
          have h := h6 _ c1 f5.2.2.2
          cases bo with
          | true =>
            rw [if_neg (by decide +kernel)] at h
            exact ih (t + 1) w5 _ _ _ (FM_trans fm f5) e1 (by omega) (by rw [bstF_y (by rw [← hbb]; exact hbt) (c2.mp rfl)]; exact h5) h
          | false =>
            rw [if_pos (by decide +kernel)] at h
            exact ih (t + 1) w5 _ _ _ (FM_trans fm f5) e1 (by omega) (by rw [bstF_n (fun z => Bool.noConfusion (c2.mpr z.2)), ← hbb]; exact h4) h
        have nob : ¬ bet (fun κ => wtP (al w) u κ 3) W (t + 1) bb → PS X k 287 6 [.ref 147, .int p1, .int p2, .int p3, .int i4, .int (i5 + 1), .int (z3 - z6)] [] wk r w' → FM [] [160, 161, 162, 163, 164] w w' ∧ ∃ z : Int32, r = some (.int z) ∧ z.toInt = (bstF can (bet (fun κ => wtP (al w) u κ 3) W) (2 ^ W - 1) : Nat) := by
          intro hbt h
          exact ih (t + 1) wk _ _ _ fm e1 (by omega) (by rw [bstF_n (fun z => hbt (by rw [hbb]; exact z.1)), ← hbb]; exact h4) h
        unfold bet at ask nob
        by_cases c1 : 0 < z3 - z6
        · rw [if_pos c1] at h
          rw [Int32.lt_iff_toInt_lt, z32, ed] at c1
          exact ask (Or.inl (by omega)) h
        · rw [if_neg c1] at h
          rw [Int32.lt_iff_toInt_lt, z32, ed] at c1
          by_cases c2 : z3 - z6 = 0
          · rw [if_pos c2] at h
            rw [c2, z32] at ed
            obtain ⟨z9, hz9, h⟩ := use_z S1 h (fun _ _ y => F289 S1 h5 (by omega) y)
            obtain ⟨z8, hz8, h⟩ := use_z S1 h (fun _ _ y => F289 S1 h4 (by omega) y)
            by_cases c3 : z8 ≤ z9
            · rw [if_pos c3] at h
              rw [Int32.le_iff_toInt_le, hz9, hz8] at c3
              exact nob (by omega) h
            · rw [if_neg c3] at h
              rw [Int32.le_iff_toInt_le, hz9, hz8] at c3
              exact ask (Or.inr ⟨by omega, by omega⟩) h
          · rw [if_neg c2] at h
            have : (z3 - z6).toInt ≠ 0 := fun e => c2 (Int32.toInt_inj.mp (by rw [e, z32]))
            exact nob (by omega) h
  cases k with
  | zero => exact (PS_0 h).elim
  | succ k => exact lp k 0 w 0 1 _ (FM_refl hS) o32 (by omega) z32 (U287_0 hS h)
end ITB
end
section
/-! ===== had, most, shilling, asked on both sides ===== -/
section IUH
variable {X : pm_X} {k k2 : Nat} {w0 w w1 w2 w3 w4 w5 w6 wj w' : pm_W} {r r2 q0 q1 q2 : Option Value} {p1 p2 p3 p4 p5 i0 i1 i2 i3 i4 i5 i6 i7 i8 z z1 z2 x y : Int32} {i v j m u P t s b Q I J K T p W M N κ : Nat} {R R' C ask c : Nat → Nat → Int} {e g d sl : Int} {A B : Nat → Nat} {n o : Nat → Int} {S : Nat → Bool} {a : Nat → Int32} {wv : Nat → Int32} {s1 t1 t2 : SN}
theorem rmX_0 {mt : Int} (i j : Nat) : rmX R (-1) (-1) mt i j = R i j := by
  unfold rmX
  rw [if_neg (by omega), if_neg (by omega)]
  omega
/-- both sides look at the same village, the same rooms -/
def LK5 (w w5 w6 : pm_W) (u : Nat) (s1 : SN) : Prop := WSH w5 (Pof (al w) u) (Wof (al w) u) (wAf (al w) u) (wBf (al w) u) (wNf (al w) u) ∧ WSR w6 u (Pof (al w) u) (Wof (al w) u) (wAf (al w) u) (wBf (al w) u) (wNf (al w) u) ∧ (∀ i j, i < Pof (al w) u → j < Pof (al w) u → 0 ≤ rmW w5 i j ∧ rmW w5 i j ≤ 1000) ∧ (∀ i j, i < Pof (al w) u → j < Pof (al w) u → rmW w5 i j = rmA w6 u i j) ∧ (gI w5 68 7).toInt = ((2 ^ Wof (al w) u : Nat) : Int) ∧ (∀ s, s < 2 ^ Wof (al w) u → vaW w5 s = vlS (fun κ => wtP (al w) u κ 3) (Wof (al w) u) s) ∧ al w6 = al w ∧ gI w6 147 31 = gI w 147 31 ∧ (∀ κ, κ < Wof (al w) u → 0 ≤ (wtP (al w) u κ 3).toInt ∧ (wtP (al w) u κ 3).toInt ≤ 99) ∧ (0 ≤ (al w (612 + 132 * u)).toInt ∧ (al w (612 + 132 * u)).toInt ≤ 9) ∧ Wof (al w) u ≤ 7
/-- the class's load with a look -/
theorem LK5_c (h3 : RL3 w) (zz : PS X k 98 0 [.ref 0, .int p1, .int p2, .int p3, pm_dead, pm_dead, pm_dead] [] w q1 w3) (a1 : q1 = some (.int 1)) (y : PS X k2 159 0 [.ref 68, .ref 33, pm_dead, pm_dead] [] w3 r w5) : r = none ∧ ∃ (u : Nat) (s1 : SN), p1.toInt = u ∧ u < (al w 0).toInt.toNat ∧ u ≤ 1 ∧ CSt w3 33 (5 + 5 * u) (Pof (al w) u) s1.1 s1.2.1 s1.2.2.1 s1.2.2.2 ∧ FM [(33, 0), (33, 1), (33, 2)] [39, 40, 41] w w3 ∧ FM [(68, 0), (68, 7)] [74, 77] w3 w5 ∧ gR w5 33 0 = 5 + 5 * u ∧ (gI w5 (5 + 5 * u) 0).toInt = Pof (al w) u ∧ gI w5 (5 + 5 * u) 1 = al w (612 + 132 * u) ∧ ∀ (w6 : pm_W) (t1 t2 : SN), LD3 w w3 w6 p1 u t1 t2 → al w6 = al w → gI w6 147 31 = gI w 147 31 → LK5 w w5 w6 u s1 := by
  obtain ⟨f1, alt⟩ := F98 h3 zz
  rcases alt with ⟨u, s1, b1, a2, a3⟩ | ⟨b1, _⟩
  · have hu := a2.2.1
    obtain ⟨v1, v1', v3, v2, v4⟩ := VA_v h3.2 hu
    obtain ⟨x1, x2, x3⟩ := VA_w h3.2 hu
    have u1 : u ≤ 1 := by have := h3.1.2.1.1.2.1; omega
    have bd : ∀ q, 0 ≤ (s1.1 q).toInt ∧ (s1.1 q).toInt ≤ 99 := (LDR_2 h3.2 a2 a2).2.2.2.2.2.1.1.1
    obtain ⟨c1, c2, c3, c4, c5, c6, c7, c8⟩ := LOOK3 h3 f1 hu a3 bd y
    obtain ⟨g1, g2, g3, g4⟩ := CVL h3 hu f1 a3
    have gv : (gI w5 (5 + 5 * u) 0).toInt = Pof (al w) u := by rw [← c3]; exact c4
    refine ⟨c1, u, s1, a2.1, hu, u1, a3, f1, c2, by rw [FM_r c2 (by simp)]; exact g3, gv, by rw [FM_i c2 (by simp <;> omega)]; rw [g3] at g2; exact g2, fun w6 t1 t2 hL e6 hmf => ?_⟩
    obtain ⟨d1, d2, d3, d4, d5, d6, d7⟩ := hL
    have ed : dR w6 = s1.1 := by
      have x1 : dA w3 33 = t1.1 := d5.2.2.1
      rw [show dR w6 = t2.1 from d6.1, d4.1, ← x1]
      exact a3.2.2.1
    have era : rmA w6 u = fun i j => (rmI (Vof (al w) u) s1.1 i j).toInt := by
      funext i j
      unfold rmA
      rw [ed, e6]
      rfl
    refine ⟨LOOK_V h3 f1 hu c2 c3 c4, WSR_ld h3.2 hu u1 e6 (by rw [era]; exact c8), fun i j hi hj => by rw [c7 i j hi hj]; have := c8 i j hi hj; omega, fun i j hi hj => by rw [c7 i j hi hj, era], c5, c6, e6, hmf, fun κ hκ => ?_, v4, x2⟩
    have q := x3 κ hκ
    exact ⟨q.2.2.2.2.2.2.2.1, q.2.2.2.2.2.2.2.2⟩
  · rw [a1] at b1; exact absurd b1 i10
theorem can_2 {mt : Int} (h : LK5 w w5 w6 u s1) : ∀ s, CANH (rmW w5) (Pof (al w) u) (Wof (al w) u) (wAf (al w) u) (wBf (al w) u) (wNf (al w) u) s sl ↔ CANH (rmX (rmA w6 u) (-1) (-1) mt) (Pof (al w) u) (Wof (al w) u) (wAf (al w) u) (wBf (al w) u) (wNf (al w) u) s sl := fun s => CANH_cg (fun i j hi hj => by rw [rmX_0]; exact h.2.2.2.1 i j hi hj)
theorem m1i : (-1 : Int32).toInt = -1 := by decide +kernel
end IUH
end
section
/-! ===== most, shilling, worth, asked on both sides ===== -/
section IVM
variable {X : pm_X} {k k2 : Nat} {w0 w w1 w2 w3 w4 w5 w6 wj w' : pm_W} {r r2 q0 q1 q2 : Option Value} {p1 p2 p3 p4 p5 i0 i1 i2 i3 i4 i5 i6 i7 i8 z z1 z2 x y : Int32} {i v j m u P t s b Q I J K T p W M N κ : Nat} {R R' C ask c : Nat → Nat → Int} {e g d sl : Int} {A B : Nat → Nat} {n o : Nat → Int} {S : Nat → Bool} {a : Nat → Int32} {wv : Nat → Int32} {s1 t1 t2 : SN}
/-- the class's wishes: the village, the rooms, the sets' worth -/
def LKw (w : pm_W) (P W : Nat) (A B : Nat → Nat) (n : Nat → Int) (wv : Nat → Int32) : Prop := WSH w P W A B n ∧ (∀ i j, i < P → j < P → 0 ≤ rmW w i j ∧ rmW w i j ≤ 1000) ∧ (gI w 68 7).toInt = ((2 ^ W : Nat) : Int) ∧ (∀ s, s < 2 ^ W → vaW w s = vlS wv W s) ∧ ∀ κ, κ < W → 0 ≤ (wv κ).toInt ∧ (wv κ).toInt ≤ 99
theorem LKw_fm (h : LKw w P W A B n wv) (f : FM [] [75, 76, 80, 81, 82] w w') : LKw w' P W A B n wv := by
  obtain ⟨h1, h2, h3, h4, h5⟩ := h
  refine ⟨WSH_fm h1 f (by intro p hp; cases hp) (by decide), fun i j hi hj => ?_, by rw [FM_i f (by simp)]; exact h3, fun s hs => ?_, h5⟩
  · rw [show rmW w' = rmW w from by funext i j; unfold rmW; rw [FM_a f (by decide)]]
    exact h2 i j hi hj
  · rw [← h4 s hs]
    unfold vaW
    rw [FM_a f (by decide)]
theorem LKC (h3 : RL3 w) (f1 : FM [(33, 0), (33, 1), (33, 2)] [39, 40, 41] w w3) (a2 : LDR (al w) p1 p2 p3 a u s1) (a3 : CSt w3 33 (5 + 5 * u) (Pof (al w) u) s1.1 s1.2.1 s1.2.2.1 s1.2.2.2) (y : PS X k2 159 0 [.ref 68, .ref 33, pm_dead, pm_dead] [] w3 r w5) : LKw w5 (Pof (al w) u) (Wof (al w) u) (wAf (al w) u) (wBf (al w) u) (wNf (al w) u) (fun κ => wtP (al w) u κ 3) := by
  have hu := a2.2.1
  obtain ⟨x1, x2, x3⟩ := VA_w h3.2 hu
  have bd : ∀ q, 0 ≤ (s1.1 q).toInt ∧ (s1.1 q).toInt ≤ 99 := (LDR_2 h3.2 a2 a2).2.2.2.2.2.1.1.1
  obtain ⟨_, c2, c3, c4, c5, c6, c7, c8⟩ := LOOK3 h3 f1 hu a3 bd y
  refine ⟨LOOK_V h3 f1 hu c2 c3 c4, fun i j hi hj => by rw [c7 i j hi hj]; have := c8 i j hi hj; omega, c5, c6, fun κ hκ => ?_⟩
  have q := x3 κ hκ
  exact ⟨q.2.2.2.2.2.2.2.1, q.2.2.2.2.2.2.2.2⟩
theorem bst_lt (hW : W ≤ 7) {can : Nat → Prop} {bt : Nat → Nat → Prop} : bstF can bt (2 ^ W - 1) < 128 := by
  have hb := bstF_le (can := can) (bt := bt) (2 ^ W - 1)
  have p128 : 2 ^ W ≤ 128 := Nat.le_trans (Nat.pow_le_pow_right (by decide) hW) (by decide)
  have p1' : 1 ≤ 2 ^ W := Nat.one_le_two_pow
  omega
/-- the reference: the best set, then its worth -/
theorem F287v {C : Int32 → pm_W → Prop} (hS : SK w) (hV : WSR w u P W A B n) (hp : p1.toInt = (610 + 132 * u : Nat)) (hwb : ∀ κ, κ < W → 0 ≤ (wtP (al w) u κ 3).toInt ∧ (wtP (al w) u κ 3).toInt ≤ 99) (h2 : p2.toInt = sl) (hsl : 0 ≤ sl ∧ sl ≤ 99) (h : ∃ (r7 : Option Value) (w8 : pm_W), PS X k 287 0 [.ref 147, .int p1, .int p2, .int p3, pm_dead, pm_dead, pm_dead] [] w r7 w8 ∧ (∀ x9 : Int32, r7 = some (.int x9) → SK w8 → (∃ (r10 : Option Value) (w11 : pm_W), PS X k 288 0 [.ref 147, .int p1, .int x9, pm_dead, pm_dead] [] w8 r10 w11 ∧ (∀ x12 : Int32, r10 = some (.int x12) → SK w11 → C x12 w11)))) : ∃ (x : Int32) (w8 : pm_W), FM [] [160, 161, 162, 163, 164] w w8 ∧ x.toInt = vlS (fun κ => wtP (al w) u κ 3) W (bstF (fun s => CANH (rmX (rmA w u) p3.toInt (gI w 147 31).toInt (gI w 147 32).toInt) P W A B n s sl) (bet (fun κ => wtP (al w) u κ 3) W) (2 ^ W - 1)) ∧ C x w8 := by
  obtain ⟨q1, w8, y, h⟩ := h
  obtain ⟨f8, z, a1, a2⟩ := F287 hS hV hp hwb h2 hsl y
  have S8 := f8.2.2.2
  have h := h _ a1 S8
  have e8 : al w8 = al w := al_FM f8 (by decide)
  obtain ⟨x, hx, h⟩ := use_z S8 h (fun _ _ y => F288 S8 (WSR_fm hV f8 (by decide) (by decide)) hp (by rw [e8]; exact hwb) a2 (bst_lt hV.2.2.2.2.1) y)
  rw [e8] at hx
  exact ⟨x, w8, f8, hx, h⟩
end IVM
end
section
/-! ===== shilling, worth, asked on both sides ===== -/
section IWS
variable {X : pm_X} {k k2 : Nat} {w0 w w1 w2 w3 w4 w5 w6 wj w' : pm_W} {r r2 q0 q1 q2 : Option Value} {p1 p2 p3 p4 p5 i0 i1 i2 i3 i4 i5 i6 i7 i8 z z1 z2 x y : Int32} {i v j m u P t s b Q I J K T p W M N κ : Nat} {R R' C ask c : Nat → Nat → Int} {e g d sl : Int} {A B : Nat → Nat} {n o : Nat → Int} {S : Nat → Bool} {a : Nat → Int32} {wv : Nat → Int32} {s1 t1 t2 : SN}
/-- what the reference's areTwo changes -/
theorem F245m (hS : SK w) (hA : RA (al w)) (hV : VAa (al w)) (h : PS X k 245 0 [.ref 147, .int p1, .int p2, .int p3, .int p4, .int p5] [] w r w') : gI w' 147 31 = gI w 147 31 ∧ gI w' 147 32 = gI w 147 32 := by
  cases k with
  | zero => exact (PS_0 h).elim
  | succ k =>
    obtain ⟨q6, w6, y6, h⟩ := U245_0 hS h
    obtain ⟨f2, alt2⟩ := F246 hS hA hV y6
    have S6 : SK w6 := f2.2.2.2
    have e6 : al w6 = al w := by funext q; unfold al; rw [FM_a f2 (by simp)]
    have g1 : gI w6 147 31 = gI w 147 31 := FM_i f2 (by simp)
    have g2 : gI w6 147 32 = gI w 147 32 := FM_i f2 (by simp)
    rcases alt2 with ⟨u, s, b2, b3, b4⟩ | ⟨b2, _⟩
    · have h := h _ b2 S6
      rw [if_neg (by decide +kernel)] at h
      have b4' := b3.1
      have b5 := b3.2.1
      have u1 : u ≤ 1 := by have := hA.2.1; omega
      obtain ⟨v1, _, v3, v2, v4⟩ := VA_v hV b5
      have h := use_p S6 h (fun _ _ y => F217v S6 b4' u1 y)
      have h := use_p S6 h (fun _ _ y => F221n (m := 610 + 132 * u) (L := Pof (al w) u) S6 (plV b4' u1) (by rw [e6]; exact v3) (by omega) y)
      by_cases c : 0 ≤ p4.toInt ∧ p4.toInt < (Pof (al w) u : Nat)
      · have h := ifb_t c h
        have h := use_p S6 h (fun _ _ y => F217v S6 b4' u1 y)
        have h := use_p S6 h (fun _ _ y => F221n (m := 610 + 132 * u) (L := Pof (al w) u) S6 (plV b4' u1) (by rw [e6]; exact v3) (by omega) y)
        by_cases c2 : 0 ≤ p5.toInt ∧ p5.toInt < (Pof (al w) u : Nat)
        · have h := ifb_t c2 h
          rw [h.2]; exact ⟨g1, g2⟩
        · have h := ifb_f c2 h
          rw [h.2]; exact ⟨g1, g2⟩
      · have h := ifb_f c h
        rw [h.2]; exact ⟨g1, g2⟩
    · have h := h _ b2 S6
      rw [if_pos rfl] at h
      rw [h.2]; exact ⟨g1, g2⟩
end IWS
end
section
/-! ===== one more room: sums and cuts; what a set lacks ===== -/
section IXA
variable {X : pm_X} {k k2 : Nat} {w0 w w1 w2 w3 w4 w5 w6 wj w' : pm_W} {r r2 q0 q1 q2 : Option Value} {p1 p2 p3 p4 p5 i0 i1 i2 i3 i4 i5 i6 i7 i8 z z1 z2 y : Int32} {i v j m u P t s a b Q I J K T p W M N κ : Nat} {R R' C ask c c' : Nat → Nat → Int} {e g d sl x : Int} {A B : Nat → Nat} {n o : Nat → Int} {S : Nat → Bool} {wv : Nat → Int32} {s1 t1 t2 : SN} {can : Nat → Prop}
theorem suI_one2 {N : Nat} (ha : a < N) (hb : b < N) : suI (fun i => suI (fun j => if i = a ∧ j = b then e else 0) N) N = e := by
  rw [suI_cg (g := fun i => if i = a then e else 0) N (fun i hi => by
    by_cases c : i = a
    · rw [if_pos c, suI_cg (g := fun j => if j = b then e else 0) N (fun j _ => by
        by_cases c2 : j = b
        · rw [if_pos ⟨c, c2⟩, if_pos c2]
        · rw [if_neg (fun z => c2 z.2), if_neg c2])]
      exact suI_one N hb
    · rw [if_neg c]
      exact suI_z N (fun j _ => if_neg (fun z => c z.1)))]
  exact suI_one N ha
theorem cut_1 {N : Nat} (he : 0 ≤ e) (ha : a < N) (hb : b < N) (h : ∀ i j, i < N → j < N → c' i j ≤ c i j + (if i = a ∧ j = b then e else 0)) : cutC c' S N ≤ cutC c S N + e := by
  have q := suI_le (f := fun i => bz (S i) (suI (fun j => bz (!S j) (c' i j)) N)) (g := fun i => bz (S i) (suI (fun j => bz (!S j) (c i j)) N) + suI (fun j => if i = a ∧ j = b then e else 0) N) N (fun i hi => by
    have nn : 0 ≤ suI (fun j => if i = a ∧ j = b then e else 0) N := suI_nn (fun j _ => by split <;> omega)
    cases hs : S i with
    | false =>
      show bz false _ ≤ bz false _ + _
      rw [bz_f, bz_f]; omega
    | true =>
      show bz true _ ≤ bz true _ + _
      rw [bz_t, bz_t, ← suI_add]
      refine suI_le N (fun j hj => ?_)
      have y := h i j hi hj
      show bz (!S j) (c' i j) ≤ bz (!S j) (c i j) + (if i = a ∧ j = b then e else 0)
      cases S j with
      | false => exact y
      | true =>
        show 0 ≤ 0 + _
        split <;> omega)
  rw [suI_add, suI_one2 ha hb] at q
  exact q
theorem CUT_1 {N : Nat} (he : 0 ≤ e) (ha : a < N) (hb : b < N) (h : ∀ i j, i < N → j < N → c' i j ≤ c i j + (if i = a ∧ j = b then e else 0)) : CUTo c' o S N ≤ CUTo c o S N + e := by
  have q := cut_1 (S := S) he ha hb h
  unfold CUTo
  omega
theorem CUT_0 {N : Nat} : CUTo c o (fun _ => false) N = suI (fun a => psI (o a)) N := by
  unfold CUTo cutC
  rw [suI_z (f := fun a => bz ((fun _ => false) a) _) N (fun a _ => rfl), suI_cg (g := fun a => psI (o a)) N (fun a _ => by show psI (o a) + 0 = _; omega)]
  omega
theorem CUT_nn {N : Nat} (h : ∀ i j, i < N → j < N → 0 ≤ c i j) : 0 ≤ CUTo c o S N := by
  unfold CUTo cutC
  have q1 : 0 ≤ suI (fun a => bz (!S a) (psI (o a)) + bz (S a) (psI (-o a))) N := suI_nn (fun a _ => by
    have := psI_0 (e := o a)
    have := psI_0 (e := -o a)
    unfold bz
    split <;> split <;> omega)
  have q2 : 0 ≤ suI (fun a => bz (S a) (suI (fun b => bz (!S b) (c a b)) N)) N := suI_nn (fun a ha => by
    have q : 0 ≤ suI (fun b => bz (!S b) (c a b)) N := suI_nn (fun b hb => by
      have := h a b ha hb
      unfold bz
      split <;> omega)
    cases S a
    · exact Int.le_refl _
    · exact q)
  omega
/-- what a set lacks, of room and of what goes round -/
def LKS (R : Nat → Nat → Int) (P W : Nat) (A B : Nat → Nat) (n : Nat → Int) (s : Nat) (y : Int) : Prop := ∃ x : Int, MCo (capS R (askS A B n s W) P 0) (surS A B n s W) 10 x ∧ y = lackS R (askS A B n s W) P + (suI (fun p => psI (surS A B n s W p)) 10 - x)
theorem LKS_no (hx : LKS R P W A B n s e) (hn : ¬ CANH R P W A B n s 0) : 1 ≤ e := by
  obtain ⟨x, hx, he⟩ := hx
  have q := hx.1 (fun _ => false)
  rw [CUT_0] at q
  have l := lack_nn (R := R) (ask := askS A B n s W) (P := P)
  by_cases c : 1 ≤ e
  · exact c
  · exfalso
    refine hn ⟨fun i j hi hj => lack_i (by omega) hi hj, ?_⟩
    rw [show suI (fun p => psI (surS A B n s W p)) 10 = x by omega]
    exact hx
theorem LKS_1 (ha : a < P) (hb : b < P) (hP : P ≤ 9) (hc : CANH R' P W A B n s 0) (hR : ∀ i j, i < P → j < P → R' i j = R i j + (if i = a ∧ j = b then 1 else 0)) (hx : LKS R P W A B n s g) : g ≤ 1 := by
  obtain ⟨h1, h2, _⟩ := hc
  obtain ⟨x, ⟨_, S, hS⟩, hg⟩ := hx
  have q := h2 S
  obtain ⟨e, he⟩ : ∃ e : Int, e = if askS A B n s W a b ≤ R a b then 0 else 1 := ⟨_, rfl⟩
  have e01 : 0 ≤ e ∧ e ≤ 1 := by rw [he]; split <;> omega
  have l : lackS R (askS A B n s W) P ≤ e := by
    unfold lackS
    have q := suI_le (f := fun i => suI (fun j => psI (askS A B n s W i j - R i j)) P) (g := fun i => suI (fun j => if i = a ∧ j = b then e else 0) P) P (fun i hi => suI_le P (fun j hj => by
      have y := h1 i j hi hj
      rw [hR i j hi hj] at y
      by_cases c : i = a ∧ j = b
      · rw [if_pos c] at y ⊢
        rw [c.1, c.2] at y ⊢
        rw [he]
        unfold psI
        split <;> omega
      · rw [if_neg c] at y ⊢
        unfold psI
        omega))
    rw [suI_one2 ha hb] at q
    exact q
  have k := CUT_1 (c' := capS R' (askS A B n s W) P 0) (c := capS R (askS A B n s W) P 0) (o := surS A B n s W) (S := S) (e := 1 - e) (a := a) (b := b) (N := 10) (by omega) (by omega) (by omega) (fun i j hi hj => by
    unfold capS
    by_cases c : i < P ∧ j < P
    · rw [if_pos c, if_pos c, hR i j c.1 c.2]
      by_cases c2 : i = a ∧ j = b
      · rw [if_pos c2, if_pos c2, c2.1, c2.2, he]
        unfold psI
        split <;> omega
      · rw [if_neg c2, if_neg c2]
        unfold psI
        omega
    · rw [if_neg c, if_neg c]
      by_cases c2 : i = a ∧ j = b
      · rw [if_pos c2]; split <;> omega
      · rw [if_neg c2]; split <;> omega)
  omega
theorem CANH_mono (h : ∀ i j, i < P → j < P → R i j ≤ R' i j) (hc : CANH R P W A B n s sl) : CANH R' P W A B n s sl := by
  obtain ⟨h1, h2, _⟩ := hc
  refine ⟨fun i j hi hj => Int.le_trans (h1 i j hi hj) (h i j hi hj), fun S => ?_, fun _ => false, CUT_0.symm⟩
  have q := h2 S
  have k := CUT_1 (c' := capS R (askS A B n s W) P sl) (c := capS R' (askS A B n s W) P sl) (o := surS A B n s W) (S := S) (e := 0) (a := 0) (b := 0) (N := 10) (Int.le_refl _) (by omega) (by omega) (fun i j hi hj => by
    have z : (if i = 0 ∧ j = 0 then (0 : Int) else 0) = 0 := by split <;> rfl
    rw [z]
    unfold capS
    by_cases c : i < P ∧ j < P
    · rw [if_pos c, if_pos c]
      have := h i j c.1 c.2
      unfold psI
      omega
    · rw [if_neg c, if_neg c]
      omega)
  omega
theorem bst_can : ∀ N, bstF can (bet wv W) N = 0 ∨ can (bstF can (bet wv W) N) := by
  intro N
  induction N with
  | zero => exact Or.inl rfl
  | succ N ih =>
    by_cases c : bet wv W (N + 1) (bstF can (bet wv W) N) ∧ can (N + 1)
    · rw [bstF_y c.1 c.2]; exact Or.inr c.2
    · rw [bstF_n c]; exact ih
theorem bst_max : ∀ N s, s ≤ N → (s = 0 ∨ can s) → vlS wv W s ≤ vlS wv W (bstF can (bet wv W) N) := by
  intro N
  induction N with
  | zero =>
    intro s hs _
    rw [show s = 0 by omega]
    exact Int.le_refl _
  | succ N ih =>
    intro s hs hc
    by_cases c : bet wv W (N + 1) (bstF can (bet wv W) N) ∧ can (N + 1)
    · rw [bstF_y c.1 c.2]
      by_cases e : s = N + 1
      · rw [e]; exact Int.le_refl _
      · have q := ih s (by omega) hc
        rcases c.1 with y | y <;> omega
    · rw [bstF_n c]
      by_cases e : s = N + 1
      · rcases hc with y | y
        · omega
        · rw [e]
          rw [e] at y
          by_cases c2 : vlS wv W (bstF can (bet wv W) N) < vlS wv W (N + 1)
          · exact absurd ⟨Or.inl c2, y⟩ c
          · omega
      · exact ih s (by omega) hc
end IXA
end
section
/-! ===== lacks, markNear, gainBy: the class ===== -/
section IYA
variable {X : pm_X} {k k2 : Nat} {w0 w w1 w2 w3 w4 w5 w6 wj w' : pm_W} {r r2 q0 q1 q2 : Option Value} {p1 p2 p3 p4 p5 i0 i1 i2 i3 i4 i5 i6 i7 i8 z z1 z2 y : Int32} {i v j m u P t s a b Q I J K T p W M N κ : Nat} {R R' C ask c c' : Nat → Nat → Int} {e g d sl x : Int} {A B : Nat → Nat} {n o : Nat → Int} {S : Nat → Bool} {wv : Nat → Int32} {s1 t1 t2 : SN} {can : Nat → Prop}
theorem lack_b (hR : ∀ i j, i < P → j < P → 0 ≤ R i j) (ha : ∀ i j, i < P → j < P → ask i j ≤ 1000) (hP : P ≤ 9) : lackS R ask P ≤ 81000 := by
  have e : ∀ (x : Int) m, suI (fun _ => x) m = x * m := by
    intro x m
    induction m with
    | zero => exact (Int.mul_zero x).symm
    | succ m ih =>
      show suI _ m + x = _
      rw [ih, show ((m + 1 : Nat) : Int) = (m : Int) + 1 from rfl, Int.mul_add, Int.mul_one]
  have q : ∀ i, i < P → suI (fun j => psI (ask i j - R i j)) P ≤ 9000 := by
    intro i hi
    have q := suI_le (f := fun j => psI (ask i j - R i j)) (g := fun _ => 1000) P (fun j hj => by
      have b := ha i j hi hj
      have c := hR i j hi hj
      unfold psI
      omega)
    rw [e] at q
    omega
  have q2 := suI_le (f := fun i => suI (fun j => psI (ask i j - R i j)) P) (g := fun _ => 9000) P q
  rw [e] at q2
  unfold lackS
  omega
theorem due_b (hn : ∀ κ, κ < W → 1 ≤ n κ ∧ n κ ≤ 99) (hW : W ≤ 7) : suI (fun p => psI (surS A B n s W p)) 10 ≤ 10000 := by
  have q := suI_le (f := fun p => psI (surS A B n s W p)) (g := fun _ => 1000) 10 (fun p _ => by
    have := sur_b (A := A) (B := B) (s := s) (p := p) hn W (Nat.le_refl _)
    unfold psI
    omega)
  have : suI (fun _ => (1000 : Int)) 10 = 10000 := by decide
  omega
theorem F182 (hS : SK w) (hV : WSH w P W A B n) (hR : ∀ i j, i < P → j < P → 0 ≤ rmW w i j ∧ rmW w i j ≤ 1000) (hm1 : MSK p1 7 (fun b => s.testBit b)) (h : PS X k 182 0 [.ref 68, .int p1] [] w r w') : FM [] [75, 76, 80, 81, 82] w w' ∧ ∃ z : Int32, r = some (.int z) ∧ LKS (rmW w) P W A B n s z.toInt := by
  cases k with
  | zero => exact (PS_0 h).elim
  | succ k =>
    obtain ⟨q1, w2, y, h⟩ := U182_0 hS h
    obtain ⟨f1, a1, a2, z, a3, a4⟩ := F170 hS hV hR hm1 y
    have S2 := f1.2.2.2
    have h := h _ a3 S2
    have er : rmW w2 = rmW w := by funext i j; unfold rmW; rw [FM_a f1 (by decide)]
    obtain ⟨v, b1, b2, b3, b4, b5, b6, b7, b8, b9⟩ := WSH_fm hV f1 (by intro p hp; cases hp) (by decide)
    have hn : ∀ κ, κ < W → 1 ≤ n κ ∧ n κ ≤ 99 := fun κ hκ => ⟨(b9 κ hκ).2.2.1, (b9 κ hκ).2.2.2⟩
    have hAB : ∀ κ, κ < W → A κ < P ∧ B κ < P := fun κ hκ => ⟨(b9 κ hκ).1, (b9 κ hκ).2.1⟩
    obtain ⟨q4, w5, y5, h⟩ := h
    have ab : ∀ i j, 0 ≤ askS A B n s W i j ∧ askS A B n s W i j ≤ 1000 := fun i j => by
      have := ask_b (A := A) (B := B) (s := s) (i := i) (j := j) hn W (Nat.le_refl _)
      omega
    obtain ⟨f5, z5, x, c1, c2, c3⟩ := F171 (o := surS A B n s W) S2 b1 (by omega) b2 b3 z32 ⟨Int.le_refl _, by omega⟩ (fun i j hi hj => by
      rw [er, a1 i j (by omega) (by omega)]
      exact ⟨hR i j hi hj, ab i j⟩) (fun p hp => sur_hi hAB hp W (Nat.le_refl _)) (fun p hp => a2 p (by omega)) (fun p => by
      have := sur_b (A := A) (B := B) (s := s) (p := p) hn W (Nat.le_refl _)
      omega) y5
    have ecap : capS (rmW w2) (aqW w2) P 0 = capS (rmW w) (askS A B n s W) P 0 := capS_cg (fun i j hi hj => ⟨by rw [er], a1 i j (by omega) (by omega)⟩)
    rw [ecap] at c3
    have h := h _ c1 f5.2.2.2
    have f15 := FM_trans (FM_mono f1 (by intro x hx; cases hx) (by decide)) (FM_mono f5 (by intro x hx; cases hx) (by decide) : FM [] [75, 76, 80, 81, 82] w2 w5)
    rw [h.2]
    refine ⟨f15, z + z5, h.1, x, c3, ?_⟩
    have l0 := lack_nn (R := rmW w) (ask := askS A B n s W) (P := P)
    have l1 := lack_b (R := rmW w) (ask := askS A B n s W) (fun i j hi hj => (hR i j hi hj).1) (fun i j _ _ => (ab i j).2) b3
    have d1 := due_b (A := A) (B := B) (s := s) hn b5
    have x0 : 0 ≤ x := by
      obtain ⟨_, S, hx⟩ := c3
      rw [hx]
      exact CUT_nn (fun i j _ _ => (capS_b (fun i j hi hj => ⟨(hR i j hi hj).2, (ab i j).1⟩) ⟨Int.le_refl _, by omega⟩ i j).1)
    have x1 := c3.1 (fun _ => false)
    rw [CUT_0] at x1
    rw [zi_add a4 c2 (by omega) (by omega)]
theorem LKw_g {fs : List (Nat × Nat)} {as : List Nat} (h : LKw w P W A B n wv) (f : FM fs as w w') (h1 : ∀ p, p ∈ fs → p.1 = 68 ∧ p.2 ≠ 0 ∧ p.2 ≠ 7) (h2 : ∀ a, a ∈ as → 64 ≤ a ∧ a ≠ 74 ∧ a ≠ 77) : LKw w' P W A B n wv := by
  obtain ⟨g1, g2, g3, g4, g5⟩ := h
  refine ⟨WSH_fm g1 f (fun p hp => ⟨(h1 p hp).1, (h1 p hp).2.1⟩) (fun a ha => (h2 a ha).1), fun i j hi hj => ?_, by rw [FM_i f (fun hm => (h1 _ hm).2.2 rfl)]; exact g3, fun s hs => ?_, g5⟩
  · rw [show rmW w' = rmW w from by funext i j; unfold rmW; rw [FM_a f (fun hm => (h2 _ hm).2.1 rfl)]]
    exact g2 i j hi hj
  · rw [← g4 s hs]
    unfold vaW
    rw [FM_a f (fun hm => (h2 _ hm).2.2 rfl)]
theorem rmW_g {fs : List (Nat × Nat)} {as : List Nat} (f : FM fs as w w') (h : 74 ∉ as) : rmW w' = rmW w := by funext i j; unfold rmW; rw [FM_a f h]
theorem aB_t {L : Nat} {y x : Int32} (hx : x = 0 ∨ x = 1) (hS : SK w) (ha : gT sk0 v = 2) (hA : sk_a v = true) (hl : sk_l v = L) (h0 : L ≠ 0) (h : y.toInt = κ) (hκ : κ < L) (j : Nat) : (gA (aB w v y x) v).getD j 0 = if j = κ then x else (gA w v).getD j 0 := by
  unfold aB
  rw [show gT w v = 2 from by rw [SK_T hS]; exact ha]
  show (gA (aS w v y (vp_nar .boolean x)) v).getD j 0 = _
  rw [show vp_nar .boolean x = x from by rcases hx with rfl | rfl <;> decide +kernel, gA_aS (SK_isA hS hA), i_nat h, getD_set (by rw [SK_len hS hl h0]; exact hκ)]
end IYA
end
section
/-! ===== markNear, gainBy: the class ===== -/
section IZA
variable {X : pm_X} {k k2 : Nat} {w0 w w1 w2 w3 w4 w5 w6 wj w' : pm_W} {r r2 q0 q1 q2 : Option Value} {p1 p2 p3 p4 p5 i0 i1 i2 i3 i4 i5 i6 i7 i8 z z1 z2 : Int32} {i v j m u P t s a b Q I J K T p W N κ : Nat} {R R' C ask c c' : Nat → Nat → Int} {e g d sl x y M : Int} {A B : Nat → Nat} {n o : Nat → Int} {S : Nat → Bool} {wv : Nat → Int32} {s1 t1 t2 : SN} {can : Nat → Prop}
/-- what is worth more than now lacks more than one, or is marked -/
def NR (w : pm_W) (M : Int) (R : Nat → Nat → Int) (P W : Nat) (A B : Nat → Nat) (n : Nat → Int) (wv : Nat → Int32) : Prop := (gI w 68 8).toInt = M ∧ ∀ s, s < 2 ^ W → M < vlS wv W s → ∃ e : Int, LKS R P W A B n s e ∧ ((gA w 78).getD s 0 = 0 → e ≠ 1)
theorem F188 (hS : SK w) (hL : LKw w P W A B n wv) (h : PS X k 188 0 [.ref 68, pm_dead] [] w r w') : r = none ∧ FM [(68, 8)] [75, 76, 78, 80, 81, 82] w w' ∧ NR w' (vlS wv W (bstF (fun s => CANH (rmW w) P W A B n s 0) (bet wv W) (2 ^ W - 1))) (rmW w) P W A B n wv := by
  obtain ⟨M, hMe⟩ : ∃ M, M = vlS wv W (bstF (fun s => CANH (rmW w) P W A B n s 0) (bet wv W) (2 ^ W - 1)) := ⟨_, rfl⟩
  rw [← hMe]
  obtain ⟨v0, _, _, hP9, _, hW7, _⟩ := id hL.1
  have p128 : 2 ^ W ≤ 128 := Nat.le_trans (Nat.pow_le_pow_right (by decide) hW7) (by decide)
  have p1' : 1 ≤ 2 ^ W := Nat.one_le_two_pow
  have ok : ∀ p, p ∈ [(68, 8)] → p.1 = 68 ∧ p.2 ≠ 0 ∧ p.2 ≠ 7 := by decide
  have lp : ∀ (k t : Nat) (wk : pm_W) (i1 : Int32), FM [(68, 8)] [75, 76, 78, 80, 81, 82] w wk → i1.toInt = t → t ≤ 2 ^ W → (gI wk 68 8).toInt = M → (∀ s, s < t → M < vlS wv W s → ∃ e : Int, LKS (rmW w) P W A B n s e ∧ ((gA wk 78).getD s 0 = 0 → e ≠ 1)) → PS X k 188 16 [.ref 68, .int i1] [] wk r w' → r = none ∧ FM [(68, 8)] [75, 76, 78, 80, 81, 82] w w' ∧ NR w' M (rmW w) P W A B n wv := by
    intro k
    induction k with
    | zero => intro t wk i1 _ _ _ _ _ h; exact (PS_0 h).elim
    | succ k ih =>
      intro t wk i1 fm h1 ht hM hN h
      have S1 : SK wk := fm.2.2.2
      have hLk := LKw_g hL fm ok (by decide)
      have h := U188_16 S1 h
      by_cases c : gI wk 68 7 ≤ i1
      · rw [if_pos c] at h
        rw [Int32.le_iff_toInt_le, hLk.2.2.1, h1] at c
        have e : t = 2 ^ W := by omega
        rw [h.2]
        exact ⟨h.1, fm, hM, by rw [← e]; exact hN⟩
      · rw [if_neg c] at h
        rw [Int32.le_iff_toInt_le, hLk.2.2.1, h1] at c
        obtain ⟨_, h⟩ := h
        have e1 : (i1 + 1).toInt = ((t + 1 : Nat) : Int) := by rw [zi_inc (n := 200) (by omega) (by omega), h1]; rfl
        have ev : (aG wk 77 i1).toInt = vlS wv W t := by rw [aG_n h1]; exact hLk.2.2.2.1 t (by omega)
        have step : ∀ (wj : pm_W) (x : Int32), x = 0 ∨ x = 1 → FM [] [75, 76, 80, 81, 82] wk wj → (M < vlS wv W t → ∃ e : Int, LKS (rmW w) P W A B n t e ∧ (x = 0 → e ≠ 1)) → PS X k 188 16 [.ref 68, .int (i1 + 1)] [] (aB wj 78 i1 x) r w' → r = none ∧ FM [(68, 8)] [75, 76, 78, 80, 81, 82] w w' ∧ NR w' M (rmW w) P W A B n wv := by
          intro wj x hx fj hxt hh
          have Sj := fj.2.2.2
          have fb : FM [] [78] wj (aB wj 78 i1 x) := FM_aB Sj (by decide)
          have fjb : FM [(68, 8)] [75, 76, 78, 80, 81, 82] wk (aB wj 78 i1 x) := FM_trans (FM_mono fj (by intro p hp; cases hp) (by decide)) (FM_mono fb (by intro p hp; cases hp) (by decide))
          refine ih (t + 1) _ (i1 + 1) (FM_trans fm fjb) e1 (by omega) (by rw [FM_i fb (by simp), FM_i fj (by simp)]; exact hM) (fun s hs => ?_) hh
          rw [aB_t (L := 128) hx Sj (by decide +kernel) (by decide +kernel) (by decide +kernel) (by decide) h1 (by omega)]
          by_cases e : s = t
          · rw [if_pos e, e]; exact hxt
          · rw [if_neg e, FM_a fj (by decide)]; exact hN s (by omega)
        by_cases c2 : aG wk 77 i1 ≤ gI wk 68 8
        · rw [if_pos c2] at h
          rw [Int32.le_iff_toInt_le, ev, hM] at c2
          exact step wk 0 (Or.inl rfl) (FM_refl S1) (fun z => by omega) (h.2 _ rfl)
        · rw [if_neg c2] at h
          obtain ⟨q2, w3, y, h⟩ := h
          obtain ⟨f3, z, a1, a2⟩ := F182 S1 hLk.1 hLk.2.1 (MSK_set h1 (by omega)) y
          rw [rmW_g fm (by decide)] at a2
          have h := h _ a1 f3.2.2.2
          by_cases c3 : z = 1
          · rw [if_pos c3] at h
            exact step w3 1 (Or.inr rfl) f3 (fun _ => ⟨_, a2, fun q => absurd q (by decide)⟩) (h.2 _ rfl)
          · rw [if_neg c3] at h
            exact step w3 0 (Or.inl rfl) f3 (fun _ => ⟨_, a2, fun _ q => c3 (Int32.toInt_inj.mp (by rw [o32]; exact q))⟩) (h.2 _ rfl)
  cases k with
  | zero => exact (PS_0 h).elim
  | succ k =>
    obtain ⟨q1, w2, y, h⟩ := U188_0 hS h
    obtain ⟨f2, z, a1, a2⟩ := F174 hS hL.1 hL.2.1 hL.2.2.1 hL.2.2.2.1 z32 ⟨Int.le_refl _, by omega⟩ y
    have S2 := f2.2.2.2
    obtain ⟨_, h⟩ := h _ a1 S2
    have h := h _ rfl
    have f3 : FM [(68, 8)] [] w2 (sI w2 68 8 (aG w2 77 z)) := FM_sI S2 (by decide)
    refine lp k 0 _ 0 (FM_trans (FM_mono f2 (by intro p hp; cases hp) (by decide)) (FM_mono f3 (by decide) (by intro p hp; cases hp))) z32 (Nat.zero_le _) ?_ (fun s hs => absurd hs (Nat.not_lt_zero _)) h
    rw [gI_sI (SK_isF S2 (by decide +kernel)), aG_n a2, hMe]
    have hb := bstF_le (can := fun s => CANH (rmW w) P W A B n s 0) (bt := bet wv W) (2 ^ W - 1)
    exact (LKw_fm hL f2).2.2.2.1 _ (by omega)
theorem F189 (hS : SK w) (hL : LKw w P W A B n wv) (hR9 : ∀ i j, i < P → j < P → rmW w i j ≤ 999) (hN : NR w M (rmW w) P W A B n wv) (hM : M = vlS wv W (bstF (fun s => CANH (rmW w) P W A B n s 0) (bet wv W) (2 ^ W - 1))) (h1 : p1.toInt = a) (h2 : p2.toInt = b) (ha : a < P) (hb : b < P) (h : PS X k 189 0 [.ref 68, .int p1, .int p2, pm_dead, pm_dead] [] w r w') : FM [] [74, 75, 76, 80, 81, 82] w w' ∧ (∀ i j, i < 9 → j < 9 → rmW w' i j = rmW w i j) ∧ ∃ z : Int32, r = some (.int z) ∧ z.toInt = vlS wv W (bstF (fun s => CANH (fun i j => rmW w i j + (if i = a ∧ j = b then 1 else 0)) P W A B n s 0) (bet wv W) (2 ^ W - 1)) - M := by
  obtain ⟨v0, x1, x2, hP9, x4, hW7, x6⟩ := id hL.1
  have p128 : 2 ^ W ≤ 128 := Nat.le_trans (Nat.pow_le_pow_right (by decide) hW7) (by decide)
  have p1' : 1 ≤ 2 ^ W := Nat.one_le_two_pow
  obtain ⟨R', hR'⟩ : ∃ R' : Nat → Nat → Int, R' = fun i j => rmW w i j + (if i = a ∧ j = b then 1 else 0) := ⟨_, rfl⟩
  have eR : ∀ i j, R' i j = rmW w i j + (if i = a ∧ j = b then 1 else 0) := fun i j => by rw [hR']
  rw [← hR']
  have vb : ∀ s, 0 ≤ vlS wv W s ∧ vlS wv W s ≤ 99 * W := fun s => vlS_b hL.2.2.2.2 W (Nat.le_refl _)
  have mono : ∀ s, CANH (rmW w) P W A B n s 0 → CANH R' P W A B n s 0 := fun s => CANH_mono (fun i j _ _ => by rw [eR]; split <;> omega)
  have hb1 := bstF_le (can := fun s => CANH (rmW w) P W A B n s 0) (bt := bet wv W) (2 ^ W - 1)
  have hb2 := bstF_le (can := fun s => CANH R' P W A B n s 0) (bt := bet wv W) (2 ^ W - 1)
  have fin : ∀ y : Int, M ≤ y → (∀ s, s < 2 ^ W → CANH R' P W A B n s 0 → vlS wv W s ≤ y) → (y = M ∨ ∃ s, s < 2 ^ W ∧ CANH R' P W A B n s 0 ∧ y = vlS wv W s) → y = vlS wv W (bstF (fun s => CANH R' P W A B n s 0) (bet wv W) (2 ^ W - 1)) := by
    intro y y1 y2 y3
    have g1 : y ≤ vlS wv W (bstF (fun s => CANH R' P W A B n s 0) (bet wv W) (2 ^ W - 1)) := by
      rcases y3 with e | ⟨s, s1, s2, s3⟩
      · rw [e, hM]
        refine bst_max (can := fun s => CANH R' P W A B n s 0) (2 ^ W - 1) _ hb1 ?_
        rcases bst_can (can := fun s => CANH (rmW w) P W A B n s 0) (wv := wv) (W := W) (2 ^ W - 1) with q | q
        · exact Or.inl q
        · exact Or.inr (mono _ q)
      · rw [s3]
        exact bst_max (can := fun s => CANH R' P W A B n s 0) (2 ^ W - 1) s (by omega) (Or.inr s2)
    have g2 : vlS wv W (bstF (fun s => CANH R' P W A B n s 0) (bet wv W) (2 ^ W - 1)) ≤ y := by
      rcases bst_can (can := fun s => CANH R' P W A B n s 0) (wv := wv) (W := W) (2 ^ W - 1) with q | q
      · rw [q]
        refine Int.le_trans ?_ y1
        rw [hM]
        exact bst_max (can := fun s => CANH (rmW w) P W A B n s 0) (2 ^ W - 1) 0 (Nat.zero_le _) (Or.inl rfl)
      · exact y2 _ (by omega) q
    omega
  have lp : ∀ (k t : Nat) (w4 wk : pm_W) (i3 i4 : Int32), FM [] [74] w w4 → (∀ i j, i < 9 → j < 9 → rmW w4 i j = R' i j) → FM [] [75, 76, 80, 81, 82] w4 wk → i4.toInt = t → t ≤ 2 ^ W → M ≤ i3.toInt → (∀ s, s < t → CANH R' P W A B n s 0 → vlS wv W s ≤ i3.toInt) → (i3.toInt = M ∨ ∃ s, s < 2 ^ W ∧ CANH R' P W A B n s 0 ∧ i3.toInt = vlS wv W s) → PS X k 189 22 [.ref 68, .int p1, .int p2, .int i3, .int i4] [] wk r w' → FM [] [74, 75, 76, 80, 81, 82] w w' ∧ (∀ i j, i < 9 → j < 9 → rmW w' i j = rmW w i j) ∧ ∃ z : Int32, r = some (.int z) ∧ z.toInt = vlS wv W (bstF (fun s => CANH R' P W A B n s 0) (bet wv W) (2 ^ W - 1)) - M := by
    intro k
    induction k with
    | zero => intro t w4 wk i3 i4 _ _ _ _ _ _ _ _ h; exact (PS_0 h).elim
    | succ k ih =>
      intro t w4 wk i3 i4 f4 hr4 fk h4 ht y1 y2 y3 h
      have Sk : SK wk := fk.2.2.2
      have S4 : SK w4 := f4.2.2.2
      have fwk : FM [] [74, 75, 76, 80, 81, 82] w wk := FM_trans (FM_mono f4 (by intro p hp; cases hp) (by decide)) (FM_mono fk (by intro p hp; cases hp) (by decide))
      have hrk : ∀ i j, i < 9 → j < 9 → rmW wk i j = R' i j := fun i j hi hj => by rw [rmW_g fk (by decide)]; exact hr4 i j hi hj
      have h7 : (gI wk 68 7).toInt = ((2 ^ W : Nat) : Int) := by rw [FM_i fwk (by simp)]; exact hL.2.2.1
      have hva : ∀ s, s < 2 ^ W → vaW wk s = vlS wv W s := fun s hs => by
        rw [← hL.2.2.2.1 s hs]
        unfold vaW
        rw [FM_a fwk (by decide)]
      have h := U189_22 Sk h
      by_cases c : gI wk 68 7 ≤ i4
      · rw [if_pos c] at h
        rw [Int32.le_iff_toInt_le, h7, h4] at c
        have e : t = 2 ^ W := by omega
        rw [e] at y2
        obtain ⟨k1, hk1, h⟩ := use_z Sk h (fun _ _ t => F52n Sk h1 h2 (by omega) (by omega) t)
        obtain ⟨_, _, h⟩ := h
        obtain ⟨hr, hw⟩ := h _ rfl
        have ye := fin _ y1 y2 y3
        have f5 : FM [] [74] wk (aS wk 74 k1 (aG wk 74 k1 - 1)) := FM_aS Sk (by decide)
        rw [hw]
        refine ⟨FM_trans fwk (FM_mono f5 (by intro p hp; cases hp) (by decide)), fun i j hi hj => ?_, _, hr, ?_⟩
        · rw [rmW_s Sk (a := a) (b := b) (by omega) (by omega) hk1 i j hi hj, hrk i j hi hj, eR]
          by_cases q : i = a ∧ j = b
          · rw [if_pos q, aG_n hk1, q.1, q.2]
            have o1 : ((gA wk 74).getD (9 * a + b) 0).toInt = R' a b := hrk a b (by omega) (by omega)
            have o2 := hR9 a b ha hb
            have o3 := hL.2.1 a b ha hb
            rw [eR, if_pos ⟨rfl, rfl⟩] at o1
            rw [zi_sub o1 o32 (by omega) (by omega)]
            omega
          · rw [if_neg q, if_neg q]
            omega
        · rw [FM_i f5 (by simp), FM_i fwk (by simp)]
          have m1 := vb (bstF (fun s => CANH R' P W A B n s 0) (bet wv W) (2 ^ W - 1))
          have m2 := vb (bstF (fun s => CANH (rmW w) P W A B n s 0) (bet wv W) (2 ^ W - 1))
          rw [← hM] at m2
          rw [zi_sub ye hN.1 (by omega) (by omega)]
      · rw [if_neg c] at h
        rw [Int32.le_iff_toInt_le, h7, h4] at c
        obtain ⟨_, h⟩ := h
        have e1 : (i4 + 1).toInt = ((t + 1 : Nat) : Int) := by rw [zi_inc (n := 200) (by omega) (by omega), h4]; rfl
        have skip : ∀ wj, FM [] [75, 76, 80, 81, 82] w4 wj → (CANH R' P W A B n t 0 → vlS wv W t ≤ i3.toInt) → PS X k 189 22 [.ref 68, .int p1, .int p2, .int i3, .int (i4 + 1)] [] wj r w' → FM [] [74, 75, 76, 80, 81, 82] w w' ∧ (∀ i j, i < 9 → j < 9 → rmW w' i j = rmW w i j) ∧ ∃ z : Int32, r = some (.int z) ∧ z.toInt = vlS wv W (bstF (fun s => CANH R' P W A B n s 0) (bet wv W) (2 ^ W - 1)) - M := by
          intro wj fj hq hh
          refine ih (t + 1) w4 wj i3 _ f4 hr4 fj e1 (by omega) y1 (fun s hs hc => ?_) y3 hh
          by_cases e : s = t
          · rw [e] at hc ⊢; exact hq hc
          · exact y2 s (by omega) hc
        have ev : ∀ wj, FM [] [75, 76, 80, 81, 82] wk wj → (aG wj 77 i4).toInt = vlS wv W t := fun wj fj => by
          rw [aG_n h4, FM_a fj (by decide)]
          exact hva t (by omega)
        by_cases c2 : aG wk 78 i4 = 0
        · rw [if_pos c2] at h
          refine skip wk fk (fun hc => ?_) h
          by_cases q : M < vlS wv W t
          · obtain ⟨e, l1, l2⟩ := hN.2 t (by omega) q
            rw [aG_n h4, FM_a fwk (by decide)] at c2
            have n1 := l2 c2
            have n2 := LKS_1 ha hb hP9 hc (fun i j _ _ => eR i j) l1
            have n3 := LKS_no l1 (fun hc0 => by
              have := bst_max (can := fun s => CANH (rmW w) P W A B n s 0) (wv := wv) (W := W) (2 ^ W - 1) t (by omega) (Or.inr hc0)
              rw [← hM] at this
              omega)
            omega
          · omega
        · rw [if_neg c2] at h
          obtain ⟨_, h⟩ := h
          by_cases c3 : aG wk 77 i4 ≤ i3
          · rw [if_pos c3] at h
            rw [Int32.le_iff_toInt_le, ev wk (FM_refl Sk)] at c3
            exact skip wk fk (fun _ => c3) h
          · rw [if_neg c3] at h
            rw [Int32.le_iff_toInt_le, ev wk (FM_refl Sk)] at c3
            obtain ⟨q5, w6, y, h⟩ := h
            have hVk : WSH wk P W A B n := WSH_fm hL.1 fwk (by intro p hp; cases hp) (by decide)
            obtain ⟨f6, bb, c4, c5⟩ := F169 Sk hVk (fun i j hi hj => by
              rw [hrk i j (by omega) (by omega), eR]
              have o2 := hR9 i j hi hj
              have o3 := hL.2.1 i j hi hj
              split <;> omega) (MSK_set h4 (by omega)) z32 ⟨Int.le_refl _, by omega⟩ y
            have ec : CANH (rmW wk) P W A B n t 0 ↔ CANH R' P W A B n t 0 := CANH_cg (fun i j hi hj => hrk i j (by omega) (by omega))
            rw [ec] at c5
            have h := h _ c4 f6.2.2.2
            cases bb with
            | false =>
              rw [if_pos (by decide +kernel)] at h
              exact skip w6 (FM_trans fk f6) (fun hc => Bool.noConfusion (c5.mpr hc)) h
            | true =>
              rw [if_neg (by decide +kernel)] at h
              obtain ⟨_, h⟩ := h
              have e6 := ev w6 f6
              refine ih (t + 1) w4 w6 _ _ f4 hr4 (FM_trans fk f6) e1 (by omega) (by rw [e6]; omega) (fun s hs hc => ?_) (Or.inr ⟨t, by omega, c5.mp rfl, e6⟩) h
              rw [e6]
              by_cases e : s = t
              · rw [e]; exact Int.le_refl _
              · have := y2 s (by omega) hc
                omega
  cases k with
  | zero => exact (PS_0 h).elim
  | succ k =>
    have h := U189_0 hS h
    obtain ⟨k1, hk1, h⟩ := use_z hS h (fun _ _ t => F52n hS h1 h2 (by omega) (by omega) t)
    obtain ⟨_, _, h⟩ := h
    have h := h _ rfl
    have f4 : FM [] [74] w (aS w 74 k1 (aG w 74 k1 + 1)) := FM_aS hS (by decide)
    refine lp k 0 _ _ (gI w 68 8) 0 f4 (fun i j hi hj => ?_) (FM_refl f4.2.2.2) z32 (Nat.zero_le _) (by rw [hN.1]; exact Int.le_refl _) (fun s hs => absurd hs (Nat.not_lt_zero _)) (Or.inl hN.1) h
    rw [rmW_s hS (a := a) (b := b) (by omega) (by omega) hk1 i j hi hj, eR]
    by_cases q : i = a ∧ j = b
    · rw [if_pos q, if_pos q, aG_n hk1, q.1, q.2]
      have o1 : ((gA w 74).getD (9 * a + b) 0).toInt = rmW w a b := rfl
      have o2 := hR9 a b ha hb
      have o3 := hL.2.1 a b ha hb
      rw [zi_add o1 o32 (by omega) (by omega)]
    · rw [if_neg q, if_neg q]
      omega
end IZA
end
section
/-! ===== tight, asked on both sides ===== -/
section JAA
variable {X : pm_X} {k k2 : Nat} {w0 w w1 w2 w3 w4 w5 w6 wj w' : pm_W} {r r2 q0 q1 q2 : Option Value} {p1 p2 p3 p4 p5 i0 i1 i2 i3 i4 i5 i6 i7 i8 z z1 z2 x y : Int32} {i v j m u P t s b Q I J K T p W M N κ : Nat} {R R' C ask c : Nat → Nat → Int} {e g d sl : Int} {A B : Nat → Nat} {n o : Nat → Int} {S : Nat → Bool} {a : Nat → Int32} {wv : Nat → Int32} {s1 t1 t2 : SN}
/-- the reference: worth with one more room -/
theorem F308 (hS : SK w) (hV : WSR w u P W A B n) (hp : p1.toInt = (610 + 132 * u : Nat)) (hwb : ∀ κ, κ < W → 0 ≤ (wtP (al w) u κ 3).toInt ∧ (wtP (al w) u κ 3).toInt ≤ 99) (h : PS X k 308 0 [.ref 147, .int p1, .int p2, .int p3, pm_dead] [] w r w') : FM [(147, 31), (147, 32)] [160, 161, 162, 163, 164] w w' ∧ gI w' 147 31 = -1 ∧ gI w' 147 32 = -1 ∧ ∃ z : Int32, r = some (.int z) ∧ z.toInt = vlS (fun κ => wtP (al w) u κ 3) W (bstF (fun s => CANH (rmX (rmA w u) (-1) p2.toInt p3.toInt) P W A B n s 0) (bet (fun κ => wtP (al w) u κ 3) W) (2 ^ W - 1)) := by
  cases k with
  | zero => exact (PS_0 h).elim
  | succ k =>
    have h := U308_0 hS h _ rfl _ rfl
    have f1 : FM [(147, 31), (147, 32)] [160, 161, 162, 163, 164] w (sI w 147 31 p2) := FM_sI hS (by decide)
    have S1 := f1.2.2.2
    have f2 : FM [(147, 31), (147, 32)] [160, 161, 162, 163, 164] (sI w 147 31 p2) (sI (sI w 147 31 p2) 147 32 p3) := FM_sI S1 (by decide)
    have S2 := f2.2.2.2
    have f12 := FM_trans f1 f2
    have g1 : gI (sI (sI w 147 31 p2) 147 32 p3) 147 31 = p2 := by rw [gI_sI_ne (by decide), gI_sI (SK_isF hS (by decide +kernel))]
    have g2 : gI (sI (sI w 147 31 p2) 147 32 p3) 147 32 = p3 := gI_sI (SK_isF S1 (by decide +kernel))
    have e2 : al (sI (sI w 147 31 p2) 147 32 p3) = al w := al_FM f12 (by decide)
    obtain ⟨x, w8, f8, hx, h⟩ := F287v (sl := 0) S2 (WSR_fm hV f12 (by decide) (by decide)) hp (by rw [e2]; exact hwb) z32 ⟨by omega, by omega⟩ h
    rw [e2, rmA_fm f12 (by decide) (by decide), g1, g2, m1i] at hx
    have S8 := f8.2.2.2
    have h := h _ rfl _ rfl
    have f3 : FM [(147, 31), (147, 32)] [160, 161, 162, 163, 164] w8 (sI w8 147 31 (-1)) := FM_sI S8 (by decide)
    have S3 := f3.2.2.2
    have f4 : FM [(147, 31), (147, 32)] [160, 161, 162, 163, 164] (sI w8 147 31 (-1)) (sI (sI w8 147 31 (-1)) 147 32 (-1)) := FM_sI S3 (by decide)
    rw [h.2]
    refine ⟨FM_trans f12 (FM_trans (FM_mono f8 (by intro p hp; cases hp) (fun _ h => h)) (FM_trans f3 f4)), ?_, gI_sI (SK_isF S3 (by decide +kernel)), x, h.1, hx⟩
    rw [gI_sI_ne (by decide), gI_sI (SK_isF S8 (by decide +kernel))]
theorem rmX_1 {x y : Nat} {f : Nat → Nat → Int} (hx : p4.toInt = x) (hy : p5.toInt = y) (i j : Nat) : rmX f (-1) p4.toInt p5.toInt i j = f i j + (if i = x ∧ j = y then 1 else 0) := by
  unfold rmX
  rw [if_neg (by omega), hx, hy]
  by_cases c : i = x ∧ j = y
  · rw [if_pos c, if_pos (by omega)]
  · rw [if_neg c, if_neg (by omega)]
theorem RC_33 (h3 : RL3 w) (hmf : gI w 147 31 = -1) (hmt : gI w 147 32 = -1) (h1 : PS X k 187 0 [.ref 0, .int p1, .int p2, .int p3, .int p4, .int p5] [] w r w1) (h2 : PS X k2 307 0 [.ref 147, .int p1, .int p2, .int p3, .int p4, .int p5, pm_dead] [] w1 r2 w2) : r2 = r ∧ gI w2 147 31 = -1 ∧ gI w2 147 32 = -1 := by
  have hS := h3.1.1
  cases k with
  | zero => exact (PS_0 h1).elim
  | succ k =>
    cases k2 with
    | zero => exact (PS_0 h2).elim
    | succ k2 =>
      have h1 := U187_0 hS h1
      by_cases c : p4 = p5
      · rw [if_pos c] at h1
        rw [h1.2] at h2
        have h2 := U307_0 hS h2
        rw [if_pos c] at h2
        rw [h2.1, h1.1, h2.2]
        exact ⟨rfl, hmf, hmt⟩
      · rw [if_neg c] at h1
        obtain ⟨q1, w3, z, h1⟩ := h1
        obtain ⟨k', q2, zz, alt⟩ := F97 h3 z
        obtain ⟨f1, _⟩ := F98 h3 zz
        have S3 : SK w3 := f1.2.2.2
        have ea := FM_al f1
        have none0 : (q2 = some (.int 0) ∨ ∃ u : Nat, p1.toInt = u ∧ ¬ PR2 (Pof (al w) u) p4 p5) → q1 = some (.int 0) → r2 = r ∧ gI w2 147 31 = -1 ∧ gI w2 147 32 = -1 := by
          intro hq h0
          have h1 := h1 _ h0 S3
          rw [if_pos rfl] at h1
          rw [h1.2] at h2
          have h2 := U307_0 S3 h2
          rw [if_neg c] at h2
          obtain ⟨q6, w6, y6, h2⟩ := h2
          obtain ⟨S6, e6, alt2⟩ := F245 h3 zz S3 ea y6
          have hm6 := F245m S3 (by rw [ea]; exact h3.1.2.1.1) (by rw [ea]; exact h3.2) y6
          have : q6 = some (.int 0) := by
            rcases alt2 with ⟨_, x⟩ | ⟨u, t1, t2, b1, b3, b4, b5, b6, b7, b8⟩
            · exact x
            · rcases hq with x | ⟨u', x1, x2⟩
              · rw [b1] at x; exact absurd x i10
              · have e : u' = u := by omega
                rw [e] at x2
                rw [b8, decide_eq_false (show ¬ ((0 ≤ p4.toInt ∧ p4.toInt < (Pof (al w) u : Nat)) ∧ (0 ≤ p5.toInt ∧ p5.toInt < (Pof (al w) u : Nat))) from x2)]; rfl
          have h2 := h2 _ this S6
          rw [if_pos rfl] at h2
          rw [h1.1, h2.1, h2.2, hm6.1, hm6.2, FM_i f1 (by simp), FM_i f1 (by simp)]
          exact ⟨rfl, hmf, hmt⟩
        rcases alt with ⟨a0, a1⟩ | ⟨a1, u, s1, a2, a3, ⟨a4, a5⟩ | ⟨a4, a5⟩⟩
        · exact none0 (Or.inl a0) a1
        · have h1 := h1 _ a5 S3
          rw [if_neg (by decide +kernel)] at h1
          have hu := a2.2.1
          have bd : ∀ q, 0 ≤ (s1.1 q).toInt ∧ (s1.1 q).toInt ≤ 99 := (LDR_2 h3.2 a2 a2).2.2.2.2.2.1.1.1
          obtain ⟨⟨d1, d2⟩, d3, d4⟩ := id a4
          obtain ⟨x, hx⟩ : ∃ x : Nat, p4.toInt = x := ⟨p4.toInt.toNat, by omega⟩
          obtain ⟨y, hy⟩ : ∃ y : Nat, p5.toInt = y := ⟨p5.toInt.toNat, by omega⟩
          obtain ⟨q4, w5, y5, h5⟩ := h1
          obtain ⟨_, _, _, _, _, _, b7, b8⟩ := LOOK3 h3 f1 hu a3 bd y5
          have hL := LKC h3 f1 a2 a3 y5
          obtain ⟨b1, u', s1', b2, b3, b4, b5, b6, f5, b9, b10, b12, b11⟩ := LK5_c h3 zz a1 y5
          have eu : u' = u := by have := a2.1; omega
          subst eu
          have S5 : SK w5 := f5.2.2.2
          obtain ⟨q6, w7, y7, h7⟩ := h5 b1 S5
          obtain ⟨o1, f7, hN⟩ := F188 S5 hL y7
          have S7 := f7.2.2.2
          have er7 : rmW w7 = rmW w5 := rmW_g f7 (by decide)
          have hL7 := LKw_g hL f7 (by decide) (by decide)
          obtain ⟨q8, w9, y9, h9⟩ := h7 o1 S7
          rw [← er7] at hN
          obtain ⟨f9, _, zc, c1, c2⟩ := F189 S7 hL7 (fun i j hi hj => by rw [er7, b7 i j hi hj]; have := b8 i j hi hj; omega) hN rfl hx hy (by omega) (by omega) y9
          have S9 := f9.2.2.2
          have hW := h9 _ c1 S9
          rw [hW.2] at h2
          have e9 : al w9 = al w := by rw [al_FM f9 (by decide), al_FM f7 (by decide), al_FM f5 (by decide), ea]
          have h2 := U307_0 S9 h2
          rw [if_neg c] at h2
          obtain ⟨q6', w6, y6, h2⟩ := h2
          obtain ⟨S6, e6, alt2⟩ := F245 h3 zz S9 e9 y6
          have hm := F245m S9 (by rw [e9]; exact h3.1.2.1.1) (by rw [e9]; exact h3.2) y6
          have hm6 : gI w6 147 31 = gI w 147 31 := by rw [hm.1, FM_i f9 (by simp), FM_i f7 (by simp), FM_i f5 (by simp), FM_i f1 (by simp)]
          rcases alt2 with ⟨gg1, _⟩ | ⟨u2, t1, t2, _, g1, g3, g4, g5, g6, g8⟩
          · rw [a1] at gg1; exact absurd gg1 i10
          · have eu : u2 = u' := by omega
            subst eu
            have hN3 : t1.2.2.2 ≤ 30 := by
              have x1 := g5.2.2.2.2.2
              have x2 := a3.2.2.2.2.2
              have x3 := LDR_N h3.2 h3.1.2.1.1 a2
              omega
            have hK := b11 w6 t1 t2 ⟨g1, g3, b4, g4, g5, g6, hN3⟩ e6 hm6
            have hp := plV g1 b4
            rw [decide_eq_true (show (0 ≤ p4.toInt ∧ p4.toInt < (Pof (al w) u2 : Nat)) ∧ (0 ≤ p5.toInt ∧ p5.toInt < (Pof (al w) u2 : Nat)) from a4)] at g8
            have h2 := h2 _ g8 S6
            rw [if_neg (by decide +kernel)] at h2
            have h2 := use_p S6 h2 (fun _ _ y => F217v S6 g1 b4 y)
            obtain ⟨q10, w8, y8, h2⟩ := h2
            obtain ⟨f8, m1, m2, x9, n0, n1⟩ := F308 S6 hK.2.1 hp (by rw [e6]; exact hL.2.2.2.2) y8
            have S8 := f8.2.2.2
            have h2 := h2 _ n0 S8
            have e8 : al w8 = al w := by rw [al_FM f8 (by decide), e6]
            obtain ⟨x10, w11, f11, n2, h2⟩ := F287v (sl := 0) S8 (WSR_fm hK.2.1 f8 (by decide) (by decide)) hp (by rw [e8]; exact hL.2.2.2.2) z32 ⟨by omega, by omega⟩ h2
            rw [e6] at n1
            rw [e8, rmA_fm f8 (by decide) (by decide), m1, m2, m1i] at n2
            rw [bstF_cg (fun s => (can_2 hK s).symm)] at n2
            rw [er7] at c2
            have ec : ∀ s, CANH (rmX (rmA w6 u2) (-1) p4.toInt p5.toInt) (Pof (al w) u2) (Wof (al w) u2) (wAf (al w) u2) (wBf (al w) u2) (wNf (al w) u2) s 0 ↔ CANH (fun i j => rmW w5 i j + (if i = x ∧ j = y then 1 else 0)) (Pof (al w) u2) (Wof (al w) u2) (wAf (al w) u2) (wBf (al w) u2) (wNf (al w) u2) s 0 := fun s => CANH_cg (fun i j hi hj => by rw [rmX_1 hx hy, hK.2.2.2.1 i j hi hj])
            rw [bstF_cg ec] at n1
            rw [h2.1, h2.2, hW.1, FM_i f11 (by simp), FM_i f11 (by simp)]
            refine ⟨?_, m1, m2⟩
            congr 2
            refine Int32.toInt_inj.mp ?_
            have vb : ∀ s, 0 ≤ vlS (fun κ => wtP (al w) u2 κ 3) (Wof (al w) u2) s ∧ vlS (fun κ => wtP (al w) u2 κ 3) (Wof (al w) u2) s ≤ 99 * (Wof (al w) u2 : Nat) := fun s => vlS_b hL.2.2.2.2 (Wof (al w) u2) (Nat.le_refl _)
            have v1 := vb (bstF (fun s => CANH (fun i j => rmW w5 i j + (if i = x ∧ j = y then 1 else 0)) (Pof (al w) u2) (Wof (al w) u2) (wAf (al w) u2) (wBf (al w) u2) (wNf (al w) u2) s 0) (bet (fun κ => wtP (al w) u2 κ 3) (Wof (al w) u2)) (2 ^ Wof (al w) u2 - 1))
            have v2 := vb (bstF (fun s => CANH (rmW w5) (Pof (al w) u2) (Wof (al w) u2) (wAf (al w) u2) (wBf (al w) u2) (wNf (al w) u2) s 0) (bet (fun κ => wtP (al w) u2 κ 3) (Wof (al w) u2)) (2 ^ Wof (al w) u2 - 1))
            have hW7 := hK.2.2.2.2.2.2.2.2.2.2
            rw [zi_sub n1 n2 (by omega) (by omega), c2]
        · exact none0 (Or.inr ⟨u, a2.1, a4⟩) a5
end JAA
end
section
/-! ===== opens ===== -/
section JBA
variable {X : pm_X} {k k2 : Nat} {w0 w w1 w2 w3 w4 w5 wj w' : pm_W} {r r2 q0 q1 q2 : Option Value} {p1 p2 p3 p4 p5 i1 i2 i3 i4 i5 i6 i7 i8 z z1 z2 x y f l f1 f2 l1 l2 : Int32} {i v j m u P t s b Q I J K a T p W N κ : Nat} {C G R R' : Nat → Nat → Int} {e g M : Int} {A B : Nat → Nat} {n : Nat → Int} {wv : Nat → Int32} {s0 s1 s2 t1 t2 : SN}
/-- the pairs looked at before N: the first of the greatest above M, and what it gives -/
def opF (G : Nat → Nat → Int) (P : Nat) (M : Int) : Nat → Int × Int
  | 0 => (-1, M)
  | N + 1 => if N % 9 < P ∧ N % 10 ≠ 0 ∧ (opF G P M N).2 < G (N / 9) (N % 9) then ((N : Int), G (N / 9) (N % 9)) else opF G P M N
theorem opF_y (h : N % 9 < P ∧ N % 10 ≠ 0 ∧ (opF G P M N).2 < G (N / 9) (N % 9)) : opF G P M (N + 1) = ((N : Int), G (N / 9) (N % 9)) := if_pos h
theorem opF_n (h : ¬ (N % 9 < P ∧ N % 10 ≠ 0 ∧ (opF G P M N).2 < G (N / 9) (N % 9))) : opF G P M (N + 1) = opF G P M N := if_neg h
theorem opF_k : ∀ m, (∀ j, j < m → ¬ ((N + j) % 9 < P ∧ (N + j) % 10 ≠ 0)) → opF G P M (N + m) = opF G P M N := by
  intro m
  induction m with
  | zero => intro _; rfl
  | succ m ih =>
    intro h
    rw [← ih (fun j hj => h j (by omega))]
    exact opF_n (N := N + m) (fun q => h m (by omega) ⟨q.1, q.2.1⟩)
theorem opF_ge : ∀ N, M ≤ (opF G P M N).2 ∧ -1 ≤ (opF G P M N).1 ∧ (opF G P M N).1 < N := by
  intro N
  induction N with
  | zero => exact ⟨Int.le_refl _, Int.le_refl _, by show (-1 : Int) < 0; omega⟩
  | succ N ih =>
    by_cases c : N % 9 < P ∧ N % 10 ≠ 0 ∧ (opF G P M N).2 < G (N / 9) (N % 9)
    · rw [opF_y c]
      exact ⟨by show M ≤ G _ _; omega, by show -1 ≤ (N : Int); omega, by show (N : Int) < ((N + 1 : Nat) : Int); omega⟩
    · rw [opF_n c]
      exact ⟨ih.1, ih.2.1, by omega⟩
theorem LKS_cg (h : ∀ i j, i < P → j < P → R i j = R' i j) (hx : LKS R P W A B n s e) : LKS R' P W A B n s e := by
  obtain ⟨x, a1, a2⟩ := hx
  have e1 : capS R (askS A B n s W) P 0 = capS R' (askS A B n s W) P 0 := capS_cg (fun i j hi hj => ⟨h i j hi hj, rfl⟩)
  have e2 : lackS R (askS A B n s W) P = lackS R' (askS A B n s W) P := by
    unfold lackS
    exact suI_cg P (fun i hi => suI_cg P (fun j hj => by rw [h i j hi hj]))
  exact ⟨x, by rw [← e1]; exact a1, by rw [← e2]; exact a2⟩
theorem NR_fm {fs : List (Nat × Nat)} {as : List Nat} (h : NR w M R P W A B n wv) (f : FM fs as w w') (h1 : (68, 8) ∉ fs) (h2 : 78 ∉ as) (hr : ∀ i j, i < P → j < P → R i j = R' i j) : NR w' M R' P W A B n wv := by
  refine ⟨by rw [FM_i f h1]; exact h.1, fun s hs hm => ?_⟩
  obtain ⟨e, e1, e2⟩ := h.2 s hs hm
  exact ⟨e, LKS_cg hr e1, by rw [FM_a f h2]; exact e2⟩
theorem LKw_74 (h : LKw w P W A B n wv) (f : FM [] [74, 75, 76, 80, 81, 82] w w') (hr : ∀ i j, i < P → j < P → rmW w' i j = rmW w i j) : LKw w' P W A B n wv := by
  obtain ⟨g1, g2, g3, g4, g5⟩ := h
  refine ⟨WSH_fm g1 f (by intro p hp; cases hp) (by decide), fun i j hi hj => by rw [hr i j hi hj]; exact g2 i j hi hj, by rw [FM_i f (by simp)]; exact g3, fun s hs => ?_, g5⟩
  rw [← g4 s hs]
  unfold vaW
  rw [FM_a f (by decide)]
theorem F191_l (hL : LKw w0 P W A B n wv) (hR9 : ∀ i j, i < P → j < P → rmW w0 i j ≤ 999) (hN : NR w0 M (rmW w0) P W A B n wv) (hM : M = vlS wv W (bstF (fun s => CANH (rmW w0) P W A B n s 0) (bet wv W) (2 ^ W - 1))) (hG : ∀ a b, a < P → b < P → vlS wv W (bstF (fun s => CANH (fun i j => rmW w0 i j + (if i = a ∧ j = b then 1 else 0)) P W A B n s 0) (bet wv W) (2 ^ W - 1)) = G a b) : ∀ k : Nat,
    (∀ (w : pm_W) (a : Nat) (i1 i2 i3 : Int32) (u4 u5 : Value), FM [] [74, 75, 76, 80, 81, 82] w0 w → (∀ i j, i < 9 → j < 9 → rmW w i j = rmW w0 i j) → i3.toInt = a → a ≤ P → i1.toInt = (opF G P M (9 * a)).1 → i2.toInt = (opF G P M (9 * a)).2 - M → PS X k 191 6 [.ref 68, .int i1, .int i2, .int i3, u4, u5] [] w r w' → FM [] [74, 75, 76, 80, 81, 82] w0 w' ∧ ∃ f : Int32, r = some (.int f) ∧ f.toInt = (opF G P M (9 * P)).1) ∧
    (∀ (w : pm_W) (a b : Nat) (i1 i2 i3 i4 : Int32) (u5 : Value), FM [] [74, 75, 76, 80, 81, 82] w0 w → (∀ i j, i < 9 → j < 9 → rmW w i j = rmW w0 i j) → i3.toInt = a → a < P → i4.toInt = b → b ≤ P → i1.toInt = (opF G P M (9 * a + b)).1 → i2.toInt = (opF G P M (9 * a + b)).2 - M → PS X k 191 20 [.ref 68, .int i1, .int i2, .int i3, .int i4, u5] [] w r w' → FM [] [74, 75, 76, 80, 81, 82] w0 w' ∧ ∃ f : Int32, r = some (.int f) ∧ f.toInt = (opF G P M (9 * P)).1) := by
  obtain ⟨v0, x1, x2, hP9, x4, hW7, x6⟩ := id hL.1
  intro k
  induction k with
  | zero => exact ⟨fun _ _ _ _ _ _ _ _ _ _ _ _ _ h => (PS_0 h).elim, fun _ _ _ _ _ _ _ _ _ _ _ _ _ _ _ _ h => (PS_0 h).elim⟩
  | succ k ih =>
    obtain ⟨ih6, ih20⟩ := ih
    refine ⟨fun w a i1 i2 i3 u4 u5 fm hr h3 ha h1 h2 h => ?_, fun w a b i1 i2 i3 i4 u5 fm hr h3 ha h4 hb h1 h2 h => ?_⟩
    · have hS : SK w := fm.2.2.2
      have h := U191_6 hS h
      rw [FM_r fm (by simp), x1, FM_i fm (by simp)] at h
      by_cases c : gI w0 v0 0 ≤ i3
      · rw [if_pos c] at h
        rw [Int32.le_iff_toInt_le, x2, h3] at c
        have e : a = P := by omega
        rw [e] at h1
        rw [h.2]
        exact ⟨fm, i1, h.1, h1⟩
      · rw [if_neg c] at h
        rw [Int32.le_iff_toInt_le, x2, h3] at c
        exact ih20 w a 0 i1 i2 i3 0 _ fm hr h3 (by omega) z32 (Nat.zero_le _) h1 h2 h
    · have hS : SK w := fm.2.2.2
      have h := U191_20 hS h
      rw [FM_r fm (by simp), x1, FM_i fm (by simp)] at h
      by_cases c : gI w0 v0 0 ≤ i4
      · rw [if_pos c] at h
        rw [Int32.le_iff_toInt_le, x2, h4] at c
        have ek : opF G P M (9 * (a + 1)) = opF G P M (9 * a + b) := by
          rw [show 9 * (a + 1) = 9 * a + b + (9 - b) by omega]
          exact opF_k _ (fun j hj q => by omega)
        exact ih6 w (a + 1) i1 i2 _ _ _ fm hr (by rw [zi_inc (n := 40) (by omega) (by omega), h3]; rfl) (by omega) (by rw [ek]; exact h1) (by rw [ek]; exact h2) h
      · rw [if_neg c] at h
        rw [Int32.le_iff_toInt_le, x2, h4] at c
        have e1 : (i4 + 1).toInt = ((b + 1 : Nat) : Int) := by rw [zi_inc (n := 40) (by omega) (by omega), h4]; rfl
        have n9 : (9 * a + b) % 9 = b := by omega
        have d9 : (9 * a + b) / 9 = a := by omega
        have gge := opF_ge (G := G) (P := P) (M := M) (9 * a + b)
        by_cases c2 : i3 = i4
        · rw [if_pos c2] at h
          have eab : a = b := by rw [c2, h4] at h3; omega
          rw [if_pos (show (0 : Int32) ≤ i2 by rw [Int32.le_iff_toInt_le, z32, h2]; omega)] at h
          have ek : opF G P M (9 * a + (b + 1)) = opF G P M (9 * a + b) := opF_n (N := 9 * a + b) (fun q => q.2.1 (by omega))
          exact ih20 w a (b + 1) i1 i2 i3 _ _ fm hr h3 ha e1 (by omega) (by rw [ek]; exact h1) (by rw [ek]; exact h2) h
        · rw [if_neg c2] at h
          have eab : a ≠ b := fun e => c2 (Int32.toInt_inj.mp (by rw [h3, h4, e]))
          obtain ⟨q1, w2, y1, h5⟩ := h
          have hrP : ∀ i j, i < P → j < P → rmW w i j = rmW w0 i j := fun i j hi hj => hr i j (by omega) (by omega)
          have hLk := LKw_74 hL fm hrP
          have hNk : NR w M (rmW w) P W A B n wv := NR_fm hN fm (by simp) (by decide) (fun i j hi hj => (hrP i j hi hj).symm)
          have eb0 : M = vlS wv W (bstF (fun s => CANH (rmW w) P W A B n s 0) (bet wv W) (2 ^ W - 1)) := by
            rw [bstF_cg (fun s => CANH_cg hrP)]
            exact hM
          obtain ⟨f2, hr2, zc, d1, d2⟩ := F189 hS hLk (fun i j hi hj => by rw [hrP i j hi hj]; exact hR9 i j hi hj) hNk eb0 h3 h4 ha (by omega) y1
          have S2 : SK w2 := f2.2.2.2
          have fm2 := FM_trans fm f2
          have hr2' : ∀ i j, i < 9 → j < 9 → rmW w2 i j = rmW w0 i j := fun i j hi hj => by rw [hr2 i j hi hj, hr i j hi hj]
          rw [bstF_cg (fun s => CANH_cg (R' := fun i j => rmW w0 i j + (if i = a ∧ j = b then 1 else 0)) (fun i j hi hj => by rw [hrP i j hi hj])), hG a b ha (by omega)] at d2
          have h := h5 _ d1 S2
          by_cases c3 : zc ≤ i2
          · rw [if_pos c3] at h
            rw [Int32.le_iff_toInt_le, d2, h2] at c3
            have ek : opF G P M (9 * a + (b + 1)) = opF G P M (9 * a + b) := opF_n (N := 9 * a + b) (fun q => by
              have := q.2.2
              rw [n9, d9] at this
              omega)
            exact ih20 w2 a (b + 1) i1 i2 i3 _ _ fm2 hr2' h3 ha e1 (by omega) (by rw [ek]; exact h1) (by rw [ek]; exact h2) h
          · rw [if_neg c3] at h
            rw [Int32.le_iff_toInt_le, d2, h2] at c3
            obtain ⟨c9, hc9, h⟩ := use_z S2 h (fun _ _ t => F52n S2 h3 h4 (by omega) (by omega) t)
            have ek : opF G P M (9 * a + (b + 1)) = (((9 * a + b : Nat) : Int), G a b) := by
              have q := opF_y (N := 9 * a + b) (G := G) (P := P) (M := M) ⟨by omega, by omega, by rw [n9, d9]; omega⟩
              rw [n9, d9] at q
              exact q
            exact ih20 w2 a (b + 1) c9 zc i3 _ _ fm2 hr2' h3 ha e1 (by omega) (by rw [ek]; exact hc9) (by rw [ek]; exact d2) h
theorem F191 (hS : SK w) (hL : LKw w P W A B n wv) (hR9 : ∀ i j, i < P → j < P → rmW w i j ≤ 999) (hN : NR w M (rmW w) P W A B n wv) (hM : M = vlS wv W (bstF (fun s => CANH (rmW w) P W A B n s 0) (bet wv W) (2 ^ W - 1))) (hG : ∀ a b, a < P → b < P → vlS wv W (bstF (fun s => CANH (fun i j => rmW w i j + (if i = a ∧ j = b then 1 else 0)) P W A B n s 0) (bet wv W) (2 ^ W - 1)) = G a b) (h : PS X k 191 0 [.ref 68, pm_dead, pm_dead, pm_dead, pm_dead, pm_dead] [] w r w') : FM [] [74, 75, 76, 80, 81, 82] w w' ∧ ∃ f : Int32, r = some (.int f) ∧ f.toInt = (opF G P M (9 * P)).1 := by
  cases k with
  | zero => exact (PS_0 h).elim
  | succ k => exact (F191_l hL hR9 hN hM hG k).1 w 0 (-1) 0 0 _ _ (FM_refl hS) (fun _ _ _ _ => rfl) z32 (Nat.zero_le _) m1i (by rw [z32]; show 0 = M - M; omega) (U191_0 hS h)
/-- the reference -/
theorem F309_41 (hV : WSR w0 u P W A B n) (hp : i5.toInt = (610 + 132 * u : Nat)) (hwb : ∀ κ, κ < W → 0 ≤ (wtP (al w0) u κ 3).toInt ∧ (wtP (al w0) u κ 3).toInt ≤ 99) (hG : ∀ a b : Nat, a < P → b < P → vlS (fun κ => wtP (al w0) u κ 3) W (bstF (fun s => CANH (rmX (rmA w0 u) (-1) a b) P W A B n s 0) (bet (fun κ => wtP (al w0) u κ 3) W) (2 ^ W - 1)) = G a b) : ∀ (k N : Nat) (w : pm_W) (i6 i7 i8 : Int32) (u9 : Value), FM [(147, 31), (147, 32)] [160, 161, 162, 163, 164] w0 w → gI w 147 31 = -1 → gI w 147 32 = -1 → i8.toInt = N → N ≤ 9 * P → i6.toInt = (opF G P M N).2 → i7.toInt = (opF G P M N).1 → PS X k 309 41 [.ref 147, .int i1, .int i2, .int i3, .int p4, .int i5, .int i6, .int i7, .int i8, u9] [] w r w' → (gI w' 147 31 = -1 ∧ gI w' 147 32 = -1) ∧ ∃ f : Int32, f.toInt = (opF G P M (9 * P)).1 ∧ r = some (.int (if 0 ≤ f then (if p4 = 0 then f / 9 else f - f / 9 * 9) else -1)) := by
  obtain ⟨u1, hP, hP9, _⟩ := id hV
  have e9 : (9 : Int32).toInt = 9 := nine32
  intro k
  induction k with
  | zero => intro N w i6 i7 i8 u9 _ _ _ _ _ _ _ h; exact (PS_0 h).elim
  | succ k ih =>
    intro N w i6 i7 i8 u9 fm m1 m2 h8 hN h6 h7 h
    have hS : SK w := fm.2.2.2
    have ea : al w = al w0 := al_FM fm (by decide)
    obtain ⟨_, h⟩ := U309_41 hS h
    have eP : aG w 148 i5 = al w0 (610 + 132 * u) := by rw [aG_n hp, ← ea]; rfl
    rw [eP] at h
    have e9P : (9 * al w0 (610 + 132 * u)).toInt = 9 * P := by rw [zi_mul e9 hP (by omega) (by omega)]
    by_cases c : 9 * al w0 (610 + 132 * u) ≤ i8
    · rw [if_pos c] at h
      rw [Int32.le_iff_toInt_le, e9P, h8] at c
      have e : N = 9 * P := by omega
      rw [e] at h7
      by_cases c0 : 0 ≤ i7
      · rw [if_pos c0] at h
        by_cases c4 : p4 = 0
        · rw [if_pos c4] at h
          rw [h.2]
          exact ⟨⟨m1, m2⟩, i7, h7, by rw [if_pos c0, if_pos c4]; exact h.1⟩
        · rw [if_neg c4] at h
          rw [h.2]
          exact ⟨⟨m1, m2⟩, i7, h7, by rw [if_pos c0, if_neg c4]; exact h.1⟩
      · rw [if_neg c0] at h
        rw [h.2]
        exact ⟨⟨m1, m2⟩, i7, h7, by rw [if_neg c0]; exact h.1⟩
    · rw [if_neg c] at h
      rw [Int32.le_iff_toInt_le, e9P, h8] at c
      have e1 : (i8 + 1).toInt = ((N + 1 : Nat) : Int) := by rw [zi_inc (n := 400) (by omega) (by omega), h8]; rfl
      have q10 : (i8 - i8 / 10 * 10).toInt = (N % 10 : Nat) := zi_rem h8 (b := 10) ten32
      have q9 : (i8 - i8 / 9 * 9).toInt = (N % 9 : Nat) := zi_rem h8 (b := 9) e9
      have d9 : (i8 / 9).toInt = (N / 9 : Nat) := zi_div h8 (b := 9) e9
      by_cases c1 : i8 - i8 / 10 * 10 = 0
      · rw [if_pos c1] at h
        rw [c1, z32] at q10
        have ek : opF G P M (N + 1) = opF G P M N := opF_n (fun q => q.2.1 (by omega))
        exact ih (N + 1) w i6 i7 _ _ fm m1 m2 e1 (by omega) (by rw [ek]; exact h6) (by rw [ek]; exact h7) h
      · rw [if_neg c1] at h
        have n10 : N % 10 ≠ 0 := fun e => c1 (Int32.toInt_inj.mp (by rw [q10, e, z32]; rfl))
        obtain ⟨_, h⟩ := h
        by_cases c2 : i8 - i8 / 9 * 9 < al w0 (610 + 132 * u)
        · rw [if_pos c2] at h
          rw [Int32.lt_iff_toInt_lt, q9, hP] at c2
          have hA : N / 9 < P := by omega
          have hB : N % 9 < P := by omega
          obtain ⟨q1, w2, y1, h5⟩ := h
          have hVk := WSR_fm hV fm (by decide) (by decide)
          obtain ⟨f2, n1, n2, zr, d1, d2⟩ := F308 hS hVk hp (by rw [ea]; exact hwb) y1
          rw [ea, rmA_fm fm (by decide) (by decide), d9, q9, hG (N / 9) (N % 9) hA hB] at d2
          have h := h5 _ d1 f2.2.2.2
          have fm2 := FM_trans fm f2
          by_cases c3 : i6 < zr
          · rw [if_pos c3] at h
            rw [Int32.lt_iff_toInt_lt, h6, d2] at c3
            have ek : opF G P M (N + 1) = ((N : Int), G (N / 9) (N % 9)) := opF_y ⟨hB, n10, c3⟩
            exact ih (N + 1) w2 zr i8 _ _ fm2 n1 n2 e1 (by omega) (by rw [ek]; exact d2) (by rw [ek]; exact h8) h
          · rw [if_neg c3] at h
            rw [Int32.lt_iff_toInt_lt, h6, d2] at c3
            have ek : opF G P M (N + 1) = opF G P M N := opF_n (fun q => c3 q.2.2)
            exact ih (N + 1) w2 i6 i7 _ _ fm2 n1 n2 e1 (by omega) (by rw [ek]; exact h6) (by rw [ek]; exact h7) h
        · rw [if_neg c2] at h
          rw [Int32.lt_iff_toInt_lt, q9, hP] at c2
          have ek : opF G P M (N + 1) = opF G P M N := opF_n (fun q => c2 (by omega))
          exact ih (N + 1) w i6 i7 _ _ fm m1 m2 e1 (by omega) (by rw [ek]; exact h6) (by rw [ek]; exact h7) h
/-- opens -/
theorem RC_34 (h3 : RL3 w) (hmf : gI w 147 31 = -1) (hmt : gI w 147 32 = -1) (h1 : PS X k 190 0 [.ref 0, .int p1, .int p2, .int p3, .int p4, pm_dead] [] w r w1) (h2 : PS X k2 309 0 [.ref 147, .int p1, .int p2, .int p3, .int p4, pm_dead, pm_dead, pm_dead, pm_dead, pm_dead] [] w1 r2 w2) : r2 = r ∧ gI w2 147 31 = -1 ∧ gI w2 147 32 = -1 := by
  have hS := h3.1.1
  cases k with
  | zero => exact (PS_0 h1).elim
  | succ k =>
    cases k2 with
    | zero => exact (PS_0 h2).elim
    | succ k2 =>
      obtain ⟨q1, w3, z, h1⟩ := U190_0 hS h1
      cases k with
      | zero => exact (PS_0 z).elim
      | succ k =>
        obtain ⟨q2, w4, zz, hz⟩ := U173_0 hS z
        obtain ⟨f1, alt⟩ := F98 h3 zz
        have S4 : SK w4 := f1.2.2.2
        have ea := FM_al f1
        rcases alt with ⟨u, s1, a1, a2, a3⟩ | ⟨a1, a2⟩
        · have hz := hz _ a1 S4
          rw [if_neg (by decide +kernel)] at hz
          obtain ⟨q4, w5, y5, h5⟩ := hz
          have hu := a2.2.1
          have bd : ∀ q, 0 ≤ (s1.1 q).toInt ∧ (s1.1 q).toInt ≤ 99 := (LDR_2 h3.2 a2 a2).2.2.2.2.2.1.1.1
          obtain ⟨_, _, _, _, _, _, b7, b8⟩ := LOOK3 h3 f1 hu a3 bd y5
          have hL := LKC h3 f1 a2 a3 y5
          obtain ⟨b1, u', s1', b2, b3, b4, b5, b6, f5, b9, b10, b12, b11⟩ := LK5_c h3 zz a1 y5
          have eu : u' = u := by have := a2.1; omega
          subst eu
          have S5 : SK w5 := f5.2.2.2
          obtain ⟨c1, c2⟩ := h5 b1 S5
          rw [c2] at h1
          have h1 := h1 _ c1 S5
          rw [if_neg (by decide +kernel)] at h1
          obtain ⟨q6, w7, y7, h7⟩ := h1
          obtain ⟨o1, f7, hN⟩ := F188 S5 hL y7
          have S7 := f7.2.2.2
          have er7 : rmW w7 = rmW w5 := rmW_g f7 (by decide)
          have hL7 := LKw_g hL f7 (by decide) (by decide)
          obtain ⟨q8, w9, y9, h9⟩ := h7 o1 S7
          rw [← er7] at hN
          obtain ⟨f9, fc, d1, d2⟩ := F191 S7 hL7 (fun i j hi hj => by rw [er7, b7 i j hi hj]; have := b8 i j hi hj; omega) hN rfl (fun a b _ _ => rfl) y9
          have S9 := f9.2.2.2
          have h9 := h9 _ d1 S9
          have cl : w1 = w9 ∧ r = some (.int (if 0 ≤ fc then (if p4 = 0 then fc / 9 else fc - fc / 9 * 9) else -1)) := by
            have gg := (opF_ge (G := fun a b => vlS (fun κ => wtP (al w) u' κ 3) (Wof (al w) u') (bstF (fun s => CANH (fun i j => rmW w7 i j + (if i = a ∧ j = b then 1 else 0)) (Pof (al w) u') (Wof (al w) u') (wAf (al w) u') (wBf (al w) u') (wNf (al w) u') s 0) (bet (fun κ => wtP (al w) u' κ 3) (Wof (al w) u')) (2 ^ (Wof (al w) u') - 1))) (P := Pof (al w) u') (M := vlS (fun κ => wtP (al w) u' κ 3) (Wof (al w) u') (bstF (fun s => CANH (rmW w7) (Pof (al w) u') (Wof (al w) u') (wAf (al w) u') (wBf (al w) u') (wNf (al w) u') s 0) (bet (fun κ => wtP (al w) u' κ 3) (Wof (al w) u')) (2 ^ (Wof (al w) u') - 1))) (9 * Pof (al w) u')).2.1
            by_cases c0 : fc = -1
            · rw [if_pos c0] at h9
              rw [if_neg (by rw [c0]; decide +kernel)]
              exact ⟨h9.2, h9.1⟩
            · rw [if_neg c0] at h9
              have c1 : (0 : Int32) ≤ fc := by
                rw [Int32.le_iff_toInt_le, z32]
                have : fc.toInt ≠ -1 := fun q => c0 (Int32.toInt_inj.mp (by rw [q]; exact m1i.symm))
                omega
              rw [if_pos c1]
              by_cases c4 : p4 = 0
              · rw [if_pos c4] at h9 ⊢; exact ⟨h9.2, h9.1⟩
              · rw [if_neg c4] at h9 ⊢; exact ⟨h9.2, h9.1⟩
          rw [cl.1] at h2
          have e9 : al w9 = al w := by rw [al_FM f9 (by decide), al_FM f7 (by decide), al_FM f5 (by decide), ea]
          obtain ⟨q10, w6, y6, h2⟩ := U309_0 S9 h2
          obtain ⟨f6, e6, alt2⟩ := LOAD3 h3 zz S9 e9 y6
          have S6 : SK w6 := f6.2.2.2
          have hm6 : gI w6 147 31 = gI w 147 31 := by rw [FM_i f6 (by simp), FM_i f9 (by simp), FM_i f7 (by simp), FM_i f5 (by simp), FM_i f1 (by simp)]
          have hm6' : gI w6 147 32 = gI w 147 32 := by rw [FM_i f6 (by simp), FM_i f9 (by simp), FM_i f7 (by simp), FM_i f5 (by simp), FM_i f1 (by simp)]
          rcases alt2 with ⟨x0, _⟩ | ⟨u2, t1, t2, _, gg2, hLD⟩
          · rw [a1] at x0; exact absurd x0 i10
          · have eu : u2 = u' := by have := hLD.1; omega
            subst eu
            have hK := b11 w6 t1 t2 hLD e6 hm6
            have hc1 := hLD.1
            have hp := plV hc1 b4
            have h2 := h2 _ gg2 S6
            rw [if_neg (by decide +kernel)] at h2
            have h2 := use_p S6 h2 (fun _ _ y => F217v S6 hc1 b4 y)
            obtain ⟨x9, w8, f8, n1, h2⟩ := F287v (sl := 0) S6 hK.2.1 hp (by rw [e6]; exact hL.2.2.2.2) z32 ⟨by omega, by omega⟩ h2
            have S8 := f8.2.2.2
            have e8 : al w8 = al w := by rw [al_FM f8 (by decide), e6]
            rw [e6, hm6, hm6', hmf, hmt, m1i] at n1
            rw [bstF_cg (fun s => (can_2 hK s).symm), ← er7] at n1
            have rr := F309_41 (G := fun a b => vlS (fun κ => wtP (al w) u2 κ 3) (Wof (al w) u2) (bstF (fun s => CANH (fun i j => rmW w7 i j + (if i = a ∧ j = b then 1 else 0)) (Pof (al w) u2) (Wof (al w) u2) (wAf (al w) u2) (wBf (al w) u2) (wNf (al w) u2) s 0) (bet (fun κ => wtP (al w) u2 κ 3) (Wof (al w) u2)) (2 ^ (Wof (al w) u2) - 1))) (M := vlS (fun κ => wtP (al w) u2 κ 3) (Wof (al w) u2) (bstF (fun s => CANH (rmW w7) (Pof (al w) u2) (Wof (al w) u2) (wAf (al w) u2) (wBf (al w) u2) (wNf (al w) u2) s 0) (bet (fun κ => wtP (al w) u2 κ 3) (Wof (al w) u2)) (2 ^ (Wof (al w) u2) - 1))) (WSR_fm hK.2.1 f8 (by decide) (by decide)) hp (by rw [e8]; exact hL.2.2.2.2) (fun a b ha hb => by
              rw [e8, rmA_fm f8 (by decide) (by decide)]
              refine congrArg (vlS (fun κ => wtP (al w) u2 κ 3) (Wof (al w) u2)) (bstF_cg (fun s => ?_) _)
              refine CANH_cg (fun i j hi hj => ?_)
              rw [er7, hK.2.2.2.1 i j hi hj]
              unfold rmX
              rw [if_neg (by omega)]
              by_cases c : i = a ∧ j = b
              · rw [if_pos c, if_pos (by omega)]
              · rw [if_neg c, if_neg (by omega)]) _ 0 w8 _ (-1) 0 _ (FM_refl S8) (by rw [FM_i f8 (by simp), hm6]; exact hmf) (by rw [FM_i f8 (by simp), hm6']; exact hmt) z32 (Nat.zero_le _) n1 m1i h2
            obtain ⟨rm, fr, x1, x2⟩ := rr
            refine ⟨?_, rm⟩
            rw [x2, cl.2, show fr = fc from Int32.toInt_inj.mp (by rw [x1, d2])]
        · have hz := hz _ a1 S4
          rw [if_pos rfl] at hz
          have h1 := h1 _ hz.1 (by rw [hz.2]; exact S4)
          rw [if_pos rfl, hz.2] at h1
          rw [h1.2] at h2
          obtain ⟨q6, w6, y6, h2⟩ := U309_0 S4 h2
          obtain ⟨f6, e6, alt2⟩ := LOAD3 h3 zz S4 ea y6
          rcases alt2 with ⟨_, g1⟩ | ⟨u', t1, t2, g1, _⟩
          · have h2 := h2 _ g1 f6.2.2.2
            rw [if_pos rfl] at h2
            rw [h2.1, h1.1, h2.2, FM_i f6 (by simp), FM_i f6 (by simp), FM_i f1 (by simp), FM_i f1 (by simp)]
            exact ⟨rfl, hmf, hmt⟩
          · rw [a1] at g1; exact absurd g1.symm i10
end JBA
end
section
/-! ===== rings for a want: which there are, which is best ===== -/
section JEA
variable {R : Nat → Nat → Int} {y : Int} {P a b m c m' c' d p i j x t q : Nat} {G G' : Nat → Nat → Int} {V V' : Nat → Nat → Prop}
/-- who is at i in the ring of m with number c -/
def elN (a b m c i : Nat) : Nat := if i = 0 then a else if i = 1 then b else c / 9 ^ (m - 1 - i) % 9
theorem elN_pre (hd : 2 ≤ d) (hm : d ≤ m) (hi : i < d) : elN a b d (c / 9 ^ (m - d)) i = elN a b m c i := by
  unfold elN
  by_cases h0 : i = 0
  · rw [if_pos h0, if_pos h0]
  · rw [if_neg h0, if_neg h0]
    by_cases h1 : i = 1
    · rw [if_pos h1, if_pos h1]
    · rw [if_neg h1, if_neg h1, Nat.div_div_eq_div_mul, ← Nat.pow_add, show m - d + (d - 1 - i) = m - 1 - i by omega]
theorem elN_lo (hd : 2 ≤ d) (hp : p < 9) (hi : i < d) : elN a b (d + 1) (9 * c + p) i = elN a b d c i := by
  rw [← elN_pre (d := d) hd (Nat.le_succ d) hi, show d + 1 - d = 1 by omega, Nat.pow_one, show (9 * c + p) / 9 = c by omega]
theorem elN_hi (hd : 2 ≤ d) (hp : p < 9) : elN a b (d + 1) (9 * c + p) d = p := by
  unfold elN
  rw [if_neg (by omega), if_neg (by omega), show d + 1 - 1 - d = 0 by omega, Nat.pow_zero, Nat.div_one]
  omega
/-- one after another, as far as it goes -/
def VPr (R : Nat → Nat → Int) (P : Nat) (y : Int) (a b m c : Nat) : Prop := (∀ i, i < m → elN a b m c i < P) ∧ (∀ i j, i < j → j < m → elN a b m c i ≠ elN a b m c j) ∧ ∀ i, i + 1 < m → y ≤ R (elN a b m c i) (elN a b m c (i + 1))
/-- a ring -/
def VRg (R : Nat → Nat → Int) (P : Nat) (y : Int) (a b m c : Nat) : Prop := 2 ≤ m ∧ m ≤ 6 ∧ c < 9 ^ (m - 2) ∧ VPr R P y a b m c ∧ y ≤ R (elN a b m c (m - 1)) a
theorem VPr_pre (hd : 2 ≤ d) (hm : d ≤ m) (h : VPr R P y a b m c) : VPr R P y a b d (c / 9 ^ (m - d)) := by
  obtain ⟨h1, h2, h3⟩ := h
  refine ⟨fun i hi => ?_, fun i j hij hj => ?_, fun i hi => ?_⟩
  · rw [elN_pre hd hm hi]; exact h1 i (by omega)
  · rw [elN_pre hd hm (by omega), elN_pre hd hm hj]; exact h2 i j hij (by omega)
  · rw [elN_pre hd hm (by omega), elN_pre hd hm hi]; exact h3 i (by omega)
theorem VPr_ext (hd : 2 ≤ d) (hp : p < 9) : VPr R P y a b (d + 1) (9 * c + p) ↔ VPr R P y a b d c ∧ p < P ∧ (∀ i, i < d → elN a b d c i ≠ p) ∧ y ≤ R (elN a b d c (d - 1)) p := by
  constructor
  · intro h
    have h0 := VPr_pre hd (Nat.le_succ d) h
    rw [show d + 1 - d = 1 by omega, Nat.pow_one, show (9 * c + p) / 9 = c by omega] at h0
    obtain ⟨h1, h2, h3⟩ := h
    refine ⟨h0, ?_, fun i hi => ?_, ?_⟩
    · have := h1 d (Nat.lt_succ_self d)
      rw [elN_hi hd hp] at this
      exact this
    · have := h2 i d hi (Nat.lt_succ_self d)
      rw [elN_hi hd hp, elN_lo hd hp hi] at this
      exact this
    · have := h3 (d - 1) (by omega)
      rw [show d - 1 + 1 = d by omega, elN_hi hd hp, elN_lo hd hp (by omega)] at this
      exact this
  · rintro ⟨⟨h1, h2, h3⟩, g1, g2, g3⟩
    refine ⟨fun i hi => ?_, fun i j hij hj => ?_, fun i hi => ?_⟩
    · by_cases e : i = d
      · rw [e, elN_hi hd hp]; exact g1
      · rw [elN_lo hd hp (by omega)]; exact h1 i (by omega)
    · by_cases e : j = d
      · rw [e, elN_hi hd hp, elN_lo hd hp (by omega)]; exact g2 i (by omega)
      · rw [elN_lo hd hp (by omega), elN_lo hd hp (by omega)]; exact h2 i j hij (by omega)
    · by_cases e : i + 1 = d
      · rw [e, elN_hi hd hp, elN_lo hd hp (by omega), show i = d - 1 by omega]; exact g3
      · rw [elN_lo hd hp (by omega), elN_lo hd hp (by omega)]; exact h3 i (by omega)
/-- better: the measure, then shorter, then the lesser number -/
def BTt (G : Nat → Nat → Int) (m c m' c' : Nat) : Prop := G m' c' < G m c ∨ (G m c = G m' c' ∧ (m < m' ∨ (m = m' ∧ c < c')))
def BSt (G : Nat → Nat → Int) (V : Nat → Nat → Prop) (m c : Nat) : Prop := V m c ∧ ∀ m' c', V m' c' → (m' = m ∧ c' = c) ∨ BTt G m c m' c'
theorem BTt_as (h1 : BTt G m c m' c') (h2 : BTt G m' c' m c) : False := by
  unfold BTt at h1 h2
  omega
theorem BSt_uq (h1 : BSt G V m c) (h2 : BSt G V m' c') : m = m' ∧ c = c' := by
  rcases h1.2 m' c' h2.1 with q | q
  · exact ⟨q.1.symm, q.2.symm⟩
  · rcases h2.2 m c h1.1 with q2 | q2
    · exact q2
    · exact (BTt_as q q2).elim
theorem BSt_cg (h : ∀ m c, V m c ↔ V' m c) (h1 : BSt G V m c) : BSt G V' m c := ⟨(h m c).mp h1.1, fun m' c' q => h1.2 m' c' ((h m' c').mpr q)⟩
/-- one more that is not better -/
theorem BSt_o (h : BSt G V m c) (hn : BTt G m c m' c') : BSt G (fun m1 c1 => V m1 c1 ∨ (m1 = m' ∧ c1 = c')) m c := by
  refine ⟨Or.inl h.1, fun m1 c1 q => ?_⟩
  rcases q with q | q
  · exact h.2 m1 c1 q
  · rw [q.1, q.2]; exact Or.inr hn
/-- one more that is better -/
theorem BSt_n (h : BSt G V m c) (hn : BTt G m' c' m c) : BSt G (fun m1 c1 => V m1 c1 ∨ (m1 = m' ∧ c1 = c')) m' c' := by
  refine ⟨Or.inr ⟨rfl, rfl⟩, fun m1 c1 q => ?_⟩
  rcases q with q | q
  · rcases h.2 m1 c1 q with e | e
    · rw [e.1, e.2]; exact Or.inr hn
    · refine Or.inr ?_
      unfold BTt at hn e ⊢
      omega
  · exact Or.inl q
theorem BSt_1 (h : ∀ m c, ¬ V m c) : BSt G (fun m1 c1 => V m1 c1 ∨ (m1 = m' ∧ c1 = c')) m' c' := ⟨Or.inr ⟨rfl, rfl⟩, fun m1 c1 q => q.elim (fun q => absurd q (h m1 c1)) Or.inl⟩
/-- those that begin so -/
def EXr (R : Nat → Nat → Int) (P : Nat) (y : Int) (a b d c m x : Nat) : Prop := VRg R P y a b m x ∧ d ≤ m ∧ x / 9 ^ (m - d) = c
theorem EXr_self (hd : 2 ≤ d) : EXr R P y a b d c m x ↔ (m = d ∧ x = c ∧ VRg R P y a b d c) ∨ ∃ p, p < 9 ∧ EXr R P y a b (d + 1) (9 * c + p) m x := by
  constructor
  · rintro ⟨h1, h2, h3⟩
    by_cases e : m = d
    · rw [e, Nat.sub_self, Nat.pow_zero, Nat.div_one] at h3
      rw [e, h3] at h1
      exact Or.inl ⟨e, h3, h1⟩
    · refine Or.inr ⟨x / 9 ^ (m - (d + 1)) % 9, Nat.mod_lt _ (by decide), h1, by omega, ?_⟩
      have q : x / 9 ^ (m - (d + 1)) / 9 = c := by
        rw [← h3, Nat.div_div_eq_div_mul, ← Nat.pow_succ, show (m - (d + 1)).succ = m - d by omega]
      omega
  · rintro (⟨e1, e2, h⟩ | ⟨p, hp, h1, h2, h3⟩)
    · rw [e1, e2]
      exact ⟨h, Nat.le_refl d, by rw [Nat.sub_self, Nat.pow_zero, Nat.div_one]⟩
    · refine ⟨h1, by omega, ?_⟩
      rw [show m - d = (m - (d + 1)).succ by omega, Nat.pow_succ, ← Nat.div_div_eq_div_mul, h3]
      omega
theorem EXr_no (hd : 2 ≤ d) (h : ¬ VPr R P y a b d c) : ¬ EXr R P y a b d c m x := fun q => h (by rw [← q.2.2]; exact VPr_pre hd q.2.1 q.1.2.2.2.1)
theorem EXr_6 (hd : 6 < d) : ¬ EXr R P y a b d c m x := fun q => by have := q.1.2.1; have := q.2.1; omega
end JEA
end
section
/-! ===== long fields; allParts, isBetter ===== -/
section JFA
variable {X : pm_X} {k k2 : Nat} {w0 w w1 w2 w3 w4 w5 wj w' : pm_W} {r r2 q0 q1 q2 : Option Value} {p1 p2 p3 p4 p5 i1 i2 i3 i4 i5 i6 i7 i8 z z1 z2 so : Int32} {i v j m u P t s b Q I J K a T p W N κ bm n : Nat} {l x y : Int64} {e g ch ch' cst cst' : Int} {f : Nat → Int}
theorem gV_sL_ne {a b n m : Nat} (h : ¬ (a = b ∧ n = m)) : gV (sL w a n x) b m = gV w b m := by
  unfold sL
  split
  · exact gV_sV_ne h
  · rfl
theorem gA_sL : gA (sL w a n x) b = gA w b := by
  unfold sL
  split
  · exact gA_sV
  · rfl
theorem gQ_sL : gQ (sL w a n x) b = gQ w b := by
  unfold sL
  split
  · exact gQ_sV
  · rfl
theorem FM_sL {fs : List (Nat × Nat)} {as : List Nat} (hS : SK w) (h : (a, n) ∈ fs) : FM fs as w (sL w a n x) := ⟨fun b m q => gV_sL_ne (fun e => q (by rw [← e.1, ← e.2]; exact h)), fun b _ => gA_sL, fun b => gQ_sL, SK_sL hS⟩
theorem FM_l {fs : List (Nat × Nat)} {as : List Nat} (h : FM fs as w w1) (q : (a, n) ∉ fs) : gL w1 a n = gL w a n := by unfold gL; rw [h.1 a n q]
theorem gI_sL_ne {a b n m : Nat} (h : ¬ (a = b ∧ n = m)) : gI (sL w a n x) b m = gI w b m := by unfold gI; rw [gV_sL_ne h]
def sk_l2 (a n : Nat) : Bool := match sk0[a]? with
  | some (.inr (_, fs)) => Nat.beq (sk_k (fs.getD n .null)) 2
  | _ => false
theorem SK_isL (hS : SK w) (h : sk_l2 a n = true) : ∃ z, gV w a n = .long z := by
  unfold sk_l2 at h
  cases hw : w[a]? with
  | none =>
    have e : sk0[a]? = none := by rw [← show w.map sk_e = sk0 from hS, List.getElem?_map, hw]; rfl
    rw [e] at h
    cases h
  | some q =>
    rw [SK_at hS hw] at h
    cases q with
    | inl q =>
      obtain ⟨t, q⟩ := q
      rcases q with q | q | q <;> cases h
    | inr q =>
      obtain ⟨ci, fs⟩ := q
      have h : Nat.beq (sk_k ((sk_f ci 0 fs).getD n .null)) 2 = true := h
      have h := Nat.eq_of_beq_eq_true h
      rw [List.getD_eq_getElem?_getD, sk_fget] at h
      cases hv : fs[n]? with
      | none =>
        rw [hv] at h
        cases h
      | some v =>
        rw [hv] at h
        have h : sk_k (sk_v ci (0 + n) v) = 2 := h
        rw [sk_vk] at h
        refine ⟨vL v, ?_⟩
        rw [gV_of hw hv]
        cases v <;> first | rfl | cases h
theorem gL_sL (h : ∃ z, gV w a n = .long z) : gL (sL w a n x) a n = x := by
  obtain ⟨z, hz⟩ := h
  obtain ⟨ci, fs, hw, hf⟩ := gV_inv hz (by intro q; cases q)
  unfold gL sL
  rw [hz]
  show vL (gV (sV w a n (.long x)) a n) = x
  unfold sV
  rw [hw]
  show vL (gV (w.set a (.inr (ci, fs.set n (.long x)))) a n) = x
  rw [gV_of (wk_eq hw) (by
    obtain ⟨hl, _⟩ := List.getElem?_eq_some_iff.mp hf
    exact List.getElem?_set_self hl)]
  rfl
/-! long sums -/
theorem lg_mul (hx : x.toInt = e) (hy : y.toInt = g) (h0 : 0 ≤ e * g) (h1 : e * g ≤ 1000000000000) : (x * y).toInt = e * g := by
  rw [Int64.toInt_mul, hx, hy]
  exact Int.bmod_eq_of_le (by omega) (by omega)
theorem cmp_0 : lg_cmp x y = 0 ↔ x.toInt = y.toInt := by
  unfold lg_cmp
  by_cases c : x > y
  · rw [if_pos c]
    have := Int64.lt_iff_toInt_lt.mp c
    exact ⟨fun q => absurd q (by decide), fun q => by omega⟩
  · rw [if_neg c]
    by_cases c2 : x = y
    · rw [if_pos c2, c2]
      exact ⟨fun _ => rfl, fun _ => rfl⟩
    · rw [if_neg c2]
      exact ⟨fun q => absurd q (by decide), fun q => absurd (Int64.toInt_inj.mp q) c2⟩
theorem cmp_g : 0 < lg_cmp x y ↔ y.toInt < x.toInt := by
  unfold lg_cmp
  by_cases c : x > y
  · rw [if_pos c]
    exact ⟨fun _ => Int64.lt_iff_toInt_lt.mp c, fun _ => by decide⟩
  · rw [if_neg c]
    have c' : ¬ y.toInt < x.toInt := fun q => c (Int64.lt_iff_toInt_lt.mpr q)
    by_cases c2 : x = y
    · rw [if_pos c2]
      exact ⟨fun q => absurd q (by decide), fun q => absurd q c'⟩
    · rw [if_neg c2]
      exact ⟨fun q => absurd q (by decide), fun q => absurd q c'⟩
theorem cmp_l : lg_cmp x y ≤ 0 ↔ x.toInt ≤ y.toInt := by
  have q := cmp_g (x := x) (y := y)
  rw [Int32.lt_iff_toInt_lt] at q
  rw [Int32.le_iff_toInt_le]
  omega
theorem pow100 : ∀ t, t ≤ 6 → (100 : Int) ^ t ≤ 1000000000000 ∧ 0 < (100 : Int) ^ t := by
  intro t ht
  have c : t = 0 ∨ t = 1 ∨ t = 2 ∨ t = 3 ∨ t = 4 ∨ t = 5 ∨ t = 6 := by omega
  rcases c with rfl | rfl | rfl | rfl | rfl | rfl | rfl <;> decide
theorem l1_64 : (1 : Int64).toInt = 1 := by decide +kernel
theorem l100_64 : (100 : Int64).toInt = 100 := by decide +kernel
theorem F138 (hS : SK w) (h1 : p1.toInt = t) (ht : t ≤ 6) (h : PS X k 138 0 [.int p1, pm_dead, pm_dead, pm_dead] [] w r w') : ∃ l : Int64, l.toInt = (100 : Int) ^ t ∧ r = some (.long l) ∧ w' = w := by
  have lp : ∀ (k j : Nat) (l1 : Int64) (i3 : Int32), i3.toInt = j → j ≤ t → l1.toInt = (100 : Int) ^ j → PS X k 138 4 [.int p1, .long l1, pm_dead, .int i3] [] w r w' → ∃ l : Int64, l.toInt = (100 : Int) ^ t ∧ r = some (.long l) ∧ w' = w := by
    intro k
    induction k with
    | zero => intro j l1 i3 _ _ _ h; exact (PS_0 h).elim
    | succ k ih =>
      intro j l1 i3 h3 hj hl h
      have h := U138_4 hS h
      by_cases c : p1 ≤ i3
      · rw [if_pos c] at h
        rw [Int32.le_iff_toInt_le, h1, h3] at c
        exact ⟨l1, by rw [hl, show j = t by omega], h.1, h.2⟩
      · rw [if_neg c] at h
        rw [Int32.le_iff_toInt_le, h1, h3] at c
        have q := pow100 (j + 1) (by omega)
        rw [Int.pow_succ] at q
        refine ih (j + 1) _ _ (by rw [zi_inc (n := 40) (by omega) (by omega), h3]; rfl) (by omega) ?_ h
        rw [Int.pow_succ]
        exact lg_mul hl l100_64 (by omega) (by omega)
  cases k with
  | zero => exact (PS_0 h).elim
  | succ k => exact lp k 0 1 0 z32 (Nat.zero_le _) l1_64 (U138_0 hS h)
/-- the measure: cheap, fast or none -/
def GSv (so : Int32) (cst ch : Int) (m : Nat) : Int := if so = 1 then -cst else if so = 2 then ch * (100 : Int) ^ (6 - m) else 0
theorem F137 (hS : SK w) (h1 : p1.toInt = m) (hm : 2 ≤ m ∧ m ≤ 6) (h2 : p2.toInt = cst) (h3 : l.toInt = ch) (g1 : gI w 55 1 = so) (g6 : (gI w 55 6).toInt = bm) (hb : 2 ≤ bm ∧ bm ≤ 6) (g7 : (gI w 55 7).toInt = cst') (g8 : (gL w 55 8).toInt = ch') (hc : 0 ≤ ch ∧ ch * (100 : Int) ^ (6 - m) ≤ 1000000000000) (hc' : 0 ≤ ch' ∧ ch' * (100 : Int) ^ (6 - bm) ≤ 1000000000000) (h : PS X k 137 0 [.ref 55, .int p1, .int p2, .long l, pm_dead, pm_dead, pm_dead, pm_dead, pm_dead] [] w r w') : w' = w ∧ ∃ bb : Bool, r = some (.int (b2i bb)) ∧ (bb = true ↔ GSv so cst' ch' bm < GSv so cst ch m ∨ (GSv so cst ch m = GSv so cst' ch' bm ∧ m < bm)) := by
  have e6 : (6 : Int32).toInt = 6 := by decide +kernel
  cases k with
  | zero => exact (PS_0 h).elim
  | succ k =>
    have h := U137_0 hS h
    rw [g1] at h
    have len : (GSv so cst ch m = GSv so cst' ch' bm) → (if (gI w 55 6) ≤ p1 then (r = some (.int 0) ∧ w' = w) else (r = some (.int 1) ∧ w' = w)) → w' = w ∧ ∃ bb : Bool, r = some (.int (b2i bb)) ∧ (bb = true ↔ GSv so cst' ch' bm < GSv so cst ch m ∨ (GSv so cst ch m = GSv so cst' ch' bm ∧ m < bm)) := by
      intro eg hh
      by_cases c : gI w 55 6 ≤ p1
      · rw [if_pos c] at hh
        rw [Int32.le_iff_toInt_le, g6, h1] at c
        exact ⟨hh.2, false, hh.1, ⟨fun q => Bool.noConfusion q, fun q => by omega⟩⟩
      · rw [if_neg c] at hh
        rw [Int32.le_iff_toInt_le, g6, h1] at c
        exact ⟨hh.2, true, hh.1, ⟨fun _ => Or.inr ⟨eg, by omega⟩, fun _ => rfl⟩⟩
    by_cases c1 : so = 1
    · rw [if_pos c1] at h
      have n2 : ¬ so = 2 := by rw [c1]; decide
      have g : ∀ c d m, GSv so c d m = -c := fun c d m => if_pos c1
      by_cases c2 : p2 = gI w 55 7
      · rw [if_pos c2, if_neg n2] at h
        exact len (by rw [g, g, ← h2, c2, g7]) h
      · rw [if_neg c2] at h
        have ne : cst ≠ cst' := fun e => c2 (Int32.toInt_inj.mp (by rw [h2, g7, e]))
        rw [g, g]
        by_cases c3 : gI w 55 7 ≤ p2
        · rw [if_pos c3] at h
          rw [Int32.le_iff_toInt_le, g7, h2] at c3
          exact ⟨h.2, false, h.1, ⟨fun q => Bool.noConfusion q, fun q => by omega⟩⟩
        · rw [if_neg c3] at h
          rw [Int32.le_iff_toInt_le, g7, h2] at c3
          exact ⟨h.2, true, h.1, ⟨fun _ => Or.inl (by omega), fun _ => rfl⟩⟩
    · rw [if_neg c1] at h
      by_cases c2 : so = 2
      · rw [if_pos c2] at h
        have g : ∀ c d m, GSv so c d m = d * (100 : Int) ^ (6 - m) := fun c d m => by unfold GSv; rw [if_neg c1, if_pos c2]
        obtain ⟨q1, wq, y1, h⟩ := h
        obtain ⟨x3, v3, a1, a2⟩ := F138 (t := 6 - m) hS (by rw [zi_sub e6 h1 (by omega) (by omega)]; omega) (by omega) y1
        have h := h _ a1 (by rw [a2]; exact hS)
        rw [a2] at h
        obtain ⟨q4, w5, y4, h⟩ := h
        obtain ⟨x6, v6, b1, b2⟩ := F138 (t := 6 - bm) hS (by rw [zi_sub e6 g6 (by omega) (by omega)]; omega) (by omega) y4
        have h := h _ b1 (by rw [b2]; exact hS)
        rw [b2] at h
        have p1' := (pow100 (6 - m) (by omega)).2
        have p2' := (pow100 (6 - bm) (by omega)).2
        have m1 := lg_mul h3 v3 (Int.mul_nonneg hc.1 (Int.le_of_lt p1')) hc.2
        have m2 := lg_mul g8 v6 (Int.mul_nonneg hc'.1 (Int.le_of_lt p2')) hc'.2
        by_cases c3 : lg_cmp (l * x3) (gL w 55 8 * x6) = 0
        · rw [if_pos c3] at h
          rw [cmp_0, m1, m2] at c3
          exact len (by rw [g, g, c3]) h
        · rw [if_neg c3] at h
          rw [cmp_0, m1, m2] at c3
          rw [g, g]
          by_cases c4 : lg_cmp (l * x3) (gL w 55 8 * x6) ≤ 0
          · rw [if_pos c4] at h
            rw [cmp_l, m1, m2] at c4
            exact ⟨h.2, false, h.1, ⟨fun q => Bool.noConfusion q, fun q => by omega⟩⟩
          · rw [if_neg c4] at h
            rw [cmp_l, m1, m2] at c4
            exact ⟨h.2, true, h.1, ⟨fun _ => Or.inl (by omega), fun _ => rfl⟩⟩
      · rw [if_neg c2] at h
        exact len (by unfold GSv; rw [if_neg c1, if_neg c2, if_neg c1, if_neg c2]) h
end JFA
end
