/-! ===== can a set of wants be had (the reference) ===== -/
section IRC
variable {X : pm_X} {k k2 : Nat} {w0 w w1 w2 w3 w4 w5 wj w' : pm_W} {r r2 q0 q1 q2 : Option Value} {p1 p2 p3 p4 p5 i1 i2 i3 i4 i5 i6 i7 i8 z z1 z2 x y : Int32} {i v j m u P t s b Q I J K T p W M N κ : Nat} {R R' C ask c : Nat → Nat → Int} {e g d sl : Int} {A B : Nat → Nat} {n o : Nat → Int} {S : Nat → Bool} {a : Nat → Int32}
def wAf (a : Nat → Int32) (u κ : Nat) : Nat := (wtP a u κ 0).toInt.toNat
def wBf (a : Nat → Int32) (u κ : Nat) : Nat := (wtP a u κ 1).toInt.toNat
def wNf (a : Nat → Int32) (u κ : Nat) : Int := (wtP a u κ 2).toInt
theorem ask_hi (hA : ∀ κ, κ < W → A κ < P ∧ B κ < P) (h : P ≤ i ∨ P ≤ j) : ∀ t, t ≤ W → askS A B n s t i j = 0 := by
  intro t
  induction t with
  | zero => intro _; rfl
  | succ t ih =>
    intro ht
    obtain ⟨h1, h2⟩ := hA t (by omega)
    rw [ask_s, ih (by omega), if_neg (by omega)]
    rfl
theorem ask_ge (hn : ∀ κ, κ < W → 1 ≤ n κ ∧ n κ ≤ 99) (hs : s.testBit κ = true) : ∀ t, t ≤ W → κ < t → n κ ≤ askS A B n s t (A κ) (B κ) := by
  intro t
  induction t with
  | zero => intro _ h; exact absurd h (Nat.not_lt_zero κ)
  | succ t ih =>
    intro ht hk
    rw [ask_s]
    have q := ask_b (A := A) (B := B) (s := s) (i := A κ) (j := B κ) hn t (by omega)
    have q2 := hn t (by omega)
    by_cases e : κ = t
    · subst e
      rw [if_pos ⟨hs, rfl, rfl⟩]
      omega
    · have := ih (by omega) (by omega)
      split <;> omega
theorem loR_s {a b : Nat} (hS : SK w) (ha : a < 10) (hb : b < 10) (hx : x.toInt = (10 * a + b : Nat)) (i j : Nat) (hi : i < 10) (hj : j < 10) : loR (aS w 160 x y) i j = if i = a ∧ j = b then y.toInt else loR w i j := by
  unfold loR
  rw [gA_aS (SK_isA hS (by decide +kernel)), i_nat hx, getD_set (by rw [l160 hS]; omega)]
  by_cases e : i = a ∧ j = b
  · rw [if_pos (by omega), if_pos e]
  · rw [if_neg (by omega), if_neg e]
theorem lo_163 : loR (aS w 163 x y) = loR w := by funext i j; unfold loR; rw [gA_aS_ne (by decide)]
theorem ov_160 : ovR (aS w 160 x y) = ovR w := by funext i; unfold ovR; rw [gA_aS_ne (by decide)]
/-- what is asked, laid -/
theorem F285_6 (hu : u ≤ 1) (hp : i1.toInt = (610 + 132 * u : Nat)) (hW : (al w0 (611 + 132 * u)).toInt = W) (hW7 : W ≤ 7) (hP9 : P ≤ 9) (hw : ∀ κ, κ < W → (wtP (al w0) u κ 0).toInt = A κ ∧ (wtP (al w0) u κ 1).toInt = B κ ∧ (wtP (al w0) u κ 2).toInt = n κ ∧ A κ < P ∧ B κ < P ∧ 1 ≤ n κ ∧ n κ ≤ 99) (hm : MSK i2 7 (fun b => s.testBit b)) : ∀ (k t : Nat) (w : pm_W) (i3 : Int32) (u4 u5 : Value), FM [] [160, 163] w0 w → i3.toInt = t → t ≤ W → (∀ i j, i < 10 → j < 10 → loR w i j = askS A B n s t i j) → (∀ p, p < 10 → ovR w p = surS A B n s t p) → PS X k 285 6 [.ref 147, .int i1, .int i2, .int i3, u4, u5] [] w r w' → r = none ∧ FM [] [160, 163] w0 w' ∧ (∀ i j, i < 10 → j < 10 → loR w' i j = askS A B n s W i j) ∧ ∀ p, p < 10 → ovR w' p = surS A B n s W p := by
  have hn : ∀ κ, κ < W → 1 ≤ n κ ∧ n κ ≤ 99 := fun κ hκ => (hw κ hκ).2.2.2.2.2
  intro k
  induction k with
  | zero => intro t w i3 u4 u5 _ _ _ _ _ h; exact (PS_0 h).elim
  | succ k ih =>
    intro t w i3 u4 u5 fm h3 ht hl ho h
    have hS : SK w := fm.2.2.2
    have ea : al w = al w0 := al_FM fm (by decide)
    obtain ⟨_, h⟩ := U285_6 hS h
    have eW : (aG w 148 (i1 + 1)).toInt = W := by
      rw [aG_n (m := 611 + 132 * u) (by rw [zi_add hp o32 (by omega) (by omega)]; omega)]
      show (al w _).toInt = _
      rw [ea]; exact hW
    by_cases c : aG w 148 (i1 + 1) ≤ i3
    · rw [if_pos c] at h
      rw [Int32.le_iff_toInt_le, eW, h3] at c
      have e : t = W := by omega
      rw [e] at hl ho
      rw [h.2]
      exact ⟨h.1, fm, hl, ho⟩
    · rw [if_neg c] at h
      rw [Int32.le_iff_toInt_le, eW, h3] at c
      have htW : t < W := by omega
      have e1 : (i3 + 1).toInt = ((t + 1 : Nat) : Int) := by rw [zi_inc (n := 40) (by omega) (by omega), h3]; rfl
      have tb : ((i2 >>> (i3 &&& 31)) &&& 1) = 0 ↔ s.testBit t = false := MSK_f hm h3 (by omega) (by decide)
      by_cases c2 : ((i2 >>> (i3 &&& 31)) &&& 1) = 0
      · rw [if_pos c2] at h
        have hb := tb.mp c2
        refine ih (t + 1) w _ _ _ fm e1 (by omega) (fun i j hi hj => ?_) (fun p hp => ?_) h
        · rw [ask_s, hb, if_neg (fun z => Bool.noConfusion z.1), hl i j hi hj]; omega
        · rw [sur_s, hb, if_neg Bool.false_ne_true, ho p hp]; omega
      · rw [if_neg c2] at h
        have hb : s.testBit t = true := by
          cases hh : s.testBit t with
          | true => rfl
          | false => exact absurd (tb.mpr hh) c2
        obtain ⟨b1, b2, b3, c1, c3, c4, c5⟩ := hw t htW
        rw [← ea] at b1 b2 b3
        have F : ∀ (w1 : pm_W) (c : Nat) (p : Int32) (r1 : Option Value) (w2 : pm_W), SK w1 → al w1 = al w → p.toInt = c → c < 4 → PS X k 224 0 [.ref 147, .int i1, .int i3, .int p] [] w1 r1 w2 → r1 = some (.int (wtP (al w) u t c)) ∧ w2 = w1 := by
          intro w1 c p r1 w2 S1 hw1 hc hc4 y
          have q := F224w S1 hu hp h3 (by omega) hc hc4 y
          rw [hw1] at q
          exact q
        have h := use_p hS h (fun _ _ y => F w 0 0 _ _ hS rfl z32 (by decide) y)
        have h := use_p hS h (fun _ _ y => F w 1 1 _ _ hS rfl o32 (by decide) y)
        obtain ⟨_, h⟩ := h
        have h := use_p hS h (fun _ _ y => F w 2 2 _ _ hS rfl two32 (by decide) y)
        obtain ⟨xa, hxa⟩ : ∃ xa, xa = wtP (al w) u t 0 := ⟨_, rfl⟩
        obtain ⟨xb, hxb⟩ : ∃ xb, xb = wtP (al w) u t 1 := ⟨_, rfl⟩
        obtain ⟨xn, hxn⟩ : ∃ xn, xn = wtP (al w) u t 2 := ⟨_, rfl⟩
        rw [← hxa, ← hxb, ← hxn] at h
        rw [← hxa] at b1
        rw [← hxb] at b2
        rw [← hxn] at b3
        obtain ⟨_, h⟩ := h
        have h := h _ rfl
        have A9 : A t < 10 := by omega
        have B9 : B t < 10 := by omega
        have ix := ix10 b1 b2 A9 B9
        have S1 : SK (aS w 160 (10 * xa + xb) (aG w 160 (10 * xa + xb) + xn)) := SK_aS hS
        have ea1 : al (aS w 160 (10 * xa + xb) (aG w 160 (10 * xa + xb) + xn)) = al w := by funext q; unfold al; rw [gA_aS_ne (by decide)]
        obtain ⟨_, h⟩ := h
        have h := use_p S1 h (fun _ _ y => F _ 2 2 _ _ S1 ea1 two32 (by decide) y)
        rw [← hxn] at h
        obtain ⟨_, h⟩ := h
        have h := h _ rfl
        obtain ⟨W1, hW1⟩ : ∃ W1, W1 = aS w 160 (10 * xa + xb) (aG w 160 (10 * xa + xb) + xn) := ⟨_, rfl⟩
        rw [← hW1] at h S1 ea1
        have S2 : SK (aS W1 163 xa (aG W1 163 xa - xn)) := SK_aS S1
        have ea2 : al (aS W1 163 xa (aG W1 163 xa - xn)) = al w := by funext q; unfold al; rw [gA_aS_ne (by decide)]; exact congrFun ea1 q
        obtain ⟨_, h⟩ := h
        have h := use_p S2 h (fun _ _ y => F _ 2 2 _ _ S2 ea2 two32 (by decide) y)
        rw [← hxn] at h
        obtain ⟨_, h⟩ := h
        have h := h _ rfl
        obtain ⟨W2, hW2⟩ : ∃ W2, W2 = aS W1 163 xa (aG W1 163 xa - xn) := ⟨_, rfl⟩
        rw [← hW2] at h S2
        obtain ⟨q1, q2⟩ := ask_b (A := A) (B := B) (s := s) (i := A t) (j := B t) hn t (by omega)
        have vl : (aG w 160 (10 * xa + xb)).toInt = askS A B n s t (A t) (B t) := by rw [aG_n ix]; exact hl _ _ A9 B9
        have vl2 : (aG w 160 (10 * xa + xb) + xn).toInt = askS A B n s t (A t) (B t) + n t := zi_add vl b3 (by omega) (by omega)
        have lo1 := loR_s (y := aG w 160 (10 * xa + xb) + xn) hS A9 B9 ix
        rw [← hW1] at lo1
        have eo1 : ovR W1 = ovR w := by rw [hW1, ov_160]
        obtain ⟨q5, q6⟩ := sur_b (A := A) (B := B) (s := s) (p := A t) hn t (by omega)
        obtain ⟨q7, q8⟩ := sur_b (A := A) (B := B) (s := s) (p := B t) hn t (by omega)
        have sA : (aG W1 163 xa).toInt = surS A B n s t (A t) := by
          rw [aG_n b1]
          show ovR W1 (A t) = _
          rw [eo1]; exact ho _ A9
        have s1 : (aG W1 163 xa - xn).toInt = surS A B n s t (A t) - n t := zi_sub sA b3 (by omega) (by omega)
        have sp2 : ∀ q, ovR W2 q = if q = A t then surS A B n s t (A t) - n t else ovR w q := fun q => by
          rw [hW2, ovR_s S1 b1 A9, s1, eo1]
        have sB : (aG W2 163 xb).toInt = if B t = A t then surS A B n s t (A t) - n t else surS A B n s t (B t) := by
          rw [aG_n b2]
          show ovR W2 (B t) = _
          rw [sp2, ho _ B9]
        have s2 : (aG W2 163 xb + xn).toInt = (if B t = A t then surS A B n s t (A t) - n t else surS A B n s t (B t)) + n t := zi_add sB b3 (by split <;> omega) (by split <;> omega)
        have sp3 := ovR_s (y := aG W2 163 xb + xn) S2 b2 B9
        have f4 : FM [] [160, 163] w (aS W2 163 xb (aG W2 163 xb + xn)) := by
          have f1 : FM [] [160, 163] w W1 := by rw [hW1]; exact FM_aS hS (by decide)
          have f2 : FM [] [160, 163] W1 W2 := by rw [hW2]; exact FM_aS S1 (by decide)
          exact FM_trans f1 (FM_trans f2 (FM_aS S2 (by decide)))
        refine ih (t + 1) _ _ _ _ (FM_trans fm f4) e1 (by omega) (fun i j hi hj => ?_) (fun p hp => ?_) h
        · rw [lo_163, hW2, lo_163, lo1 i j hi hj, vl2, ask_s, hb, hl i j hi hj]
          by_cases e : i = A t ∧ j = B t
          · rw [if_pos e, if_pos ⟨rfl, e.1.symm, e.2.symm⟩, e.1, e.2]
          · rw [if_neg e, if_neg (fun z => e ⟨z.2.1.symm, z.2.2.symm⟩)]; omega
        · rw [sp3 p, s2, sp2, sur_s, hb, if_pos rfl]
          by_cases e1 : p = B t
          · rw [if_pos e1, if_pos e1.symm, e1]
            by_cases e2 : B t = A t
            · rw [if_pos e2, if_pos e2.symm, e2]; omega
            · rw [if_neg e2, if_neg (show ¬ A t = B t from fun z => e2 z.symm)]; omega
          · rw [if_neg e1, if_neg (show ¬ B t = p from fun z => e1 z.symm)]
            by_cases e2 : p = A t
            · rw [if_pos e2, if_pos e2.symm, e2]; omega
            · rw [if_neg e2, if_neg (show ¬ A t = p from fun z => e2 z.symm), ho p hp]; omega
theorem F285 (hS : SK w) (hu : u ≤ 1) (hp : p1.toInt = (610 + 132 * u : Nat)) (hW : (al w (611 + 132 * u)).toInt = W) (hW7 : W ≤ 7) (hP9 : P ≤ 9) (hw : ∀ κ, κ < W → (wtP (al w) u κ 0).toInt = A κ ∧ (wtP (al w) u κ 1).toInt = B κ ∧ (wtP (al w) u κ 2).toInt = n κ ∧ A κ < P ∧ B κ < P ∧ 1 ≤ n κ ∧ n κ ≤ 99) (hm : MSK p2 7 (fun b => s.testBit b)) (h : PS X k 285 0 [.ref 147, .int p1, .int p2, pm_dead, pm_dead, pm_dead] [] w r w') : r = none ∧ FM [] [160, 161, 162, 163] w w' ∧ (∀ i j, i < 10 → j < 10 → loR w' i j = askS A B n s W i j) ∧ (∀ p, p < 10 → ovR w' p = surS A B n s W p) ∧ ∀ i j, i < 10 → j < 10 → moR w' i j = 0 ∧ fwR w' i j = 0 := by
  cases k with
  | zero => exact (PS_0 h).elim
  | succ k =>
    obtain ⟨q1, w2, y, h⟩ := U285_0 hS h
    obtain ⟨a1, f1, z1, z2⟩ := F277 hS y
    have h := h a1 f1.2.2.2
    have ea : al w2 = al w := al_FM f1 (by decide)
    obtain ⟨b1, b2, b3, b4⟩ := F285_6 (w0 := w2) hu hp (by rw [ea]; exact hW) hW7 hP9 (by rw [ea]; exact hw) hm k 0 w2 0 _ _ (FM_refl f1.2.2.2) z32 (Nat.zero_le _) (fun i j hi hj => by
      unfold loR
      rw [(z1 _ (by omega)).1, z32]
      rfl) (fun p hp => by
      unfold ovR
      rw [z2 p hp, z32]
      rfl) h
    refine ⟨b1, FM_trans f1 (FM_mono b2 (by intro x hx; cases hx) (by decide)), b3, b4, fun i j hi hj => ⟨?_, ?_⟩⟩
    · rw [mo_fm b2 (by decide)]
      unfold moR
      rw [(z1 _ (by omega)).2.1, z32]
    · rw [fw_fm b2 (by decide)]
      unfold fwR
      rw [(z1 _ (by omega)).2.2, z32]
/-- the rooms without one, with one more between two -/
def rmX (R : Nat → Nat → Int) (wo mf mt : Int) (i j : Nat) : Int := if (i : Int) = wo ∨ (j : Int) = wo then 0 else R i j + (if (i : Int) = mf ∧ (j : Int) = mt then 1 else 0)
def LAYx (R : Nat → Nat → Int) (P : Nat) (sl : Int) (a b i j : Nat) : Int := if (i < a ∧ j < P) ∨ (i = a ∧ j < b) then R i j else if (i < a ∧ j = 9) ∨ (i = 9 ∧ j < a) then sl else 0
theorem F284_l (hu : u ≤ 1) (hp : i1.toInt = (610 + 132 * u : Nat)) (hP : (al w0 (610 + 132 * u)).toInt = P) (hP9 : P ≤ 9) (hsl : i3.toInt = sl) (hs9 : 0 ≤ sl ∧ sl ≤ 99) (hR : ∀ i j, i < P → j < P → 0 ≤ rmA w0 u i j ∧ rmA w0 u i j ≤ 99) (hRR : R = rmX (rmA w0 u) i4.toInt (gI w0 147 31).toInt (gI w0 147 32).toInt) (hW7 : W ≤ 7) (hAB : ∀ κ, κ < W → A κ < P ∧ B κ < P ∧ 1 ≤ n κ ∧ n κ ≤ 99) (hlo : ∀ i j, i < 10 → j < 10 → loR w0 i j = askS A B n s W i j) (hov : ∀ p, p < 10 → ovR w0 p = surS A B n s W p) (hfw : ∀ i j, i < 10 → j < 10 → fwR w0 i j = 0) : ∀ k : Nat,
    (∀ (w : pm_W) (a : Nat) (i5 : Int32) (u6 : Value), FM [] [161] w0 w → i5.toInt = a → a ≤ P → (∀ i j, i < 10 → j < 10 → moR w i j = LAYx R P sl a 0 i j) → (∀ i j, i < a → j < P → askS A B n s W i j ≤ R i j) → PS X k 284 69 [.ref 147, .int i1, .int i2, .int i3, .int i4, .int i5, u6] [] w r w' → FM [] [161, 162, 163, 164] w0 w' ∧ ∃ b : Bool, r = some (.int (b2i b)) ∧ (b = true ↔ CANH R P W A B n s sl)) ∧
    (∀ (w : pm_W) (a b : Nat) (i5 i6 : Int32), FM [] [161] w0 w → i5.toInt = a → a < P → i6.toInt = b → b ≤ P → (∀ i j, i < 10 → j < 10 → moR w i j = LAYx R P sl a b i j) → (∀ i j, (i < a ∧ j < P) ∨ (i = a ∧ j < b) → askS A B n s W i j ≤ R i j) → PS X k 284 83 [.ref 147, .int i1, .int i2, .int i3, .int i4, .int i5, .int i6] [] w r w' → FM [] [161, 162, 163, 164] w0 w' ∧ ∃ b : Bool, r = some (.int (b2i b)) ∧ (b = true ↔ CANH R P W A B n s sl)) := by
  have hn : ∀ κ, κ < W → 1 ≤ n κ ∧ n κ ≤ 99 := fun κ hκ => (hAB κ hκ).2.2
  have hAB' : ∀ κ, κ < W → A κ < P ∧ B κ < P := fun κ hκ => ⟨(hAB κ hκ).1, (hAB κ hκ).2.1⟩
  have e90 : (90 : Int32).toInt = 90 := by decide +kernel
  have Rb : ∀ i j, i < P → j < P → 0 ≤ R i j ∧ R i j ≤ 100 := by
    intro i j hi hj
    have q := hR i j hi hj
    rw [hRR]
    unfold rmX
    split
    · omega
    · split <;> omega
  intro k
  induction k with
  | zero => exact ⟨fun _ _ _ _ _ _ _ _ _ h => (PS_0 h).elim, fun _ _ _ _ _ _ _ _ _ _ _ _ h => (PS_0 h).elim⟩
  | succ k ih =>
    obtain ⟨ih69, ih83⟩ := ih
    refine ⟨fun w a i5 u6 fm h5 ha hf hc h => ?_, fun w a b i5 i6 fm h5 ha h6 hb hf hc h => ?_⟩
    · have hS : SK w := fm.2.2.2
      obtain ⟨_, h⟩ := U284_69 hS h
      have eP : aG w 148 i1 = al w0 (610 + 132 * u) := by rw [aG_n hp, FM_a fm (by decide)]; rfl
      rw [eP] at h
      by_cases q : al w0 (610 + 132 * u) ≤ i5
      · rw [if_pos q] at h
        rw [Int32.le_iff_toInt_le, hP, h5] at q
        have e : a = P := by omega
        rw [e] at hf hc
        obtain ⟨q1, w2, y, h⟩ := h
        have el : ∀ i j, i < 10 → j < 10 → loR w i j = askS A B n s W i j := fun i j hi hj => by rw [lo_fm fm (by decide)]; exact hlo i j hi hj
        have eo : ∀ p, p < 10 → ovR w p = surS A B n s W p := fun p hp => by rw [ov_fm fm (by decide)]; exact hov p hp
        have ef : ∀ i j, i < 10 → j < 10 → fwR w i j = 0 := fun i j hi hj => by rw [fw_fm fm (by decide)]; exact hfw i j hi hj
        have cc : ∀ i j, i < 10 → j < 10 → cR w i j = capS R (askS A B n s W) P sl i j := by
          intro i j hi hj
          unfold cR
          rw [hf i j hi hj, el i j hi hj]
          unfold LAYx capS
          by_cases q1 : i < P ∧ j < P
          · rw [if_pos (by omega), if_pos q1]
            have := hc i j q1.1 q1.2
            unfold psI
            omega
          · rw [if_neg (by omega), if_neg q1, ask_hi hAB' (by omega) W (Nat.le_refl _)]
            by_cases q2 : (i < P ∧ j = 9) ∨ (i = 9 ∧ j < P)
            · rw [if_pos q2]; omega
            · rw [if_neg q2]; omega
        have cb := capS_b (R := R) (ask := askS A B n s W) (P := P) (sl := sl) (fun i j hi hj => ⟨by have := (Rb i j hi hj).2; omega, (ask_b hn W (Nat.le_refl _)).1⟩) hs9
        have e0 : EV0 w := by
          refine ⟨fun i j hi hj => ?_, fun p hp => ?_⟩
          · rw [el i j hi hj, cc i j hi hj, hf i j hi hj]
            have q1 := ask_b (A := A) (B := B) (s := s) (i := i) (j := j) hn W (Nat.le_refl _)
            have q2 := cb i j
            have q3 : -1000000 ≤ LAYx R P sl P 0 i j ∧ LAYx R P sl P 0 i j ≤ 1000000 := by
              unfold LAYx
              split
              · rename_i hh
                have := Rb i j (by omega) (by omega)
                omega
              · split <;> omega
            omega
          · rw [eo p hp]
            have := sur_b (A := A) (B := B) (s := s) (p := p) hn W (Nat.le_refl _)
            omega
        obtain ⟨f2, b, b1, b2, b3, b4⟩ := F278 hS e0 ef (fun i j hi hj _ => by rw [cc i j hi hj]; exact (cb i j).1) y
        have h := h _ b1 f2.2.2.2
        rw [h.2]
        refine ⟨FM_trans (FM_mono fm (by intro x hx; cases hx) (by decide)) (FM_mono f2 (by intro x hx; cases hx) (by decide)), b, h.1, ?_⟩
        have cg : ∀ S : Nat → Bool, CUTo (cR w) (ovR w) S 10 = CUTo (capS R (askS A B n s W) P sl) (surS A B n s W) S 10 := by
          intro S
          unfold CUTo
          rw [cutC_cg cc, suI_cg (g := fun a => bz (!S a) (psI (surS A B n s W a)) + bz (S a) (psI (-surS A B n s W a))) 10 (fun p hp => by rw [eo p hp])]
        have sm : suI (fun p => psI (ovR w p)) 10 = suI (fun p => psI (surS A B n s W p)) 10 := suI_cg 10 (fun p hp => by rw [eo p hp])
        rw [sm] at b2
        have b2 : MCo (capS R (askS A B n s W) P sl) (surS A B n s W) 10 (suI (fun p => psI (surS A B n s W p)) 10 - suI (fun p => psI (ovR w2 p)) 10) := ⟨fun S => by rw [← cg]; exact b2.1 S, b2.2.elim (fun S q => ⟨S, by rw [← cg]; exact q⟩)⟩
        rw [b4]
        constructor
        · intro hz
          refine ⟨hc, ?_⟩
          have z0 : suI (fun p => psI (ovR w2 p)) 10 = 0 := suI_z 10 (fun p hp => by have := hz p hp; unfold psI; omega)
          rw [z0] at b2
          rw [show suI (fun p => psI (surS A B n s W p)) 10 = suI (fun p => psI (surS A B n s W p)) 10 - 0 by omega]
          exact b2
        · intro hz p hp
          have u := MCo_uq b2 hz.2
          have q := suI_0 (n := fun p => psI (ovR w2 p)) 10 (fun p _ => psI_0) (by omega) p hp
          unfold psI at q
          omega
      · rw [if_neg q] at h
        rw [Int32.le_iff_toInt_le, hP, h5] at q
        exact ih83 w a 0 i5 0 fm h5 (by omega) z32 (Nat.zero_le _) hf (fun i j hij => hc i j (by omega) (by omega)) h
    · have hS : SK w := fm.2.2.2
      obtain ⟨_, h⟩ := U284_83 hS h
      have eP : aG w 148 i1 = al w0 (610 + 132 * u) := by rw [aG_n hp, FM_a fm (by decide)]; rfl
      rw [eP] at h
      by_cases q : al w0 (610 + 132 * u) ≤ i6
      · rw [if_pos q] at h
        rw [Int32.le_iff_toInt_le, hP, h6] at q
        have e : b = P := by omega
        rw [e] at hf hc
        obtain ⟨_, h⟩ := h
        obtain ⟨_, h⟩ := h _ rfl
        have h := h _ rfl
        have S1 : SK (aS w 161 (10 * i5 + 9) i3) := SK_aS hS
        have x1 : (10 * i5 + 9).toInt = (10 * a + 9 : Nat) := ix10 h5 nine32 (by omega) (by decide)
        have x2 : (90 + i5).toInt = (10 * 9 + a : Nat) := by rw [zi_add e90 h5 (by omega) (by omega)]; omega
        refine ih69 _ (a + 1) _ _ (FM_trans fm (FM_trans (FM_aS hS (by decide)) (FM_aS S1 (by decide)))) (by rw [zi_inc (n := 40) (by omega) (by omega), h5]; rfl) (by omega) (fun i j hi hj => ?_) (fun i j hi hj => hc i j (by omega)) h
        rw [moR_s S1 (by decide) (show a < 10 by omega) x2 i j hi hj, moR_s hS (show a < 10 by omega) (by decide) x1 i j hi hj, hf i j hi hj, hsl]
        unfold LAYx
        by_cases k1 : i = 9 ∧ j = a
        · rw [if_pos k1, if_neg (by omega), if_pos (by omega)]
        · rw [if_neg k1]
          by_cases k2 : i = a ∧ j = 9
          · rw [if_pos k2, if_neg (by omega), if_pos (by omega)]
          · rw [if_neg k2]
            by_cases k3 : (i < a ∧ j < P) ∨ (i = a ∧ j < P)
            · rw [if_pos k3, if_pos (by omega)]
            · rw [if_neg k3, if_neg (show ¬ ((i < a + 1 ∧ j < P) ∨ (i = a + 1 ∧ j < 0)) by omega)]
              by_cases k4 : (i < a ∧ j = 9) ∨ (i = 9 ∧ j < a)
              · rw [if_pos k4, if_pos (by omega)]
              · rw [if_neg k4, if_neg (by omega)]
      · rw [if_neg q] at h
        rw [Int32.le_iff_toInt_le, hP, h6] at q
        have ix := ix10 h5 h6 (show a < 10 by omega) (show b < 10 by omega)
        have st : ∀ mv : Int32, mv.toInt = R a b → (aI w 161 ((10 * i5) + i6) ∧ (∀ w3 : pm_W, w3 = aS w 161 ((10 * i5) + i6) mv → (aI w3 160 ((10 * i5) + i6) ∧ (aI w3 161 ((10 * i5) + i6) ∧ (if (aG w3 160 ((10 * i5) + i6)) ≤ (aG w3 161 ((10 * i5) + i6)) then (PS X k 284 83 [.ref 147, .int i1, .int i2, .int i3, .int i4, .int i5, .int (i6 + 1)] [] w3 r w') else (r = some (.int 0) ∧ w' = w3)))))) → FM [] [161, 162, 163, 164] w0 w' ∧ ∃ b : Bool, r = some (.int (b2i b)) ∧ (b = true ↔ CANH R P W A B n s sl) := by
          intro mv hmv h
          obtain ⟨_, h⟩ := h
          obtain ⟨_, _, h⟩ := h _ rfl
          have f1 : FM [] [161] w (aS w 161 ((10 * i5) + i6) mv) := FM_aS hS (by decide)
          have ms := moR_s (y := mv) hS (show a < 10 by omega) (show b < 10 by omega) ix
          have v1 : (aG (aS w 161 ((10 * i5) + i6) mv) 160 ((10 * i5) + i6)).toInt = askS A B n s W a b := by
            rw [aG_n ix]
            show loR _ a b = _
            rw [lo_fm f1 (by decide), lo_fm fm (by decide)]
            exact hlo a b (by omega) (by omega)
          have v2 : (aG (aS w 161 ((10 * i5) + i6) mv) 161 ((10 * i5) + i6)).toInt = R a b := by
            rw [aG_n ix]
            show moR _ a b = _
            rw [ms a b (by omega) (by omega), if_pos ⟨rfl, rfl⟩, hmv]
          by_cases c : aG (aS w 161 ((10 * i5) + i6) mv) 160 ((10 * i5) + i6) ≤ aG (aS w 161 ((10 * i5) + i6) mv) 161 ((10 * i5) + i6)
          · rw [if_pos c] at h
            rw [Int32.le_iff_toInt_le, v1, v2] at c
            refine ih83 _ a (b + 1) i5 _ (FM_trans fm f1) h5 ha (by rw [zi_inc (n := 40) (by omega) (by omega), h6]; rfl) (by omega) (fun i j hi hj => ?_) (fun i j hij => ?_) h
            · rw [ms i j hi hj, hf i j hi hj, hmv]
              unfold LAYx
              by_cases k1 : i = a ∧ j = b
              · rw [if_pos k1, if_pos (by omega), k1.1, k1.2]
              · rw [if_neg k1]
                by_cases k3 : (i < a ∧ j < P) ∨ (i = a ∧ j < b)
                · rw [if_pos k3, if_pos (by omega)]
                · rw [if_neg k3, if_neg (show ¬ ((i < a ∧ j < P) ∨ (i = a ∧ j < b + 1)) by omega)]
            · by_cases k1 : i = a ∧ j = b
              · rw [k1.1, k1.2]; exact c
              · exact hc i j (by omega)
          · rw [if_neg c] at h
            rw [Int32.le_iff_toInt_le, v1, v2] at c
            rw [h.2]
            exact ⟨FM_mono (FM_trans fm f1) (by intro x hx; cases hx) (by decide), false, h.1, fun z => Bool.noConfusion z, fun hz => absurd (hz.1 a b ha (by omega)) c⟩
        have io : i5 = i4 ↔ (a : Int) = i4.toInt := ⟨fun e => by rw [← e, h5], fun e => Int32.toInt_inj.mp (by rw [h5, e])⟩
        have jo : i6 = i4 ↔ (b : Int) = i4.toInt := ⟨fun e => by rw [← e, h6], fun e => Int32.toInt_inj.mp (by rw [h6, e])⟩
        by_cases c1 : i5 = i4
        · rw [if_pos c1] at h
          refine st 0 ?_ h
          rw [hRR]
          unfold rmX
          rw [if_pos (Or.inl (io.mp c1)), z32]
        · rw [if_neg c1] at h
          by_cases c2 : i6 = i4
          · rw [if_pos c2] at h
            refine st 0 ?_ h
            rw [hRR]
            unfold rmX
            rw [if_pos (Or.inr (jo.mp c2)), z32]
          · rw [if_neg c2] at h
            have h := use_p hS h (fun _ _ y => F231n hS hp hu h5 h6 (by omega) (by omega) y)
            have ea : al w = al w0 := al_FM fm (by decide)
            have ed : dR w = dR w0 := by funext q; unfold dR; rw [FM_a fm (by decide)]
            have g31 : gI w 147 31 = gI w0 147 31 := FM_i fm (by simp)
            have g32 : gI w 147 32 = gI w0 147 32 := FM_i fm (by simp)
            rw [ea, ed, g31, g32] at h
            have vr : (rmI (fun k => al w0 (610 + 132 * u + k)) (dR w0) a b).toInt = rmA w0 u a b := rfl
            have qr := hR a b ha (by omega)
            have eR : R a b = rmA w0 u a b + (if (a : Int) = (gI w0 147 31).toInt ∧ (b : Int) = (gI w0 147 32).toInt then 1 else 0) := by
              rw [hRR]
              unfold rmX
              rw [if_neg (fun z => z.elim (fun z => c1 (io.mpr z)) (fun z => c2 (jo.mpr z)))]
            by_cases c3 : i5 = gI w0 147 31
            · rw [if_pos c3] at h
              by_cases c4 : i6 = gI w0 147 32
              · rw [if_pos c4] at h
                refine st _ ?_ h
                rw [eR, if_pos ⟨by rw [← c3, h5], by rw [← c4, h6]⟩, zi_add vr o32 (by omega) (by omega)]
              · rw [if_neg c4] at h
                refine st _ ?_ h
                rw [eR, if_neg (fun z => c4 (Int32.toInt_inj.mp (by rw [h6, z.2]))), zi_add vr z32 (by omega) (by omega)]
            · rw [if_neg c3] at h
              refine st _ ?_ h
              rw [eR, if_neg (fun z => c3 (Int32.toInt_inj.mp (by rw [h5, z.1]))), zi_add vr z32 (by omega) (by omega)]
end IRC
