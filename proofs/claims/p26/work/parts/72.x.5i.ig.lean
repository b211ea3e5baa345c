/-! ===== the class's flows: pushing along, the most that goes through ===== -/
section IGP
variable {X : pm_X} {k k2 : Nat} {w0 w w1 w2 w3 w4 w' : pm_W} {r r2 q0 q1 q2 : Option Value} {p1 p2 p3 p4 i1 i2 i3 i4 i5 i6 z z1 z2 x y : Int32} {i v j m u P t s b Q B I J K n a T p : Nat} {ρ : Nat → Nat} {c : Nat → Nat → Int} {d : Int}
def prC (w : pm_W) (x : Nat) : Nat := (cmF w x).toInt.toNat
def lbC (w : pm_W) (x : Nat) : Bool := decide (cmF w x ≠ -1)
theorem frC_fm {fs : List (Nat × Nat)} {as : List Nat} (h : FM fs as w w') (n : 80 ∉ as) : frC w' = frC w := by
  funext a b
  unfold frC
  rw [FM_a h n]
theorem QI_PTH (hQ : QI w0 w s B ρ) : PTH 12 (prC w) (lbC w) (fun x => decide (x = s)) ρ := by
  intro x hx hl
  rcases hQ.2.2.2.2.2.2 x hx (of_decide_eq_true hl) with h | ⟨p, h1, h2, h3, h4, h5⟩
  · exact Or.inl (decide_eq_true h)
  · right
    have e : prC w x = p := by unfold prC; omega
    rw [e]
    exact ⟨h1, decide_eq_true h3, h4⟩
theorem QI_rho (hQ : QI w0 w s B ρ) (hx : a < 12) (hl : cmF w a ≠ -1) : ρ a < 12 := by
  obtain ⟨j, h1, h2⟩ := hQ.2.2.2.2.2.1 a hx hl
  obtain ⟨x', c1, c2, c3, c4⟩ := hQ.2.2.2.2.1 j h1
  have e : x' = a := by omega
  rw [e] at c4
  have := hQ.2.1
  omega
theorem QI_pr (hQ : QI w0 w s B ρ) (hx : a < 12) (hl : cmF w a ≠ -1) (hne : a ≠ s) : (cmF w a).toInt = prC w a ∧ prC w a < 12 ∧ 0 < frC w0 (prC w a) a ∧ prC w a ≠ a := by
  rcases hQ.2.2.2.2.2.2 a hx hl with h | ⟨p, h1, h2, h3, h4, h5⟩
  · exact absurd h hne
  · have e : prC w a = p := by unfold prC; omega
    rw [e]
    exact ⟨h2, h1, h5, fun e => by rw [e] at h4; omega⟩
theorem frC_s (hS : SK w) (ha : a < 12) (hb : b < 12) (hx : x.toInt = (12 * a + b : Nat)) (i j : Nat) (hi : i < 12) (hj : j < 12) : frC (aS w 80 x y) i j = if i = a ∧ j = b then y.toInt else frC w i j := by
  unfold frC
  rw [gA_aS (SK_isA hS (by decide +kernel)), i_nat hx, getD_set (by rw [l80 hS]; omega)]
  by_cases e : i = a ∧ j = b
  · rw [if_pos (by omega), if_pos e]
  · rw [if_neg (by omega), if_neg e]
theorem FLW_hi (hF : FLW c (frC w) 12) (hc : ∀ a b, a < 12 → b < 12 → c a b + c b a ≤ 1000000) (ha : a < 12) (hb : b < 12) (hne : a ≠ b) : 0 ≤ frC w a b ∧ frC w a b ≤ 1000000 := by
  have q1 := hF.1 a b ha hb hne
  have q2 := hF.1 b a hb ha (fun e => hne e.symm)
  have q3 := hF.2 a b ha hb
  have q4 := hc a b ha hb
  omega
/-- the second way back -/
theorem F166_66 (hS : SK w) (hQ : QI w0 w s B ρ) (hl : cmF w t ≠ -1) (ht : t < 12) (h1 : i1.toInt = s) (h3 : i3.toInt = d) (hd : 0 < d) (hd2 : d ≤ 1000000) (hc : ∀ a b, a < 12 → b < 12 → c a b + c b a ≤ 1000000) (hJ : J ≤ 12) (hJs : J < 12 → itr (prC w) t J = s) (hJn : ∀ i, i < J → itr (prC w) t i ≠ s) (hlb : lbC w t = true) : ∀ (k : Nat) (wj : pm_W) (j : Nat) (i4 i5 : Int32) (u6 : Value), FM [] [80] w wj → i4.toInt = (itr (prC w) t j : Nat) → i5.toInt = j → j ≤ J → PSJ c (frC w) (frC wj) 12 (prC w) t J j d → PS X k 166 66 [.ref 79, .int i1, .int i2, .int i3, .int i4, .int i5, u6] [] wj r w' → FM [] [80] w w' ∧ r = some (.int i3) ∧ PSJ c (frC w) (frC w') 12 (prC w) t J J d := by
  have e12 : (12 : Int32).toInt = 12 := by decide +kernel
  have hP := QI_PTH hQ
  have hroot : ∀ i, i < J → (fun x => decide (x = s)) (itr (prC w) t i) = false := fun i hi => decide_eq_false (hJn i hi)
  intro k
  induction k with
  | zero => intro wj j i4 i5 u6 _ _ _ _ _ h; exact (PS_0 h).elim
  | succ k ih =>
    intro wj j i4 i5 u6 fm h4 h5 hj hps h
    have hSj : SK wj := fm.2.2.2
    have h := U166_66 hSj h
    have fin : j = J → r = some (.int i3) ∧ w' = wj → FM [] [80] w w' ∧ r = some (.int i3) ∧ PSJ c (frC w) (frC w') 12 (prC w) t J J d := by
      rintro e ⟨a1, a2⟩
      rw [a2]
      rw [e] at hps
      exact ⟨fm, a1, hps⟩
    by_cases c1 : 12 ≤ i5
    · rw [if_pos c1] at h
      rw [Int32.le_iff_toInt_le, e12, h5] at c1
      exact fin (by omega) h
    · rw [if_neg c1] at h
      rw [Int32.le_iff_toInt_le, e12, h5] at c1
      by_cases c2 : i4 = i1
      · rw [if_pos c2] at h
        refine fin ?_ h
        rw [c2, h1] at h4
        by_cases e : j < J
        · exact absurd (by omega) (hJn j e)
        · omega
      · rw [if_neg c2] at h
        have hjJ : j < J := by
          by_cases e : j = J
          · exfalso
            rw [e, hJs (by omega)] at h4
            exact c2 (Int32.toInt_inj.mp (by rw [h4, h1]))
          · omega
        obtain ⟨a1, a2, _⟩ := itr_in hP ht hlb j (fun i hi => hroot i (by omega))
        obtain ⟨b1, b2, b3, b4⟩ := QI_pr hQ a1 (of_decide_eq_true a2) (hJn j hjJ)
        obtain ⟨g0, g1, g2⟩ := R79 hSj
        rw [g1, g0] at h
        obtain ⟨_, _, _, h⟩ := h
        have ec : aG wj 81 i4 = cmF w (itr (prC w) t j) := by
          rw [aG_n h4, FM_a fm (by decide)]
          rfl
        rw [ec] at h
        obtain ⟨xn, hxn⟩ : ∃ xn, xn = itr (prC w) t j := ⟨_, rfl⟩
        obtain ⟨pn, hpn⟩ : ∃ pn, pn = itr (prC w) t (j + 1) := ⟨_, rfl⟩
        have hpx : prC w xn = pn := by rw [hxn, hpn]; rfl
        rw [← hxn] at h4 a1 a2 b1 b2 b3 b4 h
        rw [hpx] at b1 b2 b3 b4
        have ei : ((cmF w xn) * 12 + i4).toInt = (12 * pn + xn : Nat) := by
          rw [zi_add (zi_mul b1 e12 (by omega) (by omega)) h4 (by omega) (by omega)]; omega
        have ei2 : (i4 * 12 + (cmF w xn)).toInt = (12 * xn + pn : Nat) := by
          rw [zi_add (zi_mul h4 e12 (by omega) (by omega)) b1 (by omega) (by omega)]; omega
        have v1 : (aG wj 80 ((cmF w xn) * 12 + i4)).toInt = frC wj pn xn := by rw [aG_n ei]; rfl
        have dle := hps.2.1 j (Nat.le_refl j) hjJ
        rw [← hxn, ← hpn] at dle
        obtain ⟨f1, f2⟩ := FLW_hi hps.1 hc b2 a1 b4
        obtain ⟨f3, f4⟩ := FLW_hi hps.1 hc a1 b2 (fun e => b4 e.symm)
        have v1s : (aG wj 80 ((cmF w xn) * 12 + i4) - i3).toInt = frC wj pn xn - d := zi_sub v1 h3 (by omega) (by omega)
        have h := h _ rfl
        have S1 : SK (aS wj 80 ((cmF w xn) * 12 + i4) (aG wj 80 ((cmF w xn) * 12 + i4) - i3)) := SK_aS hSj
        rw [(R79 S1).1] at h
        obtain ⟨_, _, h⟩ := h
        have h := h _ rfl
        have v2 : (aG (aS wj 80 ((cmF w xn) * 12 + i4) (aG wj 80 ((cmF w xn) * 12 + i4) - i3)) 80 (i4 * 12 + (cmF w xn))).toInt = frC wj xn pn := by
          rw [aG_n ei2]
          show frC _ xn pn = _
          rw [frC_s hSj b2 a1 ei xn pn a1 b2, if_neg (fun z => b4 z.1.symm)]
        have v2s := zi_add v2 h3 (by omega) (by omega)
        have fr2 : ∀ a b, a < 12 → b < 12 → frC (aS (aS wj 80 ((cmF w xn) * 12 + i4) (aG wj 80 ((cmF w xn) * 12 + i4) - i3)) 80 (i4 * 12 + (cmF w xn)) (aG (aS wj 80 ((cmF w xn) * 12 + i4) (aG wj 80 ((cmF w xn) * 12 + i4) - i3)) 80 (i4 * 12 + (cmF w xn)) + i3)) a b = if a = xn ∧ b = pn then frC wj xn pn + d else if a = pn ∧ b = xn then frC wj pn xn - d else frC wj a b := by
          intro a b ha hb
          rw [frC_s S1 a1 b2 ei2 a b ha hb, v2s, frC_s hSj b2 a1 ei a b ha hb, v1s]
        have psh : PSH (frC wj) (frC (aS (aS wj 80 ((cmF w xn) * 12 + i4) (aG wj 80 ((cmF w xn) * 12 + i4) - i3)) 80 (i4 * 12 + (cmF w xn)) (aG (aS wj 80 ((cmF w xn) * 12 + i4) (aG wj 80 ((cmF w xn) * 12 + i4) - i3)) 80 (i4 * 12 + (cmF w xn)) + i3))) 12 (itr (prC w) t (j + 1)) (itr (prC w) t j) d := by
          intro a b ha hb
          rw [fr2 a b ha hb, ← hxn, ← hpn]
          by_cases e1 : a = xn ∧ b = pn
          · rw [if_pos e1, if_pos e1, if_neg (fun z => b4 (z.1.symm.trans e1.1)), e1.1, e1.2]; omega
          · rw [if_neg e1, if_neg e1]
            by_cases e2 : a = pn ∧ b = xn
            · rw [if_pos e2, if_pos e2, e2.1, e2.2]; omega
            · rw [if_neg e2, if_neg e2]; omega
        refine ih _ (j + 1) _ _ _ (FM_trans fm (FM_trans (FM_aS hSj (by decide)) (FM_aS S1 (by decide)))) ?_ (by rw [zi_inc (n := 40) (by omega) (by omega), h5]; rfl) (by omega) (PSJ_s hP ht hlb hroot (by omega) hjJ hps psh) h
        rw [b1, hpn]
theorem F166 (hS : SK w) (hQ : QI w0 w s B ρ) (hl : cmF w t ≠ -1) (ht : t < 12) (h1 : p1.toInt = s) (h2 : p2.toInt = t) (hF : FLW c (frC w) 12) (hc : ∀ a b, a < 12 → b < 12 → c a b + c b a ≤ 1000000) (h : PS X k 166 0 [.ref 79, .int p1, .int p2, pm_dead, pm_dead, pm_dead, pm_dead] [] w r w') : FM [] [80] w w' ∧ ∃ (z : Int32), r = some (.int z) ∧ 0 < z.toInt ∧ z.toInt ≤ 1000000 ∧ FLW c (frC w') 12 ∧ ∀ a, a < 12 → gone c (frC w') 12 a = gone c (frC w) 12 a + (if a = s then z.toInt else 0) - (if a = t then z.toInt else 0) := by
  have e12 : (12 : Int32).toInt = 12 := by decide +kernel
  have eM : (1000000 : Int32).toInt = 1000000 := by decide +kernel
  have hP := QI_PTH hQ
  have hlb : lbC w t = true := decide_eq_true hl
  have e0 : frC w = frC w0 := frC_fm hQ.1 (by decide)
  have fin : ∀ (k j : Nat) (i3 : Int32), (∀ i, i < j → itr (prC w) t i ≠ s) → j ≤ 12 → (j < 12 → itr (prC w) t j = s) → 0 < i3.toInt → i3.toInt ≤ 1000000 → (∀ i, i < j → i3.toInt ≤ frC w (itr (prC w) t (i + 1)) (itr (prC w) t i)) → PS X k 166 66 [.ref 79, .int p1, .int p2, .int i3, .int p2, .int 0, pm_dead] [] w r w' → FM [] [80] w w' ∧ ∃ (z : Int32), r = some (.int z) ∧ 0 < z.toInt ∧ z.toInt ≤ 1000000 ∧ FLW c (frC w') 12 ∧ ∀ a, a < 12 → gone c (frC w') 12 a = gone c (frC w) 12 a + (if a = s then z.toInt else 0) - (if a = t then z.toInt else 0) := by
    intro k j i3 hn hj hjs hp hp2 hle h
    obtain ⟨f, a1, a2⟩ := F166_66 hS hQ hl ht h1 rfl hp hp2 hc hj hjs hn hlb k w 0 _ _ _ (FM_refl hS) h2 z32 (Nat.zero_le _) (PSJ_0 hF hle) h
    have ej : itr (prC w) t j = s := by
      by_cases e : j < 12
      · exact hjs e
      · exfalso
        have q := itr_in hP ht hlb j (fun i hi => decide_eq_false (hn i hi))
        have := QI_rho hQ ht hl
        omega
    refine ⟨f, i3, a1, hp, hp2, a2.1, fun a ha => ?_⟩
    have q := a2.2.2 a ha
    rw [ej] at q
    exact q
  have lp : ∀ (k j : Nat) (i3 i4 i5 : Int32), i4.toInt = (itr (prC w) t j : Nat) → i5.toInt = j → j ≤ 12 → (∀ i, i < j → itr (prC w) t i ≠ s) → 0 < i3.toInt → i3.toInt ≤ 1000000 → (∀ i, i < j → i3.toInt ≤ frC w (itr (prC w) t (i + 1)) (itr (prC w) t i)) → PS X k 166 9 [.ref 79, .int p1, .int p2, .int i3, .int i4, .int i5, pm_dead] [] w r w' → FM [] [80] w w' ∧ ∃ (z : Int32), r = some (.int z) ∧ 0 < z.toInt ∧ z.toInt ≤ 1000000 ∧ FLW c (frC w') 12 ∧ ∀ a, a < 12 → gone c (frC w') 12 a = gone c (frC w) 12 a + (if a = s then z.toInt else 0) - (if a = t then z.toInt else 0) := by
    intro k
    induction k with
    | zero => intro j i3 i4 i5 _ _ _ _ _ _ _ h; exact (PS_0 h).elim
    | succ k ih =>
      intro j i3 i4 i5 h4 h5 hj hn hp hp2 hle h
      have h := U166_9 hS h
      by_cases c1 : 12 ≤ i5
      · rw [if_pos c1] at h
        rw [Int32.le_iff_toInt_le, e12, h5] at c1
        exact fin k j i3 hn hj (fun q => by omega) hp hp2 hle h
      · rw [if_neg c1] at h
        rw [Int32.le_iff_toInt_le, e12, h5] at c1
        by_cases c2 : i4 = p1
        · rw [if_pos c2] at h
          rw [c2, h1] at h4
          exact fin k j i3 hn hj (fun q => by omega) hp hp2 hle h
        · rw [if_neg c2] at h
          have hjs : itr (prC w) t j ≠ s := fun e => c2 (Int32.toInt_inj.mp (by rw [h4, h1, e]))
          obtain ⟨a1, a2, _⟩ := itr_in hP ht hlb j (fun i hi => decide_eq_false (hn i hi))
          obtain ⟨b1, b2, b3, b4⟩ := QI_pr hQ a1 (of_decide_eq_true a2) hjs
          obtain ⟨g0, g1, g2⟩ := R79 hS
          rw [g1, g0] at h
          obtain ⟨_, _, _, h⟩ := h
          have ec : aG w 81 i4 = cmF w (itr (prC w) t j) := by rw [aG_n h4]; rfl
          rw [ec] at h
          have v1 : (aG w 80 ((cmF w (itr (prC w) t j)) * 12 + i4)).toInt = frC w (prC w (itr (prC w) t j)) (itr (prC w) t j) := by
            rw [aG_n (m := 12 * prC w (itr (prC w) t j) + itr (prC w) t j) (by rw [zi_add (zi_mul b1 e12 (by omega) (by omega)) h4 (by omega) (by omega)]; omega)]
            rfl
          rw [← e0] at b3
          obtain ⟨f1, f2⟩ := FLW_hi hF hc b2 a1 b4
          have hv : ∀ i3' : Int32, 0 < i3'.toInt → i3'.toInt ≤ i3.toInt → i3'.toInt ≤ frC w (prC w (itr (prC w) t j)) (itr (prC w) t j) → PS X k 166 9 [.ref 79, .int p1, .int p2, .int i3', .int (cmF w (itr (prC w) t j)), .int (i5 + 1), pm_dead] [] w r w' → FM [] [80] w w' ∧ ∃ (z : Int32), r = some (.int z) ∧ 0 < z.toInt ∧ z.toInt ≤ 1000000 ∧ FLW c (frC w') 12 ∧ ∀ a, a < 12 → gone c (frC w') 12 a = gone c (frC w) 12 a + (if a = s then z.toInt else 0) - (if a = t then z.toInt else 0) := by
            intro i3' q1 q2 q3 h
            refine ih (j + 1) i3' _ _ (by rw [b1]; rfl) (by rw [zi_inc (n := 40) (by omega) (by omega), h5]; rfl) (by omega) (fun i hi => ?_) q1 (by omega) (fun i hi => ?_) h
            · by_cases e : i = j
              · rw [e]; exact hjs
              · exact hn i (by omega)
            · by_cases e : i = j
              · rw [e]; exact q3
              · have := hle i (by omega); omega
          by_cases c3 : aG w 80 ((cmF w (itr (prC w) t j)) * 12 + i4) < i3
          · rw [if_pos c3] at h
            rw [Int32.lt_iff_toInt_lt, v1] at c3
            exact hv _ (by rw [v1]; exact b3) (by rw [v1]; omega) (by rw [v1]; exact Int.le_refl _) h
          · rw [if_neg c3] at h
            rw [Int32.lt_iff_toInt_lt, v1] at c3
            exact hv _ hp (Int.le_refl _) (by omega) h
  cases k with
  | zero => exact (PS_0 h).elim
  | succ k => exact lp k 0 _ _ _ h2 z32 (by omega) (fun i hi => absurd hi (Nat.not_lt_zero i)) (by rw [eM]; omega) (by rw [eM]; omega) (fun i hi => absurd hi (Nat.not_lt_zero i)) (U166_0 hS h)
theorem FLW_dg (hF : FLW c (frC w) 12) (ha : a < 12) : frC w a a = c a a := by
  have q := hF.2 a a ha ha
  omega
/-- the most that goes through -/
theorem F164 (hS : SK w) (h1 : p1.toInt = s) (h2 : p2.toInt = t) (hs : s < 12) (ht : t < 12) (hst : s ≠ t) (hfr : ∀ a b, a < 12 → b < 12 → frC w a b = c a b) (hc0 : ∀ a b, a < 12 → b < 12 → 0 ≤ c a b) (hc : ∀ a b, a < 12 → b < 12 → c a b + c b a ≤ 1000000) (hcs : suI (fun b => c s b) 12 ≤ 900000) (h : PS X k 164 0 [.ref 79, .int p1, .int p2, pm_dead, pm_dead] [] w r w') : FM [] [80, 81, 82] w w' ∧ ∃ z : Int32, r = some (.int z) ∧ MCst c 12 s t z.toInt := by
  have eM : (1000000 : Int32).toInt = 1000000 := by decide +kernel
  have bnd : ∀ w1, FLW c (frC w1) 12 → gone c (frC w1) 12 s ≤ 900000 := by
    intro w1 hF
    have q : gone c (frC w1) 12 s ≤ suI (fun b => c s b) 12 := by
      unfold gone
      refine suI_le 12 (fun b hb => ?_)
      by_cases e : s = b
      · rw [← e, FLW_dg hF hs]
        have := hc0 s s hs hs
        omega
      · have := hF.1 s b hs hb e
        omega
    omega
  have lp : ∀ (k j : Nat) (w1 : pm_W) (i3 i4 : Int32), FM [] [80, 81, 82] w w1 → i4.toInt = j → (j : Int) ≤ i3.toInt → FLW c (frC w1) 12 → (∀ a, a < 12 → gone c (frC w1) 12 a = (if a = s then i3.toInt else 0) - (if a = t then i3.toInt else 0)) → PS X k 164 5 [.ref 79, .int p1, .int p2, .int i3, .int i4] [] w1 r w' → FM [] [80, 81, 82] w w' ∧ ∃ z : Int32, r = some (.int z) ∧ MCst c 12 s t z.toInt := by
    intro k
    induction k with
    | zero => intro j w1 i3 i4 _ _ _ _ _ h; exact (PS_0 h).elim
    | succ k ih =>
      intro j w1 i3 i4 fm h4 hj hF hg h
      have S1 : SK w1 := fm.2.2.2
      have hi3 := bnd w1 hF
      rw [hg s hs, if_pos rfl, if_neg hst] at hi3
      have h := U164_5 S1 h
      by_cases c1 : 1000000 ≤ i4
      · rw [Int32.le_iff_toInt_le, eM, h4] at c1
        omega
      · rw [if_neg c1] at h
        rw [Int32.le_iff_toInt_le, eM, h4] at c1
        obtain ⟨q1, w2, y, h5⟩ := h
        obtain ⟨f2, alt⟩ := F165 S1 h1 h2 hs ht hst y
        have S2 : SK w2 := f2.2.2.2
        have e2 : frC w2 = frC w1 := frC_fm f2 (by decide)
        rcases alt with ⟨a1, a2, a3, a4⟩ | ⟨a1, ρ, B, hQ, hl⟩
        · have h := h5 _ a1 S2
          rw [if_pos rfl] at h
          rw [h.2]
          refine ⟨FM_trans fm (FM_mono f2 (by intro x hx; cases hx) (by decide)), i3, h.1, ?_⟩
          refine st_MC (S := fun a => decide (cmF w2 a ≠ -1)) hF hs hg (decide_eq_true a2) (decide_eq_false (fun z => z a3)) (fun a b ha hb hsa hsb => ?_)
          have hsa := of_decide_eq_true hsa
          have hsb : cmF w2 b = -1 := Classical.byContradiction (fun q => of_decide_eq_false hsb q)
          have q := a4 a b ha hb hsa hsb
          have q2 := hF.1 a b ha hb (fun e => by rw [e] at hsa; exact hsa hsb)
          omega
        · have h := h5 _ a1 S2
          rw [if_neg (by decide +kernel)] at h
          obtain ⟨q4, w5, y5, h6⟩ := h
          obtain ⟨f5, z, b1, b2, b3, b4, b5⟩ := F166 S2 hQ hl ht h1 h2 (by rw [e2]; exact hF) hc y5
          have S5 : SK w5 := f5.2.2.2
          have h := h6 _ b1 S5
          have e : (i3 + z).toInt = i3.toInt + z.toInt := zi_add rfl rfl (by omega) (by omega)
          refine ih (j + 1) w5 _ _ (FM_trans fm (FM_trans (FM_mono f2 (by intro x hx; cases hx) (by decide)) (FM_mono f5 (by intro x hx; cases hx) (by decide)))) (by rw [zi_inc (n := 1000000) (by omega) (by omega), h4]; rfl) (by omega) b4 (fun a ha => ?_) h
          rw [b5 a ha, e2, hg a ha, e]
          by_cases e1 : a = s
          · rw [if_pos e1, if_pos e1, if_pos e1, if_neg (fun z => hst (e1.symm.trans z)), if_neg (fun z => hst (e1.symm.trans z)), if_neg (fun z => hst (e1.symm.trans z))]; omega
          · rw [if_neg e1, if_neg e1, if_neg e1]
            by_cases e3 : a = t
            · rw [if_pos e3, if_pos e3, if_pos e3]; omega
            · rw [if_neg e3, if_neg e3, if_neg e3]; omega
  cases k with
  | zero => exact (PS_0 h).elim
  | succ k =>
    have hF : FLW c (frC w) 12 := ⟨fun a b ha hb _ => by rw [hfr a b ha hb]; exact hc0 a b ha hb, fun a b ha hb => by rw [hfr a b ha hb, hfr b a hb ha]⟩
    refine lp k 0 w 0 0 (FM_refl hS) z32 (by rw [z32]; omega) hF (fun a ha => ?_) (U164_0 hS h)
    have e : gone c (frC w) 12 a = 0 := by
      unfold gone
      refine suI_z 12 (fun b hb => ?_)
      rw [hfr a b ha hb]
      omega
    rw [e, z32]
    split <;> split <;> rfl
end IGP
