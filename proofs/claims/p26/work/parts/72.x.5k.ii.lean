/-! ===== the reference's flows: what is left, pushing, the way ===== -/
section IIW
variable {X : pm_X} {k k2 : Nat} {w0 w w1 w2 w3 w4 w' : pm_W} {r r2 q0 q1 q2 : Option Value} {p1 p2 p3 p4 i1 i2 i3 i4 i5 i6 z z1 z2 x y : Int32} {i v j m u P t s b Q B I J K n a T p : Nat} {ρ : Nat → Nat} {c : Nat → Nat → Int} {d : Int}
def moR (w : pm_W) (a b : Nat) : Int := ((gA w 161).getD (10 * a + b) 0).toInt
def loR (w : pm_W) (a b : Nat) : Int := ((gA w 160).getD (10 * a + b) 0).toInt
def fwR (w : pm_W) (a b : Nat) : Int := ((gA w 162).getD (10 * a + b) 0).toInt
def ovR (w : pm_W) (a : Nat) : Int := ((gA w 163).getD a 0).toInt
def fmR (w : pm_W) (a : Nat) : Int32 := (gA w 164).getD a 0
def cR (w : pm_W) (a b : Nat) : Int := moR w a b - loR w a b
def rsR (w : pm_W) (a b : Nat) : Int := moR w a b - loR w a b - fwR w a b + fwR w b a
/-- numbers that don't leave an int -/
def RGr (w : pm_W) : Prop := (∀ a b, a < 10 → b < 10 → -1000000 ≤ moR w a b ∧ moR w a b ≤ 1000000 ∧ -1000000 ≤ loR w a b ∧ loR w a b ≤ 1000000 ∧ 0 ≤ fwR w a b ∧ fwR w a b ≤ 2000000) ∧ ∀ a, a < 10 → -1000000 ≤ ovR w a ∧ ovR w a ≤ 1000000
theorem l160 (hS : SK w) : (gA w 160).length = 100 := SK_len hS (a := 160) (n := 100) (by decide +kernel) (by decide)
theorem l161 (hS : SK w) : (gA w 161).length = 100 := SK_len hS (a := 161) (n := 100) (by decide +kernel) (by decide)
theorem l162 (hS : SK w) : (gA w 162).length = 100 := SK_len hS (a := 162) (n := 100) (by decide +kernel) (by decide)
theorem l163 (hS : SK w) : (gA w 163).length = 10 := SK_len hS (a := 163) (n := 10) (by decide +kernel) (by decide)
theorem l164 (hS : SK w) : (gA w 164).length = 10 := SK_len hS (a := 164) (n := 10) (by decide +kernel) (by decide)
theorem ix10 (h1 : p1.toInt = a) (h2 : p2.toInt = b) (ha : a < 10) (hb : b < 10) : (10 * p1 + p2).toInt = (10 * a + b : Nat) := by
  rw [zi_add (zi_mul ten32 h1 (by omega) (by omega)) h2 (by omega) (by omega)]; omega
theorem F280 (hS : SK w) (hR : RGr w) (h1 : p1.toInt = a) (h2 : p2.toInt = b) (ha : a < 10) (hb : b < 10) (h : PS X k 280 0 [.ref 147, .int p1, .int p2] [] w r w') : ∃ z : Int32, z.toInt = rsR w a b ∧ r = some (.int z) ∧ w' = w := by
  cases k with
  | zero => exact (PS_0 h).elim
  | succ k =>
    obtain ⟨_, _, _, _, e1, e2⟩ := U280_0 hS h
    obtain ⟨m1, m2, l1, l2, f1, f2⟩ := hR.1 a b ha hb
    obtain ⟨_, _, _, _, g1, g2⟩ := hR.1 b a hb ha
    have q1 : (aG w 161 (10 * p1 + p2)).toInt = moR w a b := by rw [aG_n (ix10 h1 h2 ha hb)]; rfl
    have q2 : (aG w 160 (10 * p1 + p2)).toInt = loR w a b := by rw [aG_n (ix10 h1 h2 ha hb)]; rfl
    have q3 : (aG w 162 (10 * p1 + p2)).toInt = fwR w a b := by rw [aG_n (ix10 h1 h2 ha hb)]; rfl
    have q4 : (aG w 162 (10 * p2 + p1)).toInt = fwR w b a := by rw [aG_n (ix10 h2 h1 hb ha)]; rfl
    refine ⟨_, ?_, e1, e2⟩
    rw [zi_add (zi_sub (zi_sub q1 q2 (by omega) (by omega)) q3 (by omega) (by omega)) q4 (by omega) (by omega)]
    rfl
theorem fwR_s (hS : SK w) (ha : a < 10) (hb : b < 10) (hx : x.toInt = (10 * a + b : Nat)) (i j : Nat) (hi : i < 10) (hj : j < 10) : fwR (aS w 162 x y) i j = if i = a ∧ j = b then y.toInt else fwR w i j := by
  unfold fwR
  rw [gA_aS (SK_isA hS (by decide +kernel)), i_nat hx, getD_set (by rw [l162 hS]; omega)]
  by_cases e : i = a ∧ j = b
  · rw [if_pos (by omega), if_pos e]
  · rw [if_neg (by omega), if_neg e]
theorem mo_162 : moR (aS w 162 x y) = moR w := by funext i j; unfold moR; rw [gA_aS_ne (by decide)]
theorem lo_162 : loR (aS w 162 x y) = loR w := by funext i j; unfold loR; rw [gA_aS_ne (by decide)]
/-- one of two ways is empty -/
def CPL (w : pm_W) : Prop := ∀ a b, a < 10 → b < 10 → a ≠ b → fwR w a b = 0 ∨ fwR w b a = 0
theorem F281 (hS : SK w) (hR : RGr w) (hC : CPL w) (h1 : p1.toInt = a) (h2 : p2.toInt = b) (ha : a < 10) (hb : b < 10) (hne : a ≠ b) (h3 : p3.toInt = d) (hd : 0 ≤ d) (hd2 : d ≤ 1000000) (h : PS X k 281 0 [.ref 147, .int p1, .int p2, .int p3, pm_dead] [] w r w') : r = none ∧ FM [] [162] w w' ∧ PSH (rsR w) (rsR w') 10 a b d ∧ CPL w' ∧ (∀ i j, i < 10 → j < 10 → 0 ≤ fwR w' i j) ∧ ∀ i j, i < 10 → j < 10 → i = j → fwR w' i j = fwR w i j := by
  cases k with
  | zero => exact (PS_0 h).elim
  | succ k =>
    obtain ⟨_, h⟩ := U281_0 hS h
    obtain ⟨_, _, _, _, f1, f2⟩ := hR.1 a b ha hb
    obtain ⟨_, _, _, _, g1, g2⟩ := hR.1 b a hb ha
    have q3 : (aG w 162 (10 * p1 + p2)).toInt = fwR w a b := by rw [aG_n (ix10 h1 h2 ha hb)]; rfl
    have q4 : (aG w 162 (10 * p2 + p1)).toInt = fwR w b a := by rw [aG_n (ix10 h2 h1 hb ha)]; rfl
    have i1 := ix10 h1 h2 ha hb
    have i2 := ix10 h2 h1 hb ha
    -- both stores
    have fin : ∀ y1 y2 : Int32, ∀ bk : Int, y1.toInt = fwR w b a - bk → y2.toInt = fwR w a b + (d - bk) → 0 ≤ bk → bk ≤ d → bk ≤ fwR w b a → (fwR w b a - bk = 0 ∨ fwR w a b + (d - bk) = 0) → r = none → w' = aS (aS w 162 (10 * p2 + p1) y1) 162 (10 * p1 + p2) y2 → r = none ∧ FM [] [162] w w' ∧ PSH (rsR w) (rsR w') 10 a b d ∧ CPL w' ∧ (∀ i j, i < 10 → j < 10 → 0 ≤ fwR w' i j) ∧ ∀ i j, i < 10 → j < 10 → i = j → fwR w' i j = fwR w i j := by
      intro y1 y2 bk e1 e2 b1 b2 b3 b4 er ew
      have S1 : SK (aS w 162 (10 * p2 + p1) y1) := SK_aS hS
      have fl : ∀ i j, i < 10 → j < 10 → fwR w' i j = if i = a ∧ j = b then fwR w a b + (d - bk) else if i = b ∧ j = a then fwR w b a - bk else fwR w i j := by
        intro i j hi hj
        rw [ew, fwR_s S1 ha hb i1 i j hi hj, fwR_s hS hb ha i2 i j hi hj, e1, e2]
      have hm : moR w' = moR w := by rw [ew, mo_162, mo_162]
      have hl : loR w' = loR w := by rw [ew, lo_162, lo_162]
      refine ⟨er, by rw [ew]; exact FM_trans (FM_aS hS (by decide)) (FM_aS S1 (by decide)), fun i j hi hj => ?_, fun i j hi hj hij => ?_, fun i j hi hj => ?_, fun i j hi hj hij => ?_⟩
      · unfold rsR
        rw [hm, hl, fl i j hi hj, fl j i hj hi]
        by_cases c1 : i = a ∧ j = b
        · obtain ⟨c1, c2⟩ := c1
          subst c1
          subst c2
          rw [if_pos ⟨rfl, rfl⟩, if_neg (fun z => hne z.2), if_pos ⟨rfl, rfl⟩, if_pos ⟨rfl, rfl⟩, if_neg (fun z => hne z.1)]
          omega
        · by_cases c2 : i = b ∧ j = a
          · obtain ⟨c2, c3⟩ := c2
            subst c2
            subst c3
            rw [if_neg (fun z => hne z.2), if_pos ⟨rfl, rfl⟩, if_pos ⟨rfl, rfl⟩, if_neg (fun z => hne z.2), if_pos ⟨rfl, rfl⟩]
            omega
          · rw [if_neg c1, if_neg c2, if_neg (fun z => c2 ⟨z.2, z.1⟩), if_neg (fun z => c1 ⟨z.2, z.1⟩), if_neg c1, if_neg c2]
            omega
      · rw [fl i j hi hj, fl j i hj hi]
        by_cases c1 : i = a ∧ j = b
        · obtain ⟨c1, c2⟩ := c1
          subst c1
          subst c2
          rw [if_pos ⟨rfl, rfl⟩, if_neg (fun z => hne z.2), if_pos ⟨rfl, rfl⟩]
          exact b4.symm
        · by_cases c2 : i = b ∧ j = a
          · obtain ⟨c2, c3⟩ := c2
            subst c2
            subst c3
            rw [if_neg (fun z => hne z.2), if_pos ⟨rfl, rfl⟩, if_pos ⟨rfl, rfl⟩]
            exact b4
          · rw [if_neg c1, if_neg c2, if_neg (fun z => c2 ⟨z.2, z.1⟩), if_neg (fun z => c1 ⟨z.2, z.1⟩)]
            exact hC i j hi hj hij
      · rw [fl i j hi hj]
        by_cases c1 : i = a ∧ j = b
        · rw [if_pos c1]; omega
        · rw [if_neg c1]
          by_cases c2 : i = b ∧ j = a
          · rw [if_pos c2]; omega
          · rw [if_neg c2]; exact (hR.1 i j hi hj).2.2.2.2.1
      · rw [fl i j hi hj, if_neg (fun z => hne (z.1.symm.trans (hij.trans z.2))), if_neg (fun z => hne (z.2.symm.trans (hij.symm.trans z.1)))]
    by_cases c : p3 ≤ aG w 162 (10 * p2 + p1)
    · rw [if_pos c] at h
      rw [Int32.le_iff_toInt_le, q4, h3] at c
      obtain ⟨_, _, h⟩ := h
      have h := h _ rfl
      obtain ⟨_, _, h⟩ := h
      obtain ⟨e1, e2⟩ := h _ rfl
      have S1 : SK (aS w 162 (10 * p2 + p1) (aG w 162 (10 * p2 + p1) - p3)) := SK_aS hS
      have v2 : (aG (aS w 162 (10 * p2 + p1) (aG w 162 (10 * p2 + p1) - p3)) 162 (10 * p1 + p2)).toInt = fwR w a b := by
        rw [aG_n i1]
        show fwR _ a b = _
        rw [fwR_s hS hb ha i2 a b ha hb, if_neg (fun z => hne z.1)]
      refine fin _ _ d (zi_sub q4 h3 (by omega) (by omega)) ?_ hd (Int.le_refl _) c ?_ e1 e2
      · rw [zi_add v2 (zi_sub h3 h3 (by omega) (by omega)) (by omega) (by omega)]
      · rcases hC a b ha hb hne with q | q
        · right; omega
        · left; omega
    · rw [if_neg c] at h
      rw [Int32.le_iff_toInt_le, q4, h3] at c
      obtain ⟨_, _, _, h⟩ := h
      have h := h _ rfl
      obtain ⟨_, _, h⟩ := h
      obtain ⟨e1, e2⟩ := h _ rfl
      have S1 : SK (aS w 162 (10 * p2 + p1) (aG w 162 (10 * p2 + p1) - aG w 162 (10 * p2 + p1))) := SK_aS hS
      have v2 : (aG (aS w 162 (10 * p2 + p1) (aG w 162 (10 * p2 + p1) - aG w 162 (10 * p2 + p1))) 162 (10 * p1 + p2)).toInt = fwR w a b := by
        rw [aG_n i1]
        show fwR _ a b = _
        rw [fwR_s hS hb ha i2 a b ha hb, if_neg (fun z => hne z.1)]
      refine fin _ _ (fwR w b a) (zi_sub q4 q4 (by omega) (by omega)) ?_ g1 (by omega) (Int.le_refl _) (Or.inl (by omega)) e1 e2
      rw [zi_add v2 (zi_sub h3 q4 (by omega) (by omega)) (by omega) (by omega)]
/-! the way -/
theorem fmR_s (hS : SK w) (hx : x.toInt = a) (ha : a < 10) (q : Nat) : fmR (aS w 164 x y) q = if q = a then y else fmR w q := by
  unfold fmR
  rw [gA_aS (SK_isA hS (by decide +kernel)), i_nat hx, getD_set (by rw [l164 hS]; exact ha)]
def lbR (w : pm_W) (x : Nat) : Prop := 0 ≤ (fmR w x).toInt
def WI0 (w0 w : pm_W) (ρ : Nat → Nat) (T : Nat) : Prop := FM [] [164] w0 w ∧ (∀ x : Nat, x < 10 → lbR w x → ((fmR w x).toInt = x ∧ 0 < ovR w0 x) ∨ ∃ p : Nat, p < 10 ∧ (fmR w x).toInt = p ∧ p ≠ x ∧ lbR w p ∧ ρ p < ρ x ∧ 0 < rsR w0 p x) ∧ (∀ x : Nat, x < 10 → lbR w x → ρ x < T) ∧ ∀ x : Nat, x < 10 → 0 < ovR w0 x → lbR w x
def WI (w0 w : pm_W) (ρ : Nat → Nat) (T : Nat) : Prop := WI0 w0 w ρ T ∧ ∀ x : Nat, x < 10 → lbR w x → 0 ≤ ovR w0 x
theorem WI_new (hW : WI0 w0 w ρ T) (hy : y.toInt = a) (ha : a < 10) (hla : lbR w a) (hx : x.toInt = b) (hb : b < 10) (hlb : ¬ lbR w b) (hr : 0 < rsR w0 a b) : WI0 w0 (aS w 164 x y) (fun q => if q = b then T else ρ q) (T + 1) := by
  obtain ⟨fm, h1, h2, h3⟩ := hW
  have S1 : SK w := fm.2.2.2
  have ec : ∀ q, fmR (aS w 164 x y) q = if q = b then y else fmR w q := fmR_s S1 hx hb
  have lb : ∀ q, lbR (aS w 164 x y) q ↔ q = b ∨ lbR w q := by
    intro q
    unfold lbR
    rw [ec]
    by_cases e : q = b
    · rw [if_pos e, hy]; exact ⟨fun _ => Or.inl e, fun _ => by omega⟩
    · rw [if_neg e]; exact ⟨Or.inr, fun z => z.elim (fun z => absurd z e) id⟩
  have hab : a ≠ b := fun e => hlb (e ▸ hla)
  refine ⟨FM_trans fm (FM_aS S1 (by decide)), fun q hq hl => ?_, fun q hq hl => ?_, fun q hq ho => (lb q).mpr (Or.inr (h3 q hq ho))⟩
  · rw [ec]
    by_cases e : q = b
    · right
      rw [if_pos e]
      refine ⟨a, ha, hy, by rw [e]; exact hab, (lb a).mpr (Or.inr hla), ?_, by rw [e]; exact hr⟩
      show (if a = b then T else ρ a) < (if q = b then T else ρ q)
      rw [if_neg hab, if_pos e]
      exact h2 a ha hla
    · rw [if_neg e]
      have hl := ((lb q).mp hl).resolve_left e
      rcases h1 q hq hl with c | ⟨p, c1, c2, c3, c4, c5, c6⟩
      · exact Or.inl c
      · right
        refine ⟨p, c1, c2, c3, (lb p).mpr (Or.inr c4), ?_, c6⟩
        show (if p = b then T else ρ p) < (if q = b then T else ρ q)
        rw [if_neg (show ¬ p = b from fun e => hlb (e ▸ c4)), if_neg e]
        exact c5
  · show (if q = b then T else ρ q) < T + 1
    by_cases e : q = b
    · rw [if_pos e]; omega
    · rw [if_neg e]
      have := h2 q hq (((lb q).mp hl).resolve_left e)
      omega
/-- no way, a way -/
def NOWr (w w' : pm_W) : Prop := ∃ ρ T, WI w w' ρ T ∧ ∀ a b, a < 10 → b < 10 → lbR w' a → ¬ lbR w' b → rsR w a b ≤ 0
def WAYr (w w' : pm_W) (b : Nat) : Prop := ∃ ρ T, WI0 w w' ρ T ∧ b < 10 ∧ lbR w' b ∧ ovR w b < 0
theorem F279_l (hR : RGr w0) : ∀ k : Nat,
    (∀ (w : pm_W) (ρ : Nat → Nat) (T : Nat) (i1 : Int32) (u2 u3 : Value), WI w0 w ρ T → (i1 = 0 → ∀ a b, a < 10 → b < 10 → lbR w a → ¬ lbR w b → rsR w0 a b ≤ 0) → PS X k 279 36 [.ref 147, .int i1, u2, u3] [] w r w' → FM [] [164] w0 w' ∧ ((r = some (.int (-1)) ∧ NOWr w0 w') ∨ ∃ (z : Int32) (b : Nat), r = some (.int z) ∧ z.toInt = b ∧ WAYr w0 w' b)) ∧
    (∀ (w : pm_W) (ρ : Nat → Nat) (T A : Nat) (i1 i2 : Int32) (u3 : Value), WI w0 w ρ T → i2.toInt = A → A ≤ 10 → (i1 = 0 → ∀ a b, a < A → b < 10 → lbR w a → ¬ lbR w b → rsR w0 a b ≤ 0) → PS X k 279 44 [.ref 147, .int i1, .int i2, u3] [] w r w' → FM [] [164] w0 w' ∧ ((r = some (.int (-1)) ∧ NOWr w0 w') ∨ ∃ (z : Int32) (b : Nat), r = some (.int z) ∧ z.toInt = b ∧ WAYr w0 w' b)) ∧
    (∀ (w : pm_W) (ρ : Nat → Nat) (T A B : Nat) (i1 i2 i3 : Int32), WI w0 w ρ T → i2.toInt = A → A < 10 → i3.toInt = B → B ≤ 10 → (i1 = 0 → ∀ a b, a < A → b < 10 → lbR w a → ¬ lbR w b → rsR w0 a b ≤ 0) → (i1 = 0 → ∀ b, b < B → lbR w A → ¬ lbR w b → rsR w0 A b ≤ 0) → PS X k 279 52 [.ref 147, .int i1, .int i2, .int i3] [] w r w' → FM [] [164] w0 w' ∧ ((r = some (.int (-1)) ∧ NOWr w0 w') ∨ ∃ (z : Int32) (b : Nat), r = some (.int z) ∧ z.toInt = b ∧ WAYr w0 w' b)) := by
  intro k
  induction k with
  | zero => exact ⟨fun _ _ _ _ _ _ _ _ h => (PS_0 h).elim, fun _ _ _ _ _ _ _ _ _ _ _ h => (PS_0 h).elim, fun _ _ _ _ _ _ _ _ _ _ _ _ _ _ _ h => (PS_0 h).elim⟩
  | succ k ih =>
    obtain ⟨ih36, ih44, ih52⟩ := ih
    refine ⟨fun w ρ T i1 u2 u3 hW hc h => ?_, fun w ρ T A i1 i2 u3 hW h2 hA hc h => ?_, fun w ρ T A B i1 i2 i3 hW h2 hA h3 hB hc hc2 h => ?_⟩
    · have hS : SK w := hW.1.1.2.2.2
      have h := U279_36 hS h
      by_cases c : i1 = 0
      · rw [if_pos c] at h
        rw [h.2]
        exact ⟨hW.1.1, Or.inl ⟨h.1, ρ, T, hW, hc c⟩⟩
      · rw [if_neg c] at h
        exact ih44 w ρ T 0 0 0 u3 hW z32 (by omega) (fun _ a b ha => absurd ha (Nat.not_lt_zero a)) h
    · have hS : SK w := hW.1.1.2.2.2
      have h := U279_44 hS h
      by_cases c : 10 ≤ i2
      · rw [if_pos c] at h
        rw [Int32.le_iff_toInt_le, ten32, h2] at c
        have e : A = 10 := by omega
        rw [e] at hc
        exact ih36 w ρ T i1 _ _ hW hc h
      · rw [if_neg c] at h
        rw [Int32.le_iff_toInt_le, ten32, h2] at c
        exact ih52 w ρ T A 0 i1 i2 0 hW h2 (by omega) z32 (by omega) hc (fun _ b hb => absurd hb (Nat.not_lt_zero b)) h
    · have fm := hW.1.1
      have hS : SK w := fm.2.2.2
      have h := U279_52 hS h
      by_cases c : 10 ≤ i3
      · rw [if_pos c] at h
        rw [Int32.le_iff_toInt_le, ten32, h3] at c
        have e : B = 10 := by omega
        rw [e] at hc2
        refine ih44 w ρ T (A + 1) i1 _ _ hW (by rw [zi_inc (n := 40) (by omega) (by omega), h2]; rfl) (by omega) (fun q a b ha hb hla hlb => ?_) h
        by_cases e2 : a = A
        · rw [e2] at hla ⊢; exact hc2 q b hb hla hlb
        · exact hc q a b (by omega) hb hla hlb
      · rw [if_neg c] at h
        rw [Int32.le_iff_toInt_le, ten32, h3] at c
        have hB10 : B < 10 := by omega
        have e1 : (i3 + 1).toInt = ((B + 1 : Nat) : Int) := by rw [zi_inc (n := 40) (by omega) (by omega), h3]; rfl
        have skip : (lbR w A → ¬ lbR w B → rsR w0 A B ≤ 0) → PS X k 279 52 [.ref 147, .int i1, .int i2, .int (i3 + 1)] [] w r w' → FM [] [164] w0 w' ∧ ((r = some (.int (-1)) ∧ NOWr w0 w') ∨ ∃ (z : Int32) (b : Nat), r = some (.int z) ∧ z.toInt = b ∧ WAYr w0 w' b) := by
          intro hs h
          refine ih52 w ρ T A (B + 1) i1 i2 _ hW h2 hA e1 (by omega) hc (fun q b hb hla hlb => ?_) h
          by_cases e : b = B
          · rw [e] at hlb ⊢; exact hs hla hlb
          · exact hc2 q b (by omega) hla hlb
        obtain ⟨_, h⟩ := h
        rw [show aG w 164 i2 = fmR w A from aG_n h2] at h
        by_cases c1 : fmR w A < 0
        · rw [if_pos c1] at h
          rw [Int32.lt_iff_toInt_lt, z32] at c1
          exact skip (fun hl => by unfold lbR at hl; omega) h
        · rw [if_neg c1] at h
          rw [Int32.lt_iff_toInt_lt, z32] at c1
          have hlA : lbR w A := by unfold lbR; omega
          obtain ⟨_, h⟩ := h
          rw [show aG w 164 i3 = fmR w B from aG_n h3] at h
          by_cases c2 : 0 ≤ fmR w B
          · rw [if_pos c2] at h
            rw [Int32.le_iff_toInt_le, z32] at c2
            exact skip (fun _ hl => absurd c2 hl) h
          · rw [if_neg c2] at h
            rw [Int32.le_iff_toInt_le, z32] at c2
            have hlB : ¬ lbR w B := c2
            by_cases c3 : i2 = i3
            · rw [if_pos c3] at h
              have e : A = B := by rw [c3, h3] at h2; omega
              exact absurd (e ▸ hlA) hlB
            · rw [if_neg c3] at h
              have em : moR w = moR w0 := by funext i j; unfold moR; rw [FM_a fm (by decide)]
              have el : loR w = loR w0 := by funext i j; unfold loR; rw [FM_a fm (by decide)]
              have ef : fwR w = fwR w0 := by funext i j; unfold fwR; rw [FM_a fm (by decide)]
              have eo : ovR w = ovR w0 := by funext i; unfold ovR; rw [FM_a fm (by decide)]
              have hRw : RGr w := by unfold RGr; rw [em, el, ef, eo]; exact hR
              have er : rsR w = rsR w0 := by funext i j; unfold rsR; rw [em, el, ef]
              obtain ⟨z, hz, h⟩ := use_z hS h (fun _ _ y => F280 hS hRw h2 h3 hA hB10 y)
              rw [er] at hz
              by_cases c4 : 0 < z
              · rw [if_pos c4] at h
                rw [Int32.lt_iff_toInt_lt, z32, hz] at c4
                obtain ⟨_, h⟩ := h
                have h := h _ rfl
                have S1 : SK (aS w 164 i3 i2) := SK_aS hS
                have hN := WI_new hW.1 h2 hA hlA h3 hB10 hlB c4
                obtain ⟨_, h⟩ := h
                have eov : (aG (aS w 164 i3 i2) 163 i3).toInt = ovR w0 B := by
                  rw [aG_n h3, gA_aS_ne (by decide), FM_a fm (by decide)]
                  rfl
                have ec := fmR_s hS h3 hB10 (y := i2)
                have lb : ∀ q, lbR (aS w 164 i3 i2) q ↔ q = B ∨ lbR w q := by
                  intro q
                  unfold lbR
                  rw [ec]
                  by_cases e : q = B
                  · rw [if_pos e, h2]; exact ⟨fun _ => Or.inl e, fun _ => by omega⟩
                  · rw [if_neg e]; exact ⟨Or.inr, fun z => z.elim (fun z => absurd z e) id⟩
                by_cases c5 : 0 ≤ aG (aS w 164 i3 i2) 163 i3
                · rw [if_pos c5] at h
                  rw [Int32.le_iff_toInt_le, z32, eov] at c5
                  have n10 : ¬ ((1 : Int32) = 0) := by decide +kernel
                  refine ih52 _ _ (T + 1) A (B + 1) 1 i2 _ ⟨hN, fun q hq hl => ?_⟩ h2 hA e1 (by omega) (fun q => absurd q n10) (fun q => absurd q n10) h
                  rcases (lb q).mp hl with e | hl
                  · rw [e]; exact c5
                  · exact hW.2 q hq hl
                · rw [if_neg c5] at h
                  rw [Int32.le_iff_toInt_le, z32, eov] at c5
                  rw [h.2]
                  exact ⟨hN.1, Or.inr ⟨i3, B, h.1, h3, _, _, hN, hB10, (lb B).mpr (Or.inl rfl), by omega⟩⟩
              · rw [if_neg c4] at h
                rw [Int32.lt_iff_toInt_lt, z32, hz] at c4
                exact skip (fun _ _ => by omega) h
theorem F279 (hS : SK w) (hR : RGr w) (h : PS X k 279 0 [.ref 147, pm_dead, pm_dead, pm_dead] [] w r w') : FM [] [164] w w' ∧ ((r = some (.int (-1)) ∧ NOWr w w') ∨ ∃ (z : Int32) (b : Nat), r = some (.int z) ∧ z.toInt = b ∧ WAYr w w' b) := by
  have lp : ∀ (k A : Nat) (w1 : pm_W) (i1 : Int32), FM [] [164] w w1 → i1.toInt = A → A ≤ 10 → (∀ x : Nat, x < A → (0 < ovR w x ∧ (fmR w1 x).toInt = x) ∨ (ovR w x ≤ 0 ∧ fmR w1 x = -1)) → PS X k 279 2 [.ref 147, .int i1, pm_dead, pm_dead] [] w1 r w' → FM [] [164] w w' ∧ ((r = some (.int (-1)) ∧ NOWr w w') ∨ ∃ (z : Int32) (b : Nat), r = some (.int z) ∧ z.toInt = b ∧ WAYr w w' b) := by
    intro k
    induction k with
    | zero => intro A w1 i1 _ _ _ _ h; exact (PS_0 h).elim
    | succ k ih =>
      intro A w1 i1 fm h1 hA hx h
      have S1 : SK w1 := fm.2.2.2
      have h := U279_2 S1 h
      by_cases c : 10 ≤ i1
      · rw [if_pos c] at h
        rw [Int32.le_iff_toInt_le, ten32, h1] at c
        have e : A = 10 := by omega
        rw [e] at hx
        have m1 : (-1 : Int32).toInt = -1 := by decide +kernel
        refine (F279_l hR k).1 w1 (fun _ => 0) 1 1 _ _ ⟨⟨fm, fun x hx10 hl => ?_, fun _ _ _ => by show (0 : Nat) < 1; omega, fun x hx10 ho => ?_⟩, fun x hx10 hl => ?_⟩ (fun q => absurd q (by decide +kernel)) h
        · rcases hx x hx10 with ⟨a1, a2⟩ | ⟨a1, a2⟩
          · exact Or.inl ⟨a2, a1⟩
          · unfold lbR at hl
            rw [a2, m1] at hl
            omega
        · rcases hx x hx10 with ⟨a1, a2⟩ | ⟨a1, a2⟩
          · unfold lbR; omega
          · omega
        · rcases hx x hx10 with ⟨a1, a2⟩ | ⟨a1, a2⟩
          · omega
          · unfold lbR at hl
            rw [a2, m1] at hl
            omega
      · rw [if_neg c] at h
        rw [Int32.le_iff_toInt_le, ten32, h1] at c
        have e1 : (i1 + 1).toInt = ((A + 1 : Nat) : Int) := by rw [zi_inc (n := 40) (by omega) (by omega), h1]; rfl
        obtain ⟨_, h⟩ := h
        have eo : (aG w1 163 i1).toInt = ovR w A := by rw [aG_n h1, FM_a fm (by decide)]; rfl
        by_cases c2 : aG w1 163 i1 ≤ 0
        · rw [if_pos c2] at h
          rw [Int32.le_iff_toInt_le, z32, eo] at c2
          obtain ⟨_, h⟩ := h
          have h := h _ rfl
          refine ih (A + 1) _ _ (FM_trans fm (FM_aS S1 (by decide))) e1 (by omega) (fun x hxA => ?_) h
          rw [fmR_s S1 h1 (by omega)]
          by_cases e : x = A
          · rw [if_pos e, e]; exact Or.inr ⟨c2, rfl⟩
          · rw [if_neg e]; exact hx x (by omega)
        · rw [if_neg c2] at h
          rw [Int32.le_iff_toInt_le, z32, eo] at c2
          obtain ⟨_, h⟩ := h
          have h := h _ rfl
          refine ih (A + 1) _ _ (FM_trans fm (FM_aS S1 (by decide))) e1 (by omega) (fun x hxA => ?_) h
          rw [fmR_s S1 h1 (by omega)]
          by_cases e : x = A
          · rw [if_pos e, e]; exact Or.inl ⟨by omega, h1⟩
          · rw [if_neg e]; exact hx x (by omega)
  cases k with
  | zero => exact (PS_0 h).elim
  | succ k => exact lp k 0 w 0 (FM_refl hS) z32 (by omega) (fun x hx => absurd hx (Nat.not_lt_zero x)) (U279_0 hS h)
end IIW
