/-! ===== states: what acts do, for both sides; the class's states ===== -/
section GW
variable {X : pm_X} {k k2 : Nat} {w0 w w1 w2 w' : pm_W} {r r2 : Option Value} {p p1 p2 p3 p4 p5 f0 p0 f q x y : Int32} {n i v j m s T L u V a N K P t : Nat} {D D' G G1 G2 : Nat → Int32} {b : Bool}
/-- of ring k: how many, who is in it, the cell of the debt of its i-th -/
def rMy (G : Nat → Int32) (k : Nat) : Nat := (G (10 * k)).toInt.toNat
def rWho (G : Nat → Int32) (k i : Nat) : Nat := (G (10 * k + 4 + i)).toInt.toNat
def rNx (G : Nat → Int32) (k i : Nat) : Nat := rWho G k (if i + 1 < rMy G k then i + 1 else 0)
def rCl (G : Nat → Int32) (k i : Nat) : Nat := 9 * rWho G k i + rNx G k i
def subZ (x n : Int32) : Int32 := if x.toInt < n.toInt then 0 else x - n
/-- the debts behind the first i of ring k's are struck -/
def stD (G : Nat → Int32) (k : Nat) : Nat → (Nat → Int32) → (Nat → Int32)
  | 0, D => D
  | i + 1, D => updc (stD G k i D) (rCl G k i) (subZ (stD G k i D (rCl G k i)) (G (10 * k + 1)))
def stG (G : Nat → Int32) (k : Nat) : Nat → Int32 := updc G (10 * k + 3) 0
def opn (G : Nat → Int32) (k : Nat) : Bool := decide (G (10 * k + 3) = 1)
def inR (G : Nat → Int32) (k : Nat) (p : Nat) : Nat → Bool
  | 0 => false
  | i + 1 => inR G k p i || decide (rWho G k i = p)
/-- a ring as it may be -/
def WRg (P : Nat) (G : Nat → Int32) (k : Nat) : Prop := 2 ≤ (G (10 * k)).toInt ∧ (G (10 * k)).toInt ≤ 6 ∧ 0 ≤ (G (10 * k + 1)).toInt ∧ (G (10 * k + 1)).toInt ≤ 99 ∧ 0 ≤ (G (10 * k + 2)).toInt ∧ (G (10 * k + 2)).toInt ≤ 99 ∧ (G (10 * k + 3) = 0 ∨ G (10 * k + 3) = 1) ∧ (∀ i, i < rMy G k → 0 ≤ (G (10 * k + 4 + i)).toInt ∧ (G (10 * k + 4 + i)).toInt < P) ∧ ∀ i j, i < j → j < rMy G k → rWho G k i ≠ rWho G k j
def WD (P : Nat) (D : Nat → Int32) : Prop := (∀ q, 0 ≤ (D q).toInt ∧ (D q).toInt ≤ 99) ∧ ∀ x y, x < 9 → y < 9 → (P ≤ x ∨ P ≤ y) → D (9 * x + y) = 0
/-- rings below N are alike -/
def RG2 (N : Nat) (G1 G2 : Nat → Int32) : Prop := ∀ k, k < N → ∀ i, i < 4 + rMy G1 k → G2 (10 * k + i) = G1 (10 * k + i)
theorem RG2_my (h : RG2 N G1 G2) (hk : k < N) : rMy G2 k = rMy G1 k := by
  unfold rMy
  have z := h k hk 0 (by omega)
  rw [Nat.add_zero] at z
  rw [z]
theorem RG2_who (h : RG2 N G1 G2) (hk : k < N) (hi : i < rMy G1 k) : rWho G2 k i = rWho G1 k i := by
  unfold rWho
  rw [show 10 * k + 4 + i = 10 * k + (4 + i) by omega, h k hk (4 + i) (by omega)]
theorem RG2_cl (h : RG2 N G1 G2) (hk : k < N) (hi : i < rMy G1 k) : rCl G2 k i = rCl G1 k i := by
  unfold rCl rNx
  rw [RG2_my h hk, RG2_who h hk hi]
  by_cases c : i + 1 < rMy G1 k
  · rw [if_pos c, RG2_who h hk c]
  · rw [if_neg c, RG2_who h hk (by omega)]
theorem RG2_stD (h : RG2 N G1 G2) (hk : k < N) (hm : 1 ≤ rMy G1 k) : ∀ i, i ≤ rMy G1 k → stD G2 k i D = stD G1 k i D
  | 0, _ => rfl
  | i + 1, hi => by
    show updc (stD G2 k i D) (rCl G2 k i) (subZ (stD G2 k i D (rCl G2 k i)) (G2 (10 * k + 1))) = updc (stD G1 k i D) (rCl G1 k i) (subZ (stD G1 k i D (rCl G1 k i)) (G1 (10 * k + 1)))
    rw [RG2_stD h hk hm i (by omega), RG2_cl h hk (by omega), h k hk 1 (by omega)]
theorem rMy_st : rMy (stG G k) m = rMy G m := by
  unfold rMy stG updc
  rw [if_neg (by omega)]
theorem RG2_stG (h : RG2 N G1 G2) : RG2 N (stG G1 k) (stG G2 k) := by
  intro m hm i hi
  rw [rMy_st] at hi
  unfold stG updc
  rw [h m hm i hi]
theorem opn_RG (h : RG2 N G1 G2) (hk : k < N) : opn G2 k = opn G1 k := by
  unfold opn
  rw [h k hk 3 (by omega)]
theorem inR_RG (h : RG2 N G1 G2) (hk : k < N) : ∀ i, i ≤ rMy G1 k → inR G2 k m i = inR G1 k m i
  | 0, _ => rfl
  | i + 1, hi => by
    show (inR G2 k m i || decide (rWho G2 k i = m)) = (inR G1 k m i || decide (rWho G1 k i = m))
    rw [inR_RG h hk i (by omega), RG2_who h hk (by omega)]
theorem subZ_b (hx : 0 ≤ x.toInt ∧ x.toInt ≤ 99) (hn : 0 ≤ y.toInt ∧ y.toInt ≤ 99) : 0 ≤ (subZ x y).toInt ∧ (subZ x y).toInt ≤ 99 := by
  unfold subZ
  by_cases c : x.toInt < y.toInt
  · rw [if_pos c]; decide
  · rw [if_neg c, show (x - y).toInt = x.toInt - y.toInt from zi_sub rfl rfl (by omega) (by omega)]
    omega
theorem WR_who (h : WRg P G k) (hi : i < rMy G k) : rWho G k i < P := by
  have z := h.2.2.2.2.2.2.2.1 i hi
  unfold rWho
  omega
theorem WR_nx (h : WRg P G k) (hi : i < rMy G k) : rNx G k i < P := by
  unfold rNx
  by_cases c : i + 1 < rMy G k
  · rw [if_pos c]; exact WR_who h c
  · rw [if_neg c]; exact WR_who h (by omega)
theorem WD_stD (hP : P ≤ 9) (hR : WRg P G k) (hD : WD P D) : ∀ i, i ≤ rMy G k → WD P (stD G k i D)
  | 0, _ => hD
  | i + 1, hi => by
    have z := WD_stD hP hR hD i (by omega)
    have hw := WR_who hR (i := i) (by omega)
    have hx := WR_nx hR (i := i) (by omega)
    refine ⟨fun q => ?_, fun x y hx9 hy9 hxy => ?_⟩
    · show 0 ≤ ((if q = rCl G k i then subZ (stD G k i D (rCl G k i)) (G (10 * k + 1)) else stD G k i D q)).toInt ∧ _
      by_cases c : q = rCl G k i
      · show 0 ≤ ((if q = rCl G k i then subZ (stD G k i D (rCl G k i)) (G (10 * k + 1)) else stD G k i D q)).toInt ∧ ((if q = rCl G k i then subZ (stD G k i D (rCl G k i)) (G (10 * k + 1)) else stD G k i D q)).toInt ≤ 99
        rw [if_pos c]
        exact subZ_b (z.1 _) ⟨hR.2.2.1, hR.2.2.2.1⟩
      · show 0 ≤ ((if q = rCl G k i then subZ (stD G k i D (rCl G k i)) (G (10 * k + 1)) else stD G k i D q)).toInt ∧ ((if q = rCl G k i then subZ (stD G k i D (rCl G k i)) (G (10 * k + 1)) else stD G k i D q)).toInt ≤ 99
        rw [if_neg c]
        exact z.1 q
    · show (if 9 * x + y = rCl G k i then subZ (stD G k i D (rCl G k i)) (G (10 * k + 1)) else stD G k i D (9 * x + y)) = 0
      have ne : 9 * x + y ≠ rCl G k i := by
        unfold rCl
        omega
      rw [if_neg ne]
      exact z.2 x y hx9 hy9 hxy
theorem WR_st (h : WRg P G m) : WRg P (stG G k) m := by
  obtain ⟨h1, h2, h3, h4, h5, h6, h7, h8, h9⟩ := h
  have e : ∀ i, i ≠ 3 → i < 10 → stG G k (10 * m + i) = G (10 * m + i) := fun i hi hi10 => by
    unfold stG updc
    rw [if_neg (by omega)]
  have e4 : ∀ i, i < 6 → stG G k (10 * m + 4 + i) = G (10 * m + 4 + i) := fun i hi => by
    have z := e (4 + i) (by omega) (by omega)
    rw [← Nat.add_assoc] at z
    exact z
  have e0 := e 0 (by decide) (by decide)
  rw [Nat.add_zero] at e0
  have m6 : rMy G m ≤ 6 := by unfold rMy; omega
  refine ⟨by rw [e0]; exact h1, by rw [e0]; exact h2, by rw [e 1 (by decide) (by decide)]; exact h3, by rw [e 1 (by decide) (by decide)]; exact h4, by rw [e 2 (by decide) (by decide)]; exact h5, by rw [e 2 (by decide) (by decide)]; exact h6, ?_, fun i hi => ?_, fun i j hij hj => ?_⟩
  · unfold stG updc
    by_cases c : 10 * m + 3 = 10 * k + 3
    · rw [if_pos c]; exact Or.inl rfl
    · rw [if_neg c]; exact h7
  · rw [rMy_st] at hi
    rw [e4 i (by omega)]
    exact h8 i hi
  · rw [rMy_st] at hj
    unfold rWho
    rw [e4 i (by omega), e4 j (by omega)]
    exact h9 i j hij hj
/-! the class's states -/
def okS (a : Nat) : Bool := Nat.beq (sk_r a 3) (a + 6) && Nat.beq (sk_r a 4) (a + 7) && Nat.beq (sk_r a 5) (a + 8) && sk_i a 1 && sk_i a 2 && sk_a (a + 6) && sk_a (a + 7) && sk_a (a + 8) && Nat.beq (sk_l (a + 6)) 81 && Nat.beq (sk_l (a + 7)) 370 && Nat.beq (sk_l (a + 8)) 6 && sk_rf a 0
theorem okS_r (hS : SK w) (h : okS a = true) : gR w a 3 = a + 6 ∧ gR w a 4 = a + 7 ∧ gR w a 5 = a + 8 ∧ isF w a 1 ∧ isF w a 2 ∧ isA w (a + 6) ∧ isA w (a + 7) ∧ isA w (a + 8) ∧ (gA w (a + 6)).length = 81 ∧ (gA w (a + 7)).length = 370 ∧ (gA w (a + 8)).length = 6 ∧ sk_rf a 0 = true := by
  unfold okS at h
  simp only [Bool.and_eq_true] at h
  obtain ⟨⟨⟨⟨⟨⟨⟨⟨⟨⟨⟨h1, h2⟩, h3⟩, h4⟩, h5⟩, h6⟩, h7⟩, h8⟩, h9⟩, h10⟩, h11⟩, h12⟩ := h
  exact ⟨sk_fix hS (Nat.eq_of_beq_eq_true h1) (by omega), sk_fix hS (Nat.eq_of_beq_eq_true h2) (by omega), sk_fix hS (Nat.eq_of_beq_eq_true h3) (by omega), SK_isF hS h4, SK_isF hS h5, SK_isA hS h6, SK_isA hS h7, SK_isA hS h8, SK_len hS (Nat.eq_of_beq_eq_true h9) (by decide), SK_len hS (Nat.eq_of_beq_eq_true h10) (by decide), SK_len hS (Nat.eq_of_beq_eq_true h11) (by decide), h12⟩
/-- debts, rings' parts of the state at a -/
def dA (w : pm_W) (a q : Nat) : Int32 := (gA w (a + 6)).getD q 0
def gAr (w : pm_W) (a q : Nat) : Int32 := (gA w (a + 7)).getD q 0
theorem dA_aS (hS : SK w) (ok : okS a = true) (hj : x.toInt = j) (h : j < 81) : dA (aS w (a + 6) x y) a = updc (dA w a) j y := by
  funext q
  unfold dA updc
  obtain ⟨_, _, _, _, _, i6, _, _, l6, _⟩ := okS_r hS ok
  rw [gA_aS i6, i_nat hj, getD_set (by omega)]
theorem gAr_aS (hS : SK w) (ok : okS a = true) (hj : x.toInt = j) (h : j < 370) : gAr (aS w (a + 7) x y) a = updc (gAr w a) j y := by
  funext q
  unfold gAr updc
  obtain ⟨_, _, _, _, _, _, i7, _, _, l7, _⟩ := okS_r hS ok
  rw [gA_aS i7, i_nat hj, getD_set (by omega)]
theorem dA_ne {c : Nat} (h : c ≠ a + 6) : dA (aS w c x y) a = dA w a := by
  funext q
  unfold dA
  rw [gA_aS_ne h]
theorem gAr_ne {c : Nat} (h : c ≠ a + 7) : gAr (aS w c x y) a = gAr w a := by
  funext q
  unfold gAr
  rw [gA_aS_ne h]
theorem e10i : (10 : Int32).toInt = 10 := ten32
theorem nine32 : (9 : Int32).toInt = 9 := by decide +kernel
theorem F84 (hS : SK w) (ok : okS a = true) (hk : p1.toInt = K) (hj : p2.toInt = j) (hK : K ≤ 36) (hj10 : j < 10) (h : PS X k 84 0 [.ref a, .int p1, .int p2] [] w r w') : r = some (.int (gAr w a (10 * K + j))) ∧ w' = w := by
  cases k with
  | zero => exact (PS_0 h).elim
  | succ k =>
    obtain ⟨_, h1, h2⟩ := U84_0 hS h
    rw [(okS_r hS ok).2.1, aG_n (m := 10 * K + j) (by rw [zi_add (zi_mul hk e10i (by omega) (by omega)) hj (by omega) (by omega)]; omega)] at h1
    exact ⟨h1, h2⟩
theorem F83 (hS : SK w) (ok : okS a = true) (hk : p1.toInt = K) (hK : K ≤ 36) (h : PS X k 83 0 [.ref a, .int p1] [] w r w') : r = some (.int (b2i (opn (gAr w a) K))) ∧ w' = w := by
  cases k with
  | zero => exact (PS_0 h).elim
  | succ k =>
    have h := use_p hS (U83_0 hS h) (fun _ _ z => F84 (j := 3) hS ok hk three32 hK (by decide) z)
    unfold opn
    by_cases c : gAr w a (10 * K + 3) = 1
    · rw [if_pos c] at h
      rw [decide_eq_true c]
      exact h
    · rw [if_neg c] at h
      rw [decide_eq_false c]
      exact h
theorem F52n {x y : Nat} (hS : SK w) (h1 : p1.toInt = x) (h2 : p2.toInt = y) (hx : x < 9) (hy : y < 9) (h : PS X k 52 0 [.int p1, .int p2] [] w r w') : ∃ z : Int32, z.toInt = (9 * x + y : Nat) ∧ r = some (.int z) ∧ w' = w := by
  obtain ⟨a1, a2⟩ := F52 hS h
  exact ⟨_, by rw [zi_add (zi_mul h1 nine32 (by omega) (by omega)) h2 (by omega) (by omega)]; omega, a1, a2⟩
theorem mx0 {d : Int32} : (if 0 < d then d else 0) = if 0 < d.toInt then d else 0 := by
  by_cases c : 0 < d
  · rw [if_pos c]
    rw [Int32.lt_iff_toInt_lt, z32] at c
    rw [if_pos c]
  · rw [if_neg c]
    rw [Int32.lt_iff_toInt_lt, z32] at c
    rw [if_neg c]
theorem subZ_c (hx : 0 ≤ x.toInt ∧ x.toInt ≤ 99) (hn : 0 ≤ y.toInt ∧ y.toInt ≤ 99) : (if 0 < x - y then x - y else 0) = subZ x y := by
  have e : (x - y).toInt = x.toInt - y.toInt := zi_sub rfl rfl (by omega) (by omega)
  rw [mx0, e]
  unfold subZ
  by_cases c : x.toInt < y.toInt
  · rw [if_pos c, if_neg (by omega)]
  · rw [if_neg c]
    by_cases c2 : 0 < x.toInt - y.toInt
    · rw [if_pos c2]
    · rw [if_neg c2]
      exact Int32.toInt_inj.mp (by rw [e, z32]; omega)
/-- use of a call that answers a number of which something is known, and changes nothing -/
theorem use_z {mi : Nat} {ls : List Value} {C : Int32 → pm_W → Prop} {E : Int32 → Prop} (hS : SK w) (h : ∃ (r1 : Option Value) (w2 : pm_W), PS X k mi 0 ls [] w r1 w2 ∧ (∀ x3 : Int32, r1 = some (.int x3) → SK w2 → C x3 w2)) (F : ∀ r1 w2, PS X k mi 0 ls [] w r1 w2 → ∃ z : Int32, E z ∧ r1 = some (.int z) ∧ w2 = w) : ∃ z, E z ∧ C z w := by
  obtain ⟨r1, w2, h1, h2⟩ := h
  obtain ⟨z, e, q1, q2⟩ := F _ _ h1
  subst q2
  exact ⟨z, e, h2 z q1 hS⟩
theorem F85_17 (ok : okS a = true) {i1 i3 : Int32} {P : Nat} (hP : P ≤ 9) (hk : i1.toInt = K) (hK : K ≤ 36) (h3 : i3 = gAr w0 a (10 * K + 1)) (hR : WRg P (gAr w0 a) K) (hD : WD P (dA w0 a)) : ∀ (k : Nat) (w : pm_W) (t : Nat) (i2 i4 : Int32) (u5 u6 : Value), FM [] [a + 6] w0 w → SK w0 → i2.toInt = (rMy (gAr w0 a) K : Nat) → i4.toInt = t → t ≤ rMy (gAr w0 a) K → dA w a = stD (gAr w0 a) K t (dA w0 a) → PS X k 85 17 [.ref a, .int i1, .int i2, .int i3, .int i4, u5, u6] [] w r w' → r = none ∧ FM [] [a + 6, a + 7] w0 w' ∧ dA w' a = stD (gAr w0 a) K (rMy (gAr w0 a) K) (dA w0 a) ∧ gAr w' a = stG (gAr w0 a) K := by
  intro k
  induction k with
  | zero => intro w t i2 i4 u5 u6 f0 hS0 h2 h4 ht hd h; exact (PS_0 h).elim
  | succ k ih =>
    intro w t i2 i4 u5 u6 f0 hS0 h2 h4 ht hd h
    have hS := f0.2.2.2
    have h := U85_17 hS h
    obtain ⟨r3, r4, _⟩ := okS_r hS ok
    have m6 : rMy (gAr w0 a) K ≤ 6 := by have := hR.2.1; unfold rMy; omega
    have eg : gAr w a = gAr w0 a := by funext q; unfold gAr; rw [FM_a f0 (by simp)]
    by_cases c : i2 ≤ i4
    · rw [if_pos c] at h
      rw [Int32.le_iff_toInt_le, h2, h4] at c
      have et : t = rMy (gAr w0 a) K := by omega
      obtain ⟨_, h⟩ := h
      obtain ⟨a1, a2⟩ := h _ rfl
      rw [r4] at a2
      have ej : (i1 * 10 + 3).toInt = (10 * K + 3 : Nat) := by rw [zi_add (zi_mul hk e10i (by omega) (by omega)) three32 (by omega) (by omega)]; omega
      refine ⟨a1, FM_trans (FM_mono f0 (by simp) (by simp)) (by rw [a2]; exact FM_aS hS (by simp)), ?_, ?_⟩
      · rw [a2, dA_ne (by omega), hd, et]
      · rw [a2, gAr_aS hS ok ej (by omega), eg]
        rfl
    · rw [if_neg c] at h
      rw [Int32.le_iff_toInt_le, h2, h4] at c
      have h := use_p hS h (fun _ _ z => F84 (j := 4 + t) hS ok hk (by rw [zi_add four32 h4 (by omega) (by omega)]; rfl) hK (by omega) z)
      rw [eg] at h
      have who : (gAr w0 a (10 * K + (4 + t))).toInt = (rWho (gAr w0 a) K t : Nat) := by
        have z := hR.2.2.2.2.2.2.2.1 t (by omega)
        unfold rWho
        rw [show 10 * K + (4 + t) = 10 * K + 4 + t by omega]
        omega
      have wP := WR_who hR (i := t) (by omega)
      have nP := WR_nx hR (i := t) (by omega)
      have hDt := WD_stD hP hR hD t (by omega)
      have i41 : (i4 + 1).toInt = (t + 1 : Nat) := by rw [zi_inc (n := 10) (by omega) (by omega), h4]; rfl
      -- from the next one on
      have go : ∀ (x7 : Int32), x7.toInt = (rNx (gAr w0 a) K t : Nat) → (∃ (r8 : Option Value) (w9 : pm_W), PS X k 52 0 [.int (gAr w0 a (10 * K + (4 + t))), .int x7] [] w r8 w9 ∧ (∀ x10 : Int32, r8 = some (.int x10) → SK w9 → (∃ (r11 : Option Value) (w12 : pm_W), PS X k 52 0 [.int (gAr w0 a (10 * K + (4 + t))), .int x7] [] w9 r11 w12 ∧ (∀ x13 : Int32, r11 = some (.int x13) → SK w12 → (aI w12 (gR w9 a 3) x13 ∧ (aI w12 (gR w a 3) x10 ∧ (∀ w14 : pm_W, w14 = aS w12 (gR w a 3) x10 (if 0 < ((aG w12 (gR w9 a 3) x13) - i3) then ((aG w12 (gR w9 a 3) x13) - i3) else 0) → (PS X k 85 17 [.ref a, .int i1, .int i2, .int i3, .int (i4 + 1), .int (gAr w0 a (10 * K + (4 + t))), .int x7] [] w14 r w')))))))) → r = none ∧ FM [] [a + 6, a + 7] w0 w' ∧ dA w' a = stD (gAr w0 a) K (rMy (gAr w0 a) K) (dA w0 a) ∧ gAr w' a = stG (gAr w0 a) K := by
        intro x7 h7 z
        obtain ⟨c1, hc1, z⟩ := use_z hS z (fun _ _ y => F52n hS who h7 (by omega) (by omega) y)
        obtain ⟨c2, hc2, z⟩ := use_z hS z (fun _ _ y => F52n hS who h7 (by omega) (by omega) y)
        obtain ⟨_, _, z⟩ := z
        have z := z _ rfl
        have ec : (9 * rWho (gAr w0 a) K t + rNx (gAr w0 a) K t) = rCl (gAr w0 a) K t := rfl
        rw [ec] at hc1 hc2
        have c81 : rCl (gAr w0 a) K t < 81 := by rw [← ec]; omega
        have ed : aG w (gR w a 3) c2 = stD (gAr w0 a) K t (dA w0 a) (rCl (gAr w0 a) K t) := by
          rw [r3, aG_n (m := rCl (gAr w0 a) K t) hc2, ← hd]
          rfl
        rw [ed, r3, h3, subZ_c (hDt.1 _) ⟨hR.2.2.1, hR.2.2.2.1⟩] at z
        refine ih _ (t + 1) i2 (i4 + 1) _ _ (FM_trans f0 (FM_aS hS (List.mem_singleton_self _))) hS0 h2 i41 (by omega) ?_ (by rw [h3]; exact z)
        rw [dA_aS hS ok hc1 c81, hd]
        rfl
      by_cases c1 : i2 ≤ i4 + 1
      · rw [if_pos c1] at h
        rw [Int32.le_iff_toInt_le, h2, i41] at c1
        have h := use_p hS h (fun _ _ z => F84 (j := 4) hS ok hk (by decide +kernel) hK (by decide) z)
        rw [eg] at h
        refine go _ ?_ h
        have z := hR.2.2.2.2.2.2.2.1 0 (by omega)
        unfold rNx
        rw [if_neg (by omega)]
        unfold rWho
        rw [Nat.add_zero] at z ⊢
        omega
      · rw [if_neg c1] at h
        rw [Int32.le_iff_toInt_le, h2, i41] at c1
        have h := use_p hS h (fun _ _ z => F84 (j := 4 + (t + 1)) hS ok hk (by rw [zi_add four32 i41 (by omega) (by omega)]; rfl) hK (by omega) z)
        rw [eg] at h
        refine go _ ?_ h
        have z := hR.2.2.2.2.2.2.2.1 (t + 1) (by omega)
        unfold rNx
        rw [if_pos (by omega)]
        unfold rWho
        rw [show 10 * K + (4 + (t + 1)) = 10 * K + 4 + (t + 1) by omega]
        omega
theorem F85 (hS : SK w) (ok : okS a = true) (hP : P ≤ 9) (hk : p1.toInt = K) (hK : K ≤ 36) (hR : WRg P (gAr w a) K) (hD : WD P (dA w a)) (h : PS X k 85 0 [.ref a, .int p1, pm_dead, pm_dead, pm_dead, pm_dead, pm_dead] [] w r w') : r = none ∧ FM [] [a + 6, a + 7] w w' ∧ dA w' a = stD (gAr w a) K (rMy (gAr w a) K) (dA w a) ∧ gAr w' a = stG (gAr w a) K := by
  cases k with
  | zero => exact (PS_0 h).elim
  | succ k =>
    have h := use_p hS (U85_0 hS h) (fun _ _ z => F84 (j := 0) hS ok hk z32 hK (by decide) z)
    have h := use_p hS h (fun _ _ z => F84 (j := 1) hS ok hk o32 hK (by decide) z)
    refine F85_17 ok hP hk hK rfl hR hD _ w 0 _ _ _ _ (FM_refl hS) hS ?_ z32 (Nat.zero_le _) rfl h
    rw [Nat.add_zero]
    have := hR.1
    unfold rMy
    omega
end GW
