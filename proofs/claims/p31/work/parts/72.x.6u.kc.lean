/-! ===== state: debts parted into rings; what both sides do, what it leaves ===== -/
section KCA
variable {a i v j m m' u P t t' s s' b d q q2 p p' f f' N K : Nat} {y : Int} {x z l l' : Int32} {D D' D1 D2 T : Nat → Int32} {e e' : Nat → Nat} {R : (Nat → Int32) → (Nat → Int32) → Prop}
def nxP (D : Nat → Int32) (p q : Nat) : Prop := q < 9 ∧ 0 < (D (9 * p + q)).toInt ∧ ∀ q', q' < q → (D (9 * p + q')).toInt ≤ 0
def nxN (D : Nat → Int32) (p : Nat) : Prop := ∀ q, q < 9 → (D (9 * p + q)).toInt ≤ 0
theorem nxP_uq (h1 : nxP D p q) (h2 : nxP D p q2) : q = q2 := by
  obtain ⟨a1, a2, a3⟩ := h1
  obtain ⟨b1, b2, b3⟩ := h2
  rcases Nat.lt_trichotomy q q2 with c | c | c
  · have := b3 q c; omega
  · exact c
  · have := a3 q2 c; omega
theorem nxP_N (h1 : nxP D p q) (h2 : nxN D p) : False := by
  have a := h1.2.1
  have b := h2 q h1.1
  omega
/-- the least who owes; nobody owes -/
def fsP (D : Nat → Int32) (p : Nat) : Prop := p < 9 ∧ (∃ q, q < 9 ∧ 0 < (D (9 * p + q)).toInt) ∧ ∀ p' q, p' < p → q < 9 → (D (9 * p' + q)).toInt ≤ 0
def fsN (D : Nat → Int32) : Prop := ∀ p q, p < 9 → q < 9 → (D (9 * p + q)).toInt ≤ 0
theorem fsP_uq (h1 : fsP D p) (h2 : fsP D p') : p = p' := by
  obtain ⟨a1, ⟨q, a2, a3⟩, a4⟩ := h1
  obtain ⟨b1, ⟨q2, b2, b3⟩, b4⟩ := h2
  rcases Nat.lt_trichotomy p p' with c | c | c
  · have := b4 p q c a2; omega
  · exact c
  · have := a4 p' q2 c b2; omega
theorem fsP_N (h1 : fsP D p) (h2 : fsN D) : False := by
  obtain ⟨a1, ⟨q, a2, a3⟩, a4⟩ := h1
  have := h2 p q a1 a2
  omega
/-- the walk from f, m steps -/
def wkP (D : Nat → Int32) (f : Nat) (e : Nat → Nat) (m : Nat) : Prop := e 0 = f ∧ (∀ i, i ≤ m → e i < 9) ∧ (∀ i, i < m → nxP D (e i) (e (i + 1))) ∧ ∀ i j, i < j → j < m → e i ≠ e j
def WLK (D : Nat → Int32) (f : Nat) (e : Nat → Nat) (m s : Nat) : Prop := wkP D f e m ∧ s < m ∧ e m = e s
def DED (D : Nat → Int32) (f : Nat) : Prop := ∃ (e : Nat → Nat) (m : Nat), wkP D f e m ∧ (∀ i, i < m → e i ≠ e m) ∧ nxN D (e m)
theorem wkQ_eq (h1 : wkP D f e m) (h2 : wkP D f e' m') : ∀ i, i ≤ m → i ≤ m' → e i = e' i
  | 0, _, _ => by rw [h1.1, h2.1]
  | i + 1, g1, g2 => by
    have ih := wkQ_eq h1 h2 i (by omega) (by omega)
    have a := h1.2.2.1 i (by omega)
    have b := h2.2.2.1 i (by omega)
    rw [ih] at a
    exact nxP_uq a b
theorem WLK_uq (h1 : WLK D f e m s) (h2 : WLK D f e' m' s') : m = m' ∧ s = s' ∧ ∀ i, i ≤ m → e i = e' i := by
  obtain ⟨a1, a2, a3⟩ := h1
  obtain ⟨b1, b2, b3⟩ := h2
  have q := wkQ_eq a1 b1
  have em : m = m' := by
    rcases Nat.lt_trichotomy m m' with c | c | c
    · have x1 := q m (Nat.le_refl m) (by omega)
      have x2 := q s (by omega) (by omega)
      exact absurd (x2.symm.trans (a3.symm.trans x1)) (b1.2.2.2 s m a2 c)
    · exact c
    · have x1 := q m' (by omega) (Nat.le_refl m')
      have x2 := q s' (by omega) (by omega)
      exact absurd (x2.trans (b3.symm.trans x1.symm)) (a1.2.2.2 s' m' b2 c)
  subst em
  refine ⟨rfl, ?_, fun i hi => q i hi hi⟩
  have x1 := q m (Nat.le_refl m) (Nat.le_refl m)
  have x2 := q s' (by omega) (by omega)
  have es : e s = e s' := by rw [← a3, x1, b3, x2]
  rcases Nat.lt_trichotomy s s' with c | c | c
  · exact absurd es (a1.2.2.2 s s' c b2)
  · exact c
  · exact absurd es.symm (a1.2.2.2 s' s c a2)
theorem DED_no (h1 : WLK D f e m s) (h2 : DED D f) : False := by
  obtain ⟨a1, a2, a3⟩ := h1
  obtain ⟨e', m', b1, b2, b3⟩ := h2
  have q := wkQ_eq a1 b1
  rcases Nat.lt_or_ge m' m with c | c
  · have x1 := q m' (by omega) (Nat.le_refl m')
    have x2 := a1.2.2.1 m' c
    rw [x1] at x2
    exact nxP_N x2 b3
  · have x1 := q m (Nat.le_refl m) c
    have x2 := q s (by omega) (by omega)
    have es : e' s = e' m := by rw [← x1, ← x2, a3]
    rcases Nat.lt_or_ge m m' with c2 | c2
    · exact b1.2.2.2 s m a2 c2 es
    · have em : m' = m := by omega
      rw [em] at b2
      exact b2 s a2 es
/-- the cell of step i behind s -/
def wkC (e : Nat → Nat) (s i : Nat) : Nat := 9 * e (s + i) + e (s + i + 1)
def mnW (D : Nat → Int32) (e : Nat → Nat) (s : Nat) : Nat → Int32
  | 0 => 1000000
  | i + 1 => if D (wkC e s i) < mnW D e s i then D (wkC e s i) else mnW D e s i
def sbW (D : Nat → Int32) (e : Nat → Nat) (s : Nat) (l : Int32) : Nat → Nat → Int32
  | 0 => D
  | i + 1 => updc (sbW D e s l i) (wkC e s i) (sbW D e s l i (wkC e s i) - l)
theorem mnW_cg (h : ∀ i, i ≤ m → e i = e' i) : ∀ i, s + i ≤ m → mnW D e s i = mnW D e' s i
  | 0, _ => rfl
  | i + 1, hi => by
    unfold mnW wkC
    rw [mnW_cg h i (by omega), h (s + i) (by omega), h (s + i + 1) (by omega)]
theorem sbW_cg (h : ∀ i, i ≤ m → e i = e' i) : ∀ i, s + i ≤ m → sbW D e s l i = sbW D e' s l i
  | 0, _ => rfl
  | i + 1, hi => by
    unfold sbW wkC
    rw [sbW_cg h i (by omega), h (s + i) (by omega), h (s + i + 1) (by omega)]
/-- a ring taken off -/
def TKO (D : Nat → Int32) (f : Nat) (D' : Nat → Int32) : Prop := ∃ (e : Nat → Nat) (m s : Nat), WLK D f e m s ∧ D' = sbW D e s (mnW D e s (m - s)) (m - s)
theorem TKO_uq (h1 : TKO D f D1) (h2 : TKO D f D2) : D1 = D2 := by
  obtain ⟨e, m, s, a1, a2⟩ := h1
  obtain ⟨e', m', s', b1, b2⟩ := h2
  obtain ⟨e1, e2, e3⟩ := WLK_uq a1 b1
  subst e1
  subst e2
  have sm := a1.2.1
  rw [a2, b2, mnW_cg e3 (m - s) (by omega), sbW_cg e3 (m - s) (by omega)]
def OKD (D : Nat → Int32) : Prop := ∀ q, 0 ≤ (D q).toInt ∧ (D q).toInt ≤ 99
/-- the cells of a ring are different -/
theorem wkC_ne (h : WLK D f e m s) (hi : i < m - s) (hj : j < m - s) (hij : i ≠ j) : wkC e s i ≠ wkC e s j := by
  obtain ⟨a1, a2, a3⟩ := h
  have n1 := a1.2.1 (s + i + 1) (by omega)
  have n2 := a1.2.1 (s + j + 1) (by omega)
  have ne : e (s + i) ≠ e (s + j) := by
    rcases Nat.lt_or_ge i j with c | c
    · exact a1.2.2.2 (s + i) (s + j) (by omega) (by omega)
    · exact fun q => a1.2.2.2 (s + j) (s + i) (by omega) (by omega) q.symm
  unfold wkC
  omega
theorem wkC_p (h : WLK D f e m s) (hi : i < m - s) : 0 < (D (wkC e s i)).toInt ∧ wkC e s i < 81 := by
  obtain ⟨a1, a2, a3⟩ := h
  have n1 := a1.2.1 (s + i) (by omega)
  have n2 := a1.2.1 (s + i + 1) (by omega)
  exact ⟨(a1.2.2.1 (s + i) (by omega)).2.1, by unfold wkC; omega⟩
/-- the least of a ring is below all, and one of them -/
theorem mnW_le (h : WLK D f e m s) (hD : OKD D) : ∀ i, i ≤ m - s → 1 ≤ i → 0 < (mnW D e s i).toInt ∧ (mnW D e s i).toInt ≤ 99 ∧ (∀ j, j < i → (mnW D e s i).toInt ≤ (D (wkC e s j)).toInt) ∧ ∃ j, j < i ∧ mnW D e s i = D (wkC e s j) := by
  intro i
  induction i with
  | zero => intro _ h1; omega
  | succ i ih =>
    intro hi _
    have pc := wkC_p h (show i < m - s by omega)
    have pd := hD (wkC e s i)
    have e1 : mnW D e s (i + 1) = if D (wkC e s i) < mnW D e s i then D (wkC e s i) else mnW D e s i := rfl
    by_cases c : D (wkC e s i) < mnW D e s i
    · rw [if_pos c] at e1
      rw [Int32.lt_iff_toInt_lt] at c
      rw [e1]
      refine ⟨pc.1, pd.2, fun j hj => ?_, i, Nat.lt_succ_self i, rfl⟩
      by_cases ej : j = i
      · rw [ej]; exact Int.le_refl _
      · have q := (ih (by omega) (by omega)).2.2.1 j (by omega)
        omega
    · rw [if_neg c] at e1
      rw [Int32.lt_iff_toInt_lt] at c
      rw [e1]
      cases i with
      | zero =>
        have z : (mnW D e s 0).toInt = 1000000 := by show (1000000 : Int32).toInt = _; decide +kernel
        omega
      | succ i =>
        obtain ⟨q1, q2, q3, j0, q4, q5⟩ := ih (by omega) (by omega)
        refine ⟨q1, q2, fun j hj => ?_, j0, by omega, q5⟩
        by_cases ej : j = i + 1
        · rw [ej]; omega
        · exact q3 j (by omega)
theorem sbW_q (h : WLK D f e m s) : ∀ i, i ≤ m - s → (∀ j, j < i → sbW D e s l i (wkC e s j) = D (wkC e s j) - l) ∧ ∀ q, (∀ j, j < i → q ≠ wkC e s j) → sbW D e s l i q = D q := by
  intro i
  induction i with
  | zero => intro _; exact ⟨fun j hj => absurd hj (Nat.not_lt_zero j), fun q _ => rfl⟩
  | succ i ih =>
    intro hi
    obtain ⟨a1, a2⟩ := ih (by omega)
    have e1 : sbW D e s l (i + 1) = updc (sbW D e s l i) (wkC e s i) (sbW D e s l i (wkC e s i) - l) := rfl
    have e2 := a2 (wkC e s i) (fun j hj => wkC_ne h (by omega) (by omega) (by omega))
    refine ⟨fun j hj => ?_, fun q hq => ?_⟩
    · rw [e1]
      unfold updc
      by_cases ej : j = i
      · rw [ej, if_pos rfl, e2]
      · rw [if_neg (wkC_ne h (by omega) (by omega) ej)]
        exact a1 j (by omega)
    · rw [e1]
      unfold updc
      rw [if_neg (hq i (Nat.lt_succ_self i))]
      exact a2 q (fun j hj => hq j (by omega))
def posD (D : Nat → Int32) (q : Nat) : Bool := decide (0 < (D q).toInt)
/-- each ring ends one debt at least -/
theorem TKO_lt (hD : OKD D) (h : TKO D f D') : OKD D' ∧ cntN (posD D') 81 + 1 ≤ cntN (posD D) 81 := by
  obtain ⟨e, m, s, a1, a2⟩ := h
  have sm := a1.2.1
  obtain ⟨l1, l2, l3, j0, l4, l5⟩ := mnW_le a1 hD (m - s) (Nat.le_refl _) (by omega)
  obtain ⟨l, hl⟩ : ∃ l, l = mnW D e s (m - s) := ⟨_, rfl⟩
  rw [← hl] at a2 l1 l2 l3 l5
  obtain ⟨b1, b2⟩ := sbW_q (l := l) a1 (m - s) (Nat.le_refl _)
  have cell : ∀ q, (∃ j, j < m - s ∧ q = wkC e s j ∧ (D' q).toInt = (D q).toInt - l.toInt ∧ l.toInt ≤ (D q).toInt) ∨ D' q = D q := by
    intro q
    rcases Classical.em (∃ j, j < m - s ∧ q = wkC e s j) with ⟨j, hj, hq⟩ | hn
    · have d := hD q
      have x := l3 j hj
      have y := b1 j hj
      rw [← hq] at x y
      refine Or.inl ⟨j, hj, hq, ?_, x⟩
      rw [a2, y]
      exact zi_sub rfl rfl (by omega) (by omega)
    · refine Or.inr ?_
      rw [a2]
      exact b2 q (fun j hj e => hn ⟨j, hj, e⟩)
  refine ⟨fun q => ?_, cntN_lt 81 (fun q _ hq => ?_) ⟨wkC e s j0, (wkC_p a1 l4).2, decide_eq_true (wkC_p a1 l4).1, ?_⟩⟩
  · have d := hD q
    rcases cell q with ⟨_, _, _, c1, c2⟩ | c
    · rw [c1]; omega
    · rw [c]; exact d
  · have hq := of_decide_eq_true hq
    refine decide_eq_true ?_
    rcases cell q with ⟨_, _, _, c1, c2⟩ | c
    · omega
    · rw [← c]; exact hq
  · have y := b1 j0 l4
    refine decide_eq_false ?_
    rw [a2, y, ← l5, Int32.sub_self, z32]
    omega
/-- one turn of either side -/
def stCk (D D' : Nat → Int32) : Prop := ∃ f, fsP D f ∧ (TKO D f D' ∨ (DED D f ∧ D' = D))
def stR (D D' : Nat → Int32) : Prop := ∃ f, fsP D f ∧ TKO D f D'
def ITR (R : (Nat → Int32) → (Nat → Int32) → Prop) : Nat → (Nat → Int32) → (Nat → Int32) → Prop
  | 0, D, D' => D' = D
  | n + 1, D, D' => ∃ D1, ITR R n D D1 ∧ R D1 D'
theorem ITR_j : ∀ t D', ITR R t D D' → ∀ j, j < t → ∃ D1 D2, ITR R j D D1 ∧ R D1 D2
  | 0, _, _, j, hj => absurd hj (Nat.not_lt_zero j)
  | t + 1, D', h, j, hj => by
    obtain ⟨D1, h1, h2⟩ := h
    by_cases e : j = t
    · rw [e]; exact ⟨D1, D', h1, h2⟩
    · exact ITR_j t D1 h1 j (by omega)
theorem ITR_2 : ∀ t D1 D2, ITR stCk t D D1 → ITR stR t D D2 → D1 = D2
  | 0, _, _, h1, h2 => h1.trans h2.symm
  | t + 1, D1, D2, h1, h2 => by
    obtain ⟨A, a1, f, a2, a3⟩ := h1
    obtain ⟨B, b1, f', b2, b3⟩ := h2
    have e := ITR_2 t A B a1 b1
    subst e
    have ef := fsP_uq a2 b2
    subst ef
    rcases a3 with a3 | ⟨a3, _⟩
    · exact TKO_uq a3 b3
    · obtain ⟨e, m, s, c1, _⟩ := b3
      exact (DED_no c1 a3).elim
theorem ITR_ok (hD : OKD D) (t : Nat) : ∀ D', ITR stR t D D' → OKD D' ∧ cntN (posD D') 81 + t ≤ 81 := by
  induction t with
  | zero =>
    intro D' h
    have h : D' = D := h
    have q : cntN (posD D) 81 ≤ 81 := cntN_le 81
    rw [h]
    exact ⟨hD, by omega⟩
  | succ t ih =>
    intro D' h
    obtain ⟨A, a1, f, a2, a3⟩ := h
    obtain ⟨b1, b2⟩ := ih A a1
    obtain ⟨c1, c2⟩ := TKO_lt b1 a3
    exact ⟨c1, by omega⟩
theorem su_z {f : Nat → Int} : ∀ n, (∀ i, i < n → 0 ≤ f i) → suI f n ≤ 0 → ∀ i, i < n → f i = 0
  | 0, _, _, i, hi => absurd hi (Nat.not_lt_zero i)
  | n + 1, h0, hs, i, hi => by
    have a := suI_nn (f := f) (n := n) (fun i hi => h0 i (by omega))
    have b := h0 n (by omega)
    have hs : suI f n + f n ≤ 0 := hs
    by_cases e : i = n
    · rw [e]; omega
    · exact su_z n (fun i hi => h0 i (by omega)) (by omega) i (by omega)
/-- both sides count alike -/
theorem part_2 (hD : OKD D) (h1 : ITR stCk t D D1) (hx1 : fsN D1 ∨ t = 81) (h2 : ITR stR t' D D2) (hx2 : (f32 D2 81).toInt ≤ 0) : t' = t := by
  obtain ⟨o2, c2⟩ := ITR_ok hD t' D2 h2
  have zero : ∀ q, q < 81 → (D2 q).toInt = 0 := by
    have e := (f32_i o2 81 (Nat.le_refl _)).1
    exact su_z 81 (fun q _ => (o2 q).1) (by rw [← e]; exact hx2)
  rcases Nat.lt_trichotomy t' t with c | c | c
  · obtain ⟨A, B, a1, f, a2, a3⟩ := ITR_j t D1 h1 t' c
    have e := ITR_2 t' A D2 a1 h2
    rw [e] at a2
    obtain ⟨b1, ⟨q, b2, b3⟩, _⟩ := a2
    have := zero (9 * f + q) (by omega)
    omega
  · exact c
  · obtain ⟨A, B, a1, f, a2, a3⟩ := ITR_j t' D2 h2 t c
    have e := ITR_2 t D1 A h1 a1
    rcases hx1 with hx1 | hx1
    · rw [e] at hx1
      exact (fsP_N a2 hx1).elim
    · omega
end KCA
