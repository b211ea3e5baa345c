/-! ===== rings for a want: which there are, which is best ===== -/
section JEA
variable {R : Nat → Nat → Int} {y : Int} {P a b m c m' c' d p i j x t q : Nat} {G G' : Nat → Nat → Int} {V V' : Nat → Nat → Prop}
/-- who is at i in the ring of m with number c -/
def elN (a b m c i : Nat) : Nat := if i = 0 then a else if i = 1 then b else c / 9 ^ (m - 1 - i) % 9
theorem elN_pre (hd : 2 ≤ d) (hm : d ≤ m) (hi : i < d) : elN a b d (c / 9 ^ (m - d)) i = elN a b m c i := by
  unfold elN
  by_cases h0 : i = 0
  · rw [if_pos h0, if_pos h0]
  · rw [if_neg h0, if_neg h0]
    by_cases h1 : i = 1
    · rw [if_pos h1, if_pos h1]
    · rw [if_neg h1, if_neg h1, Nat.div_div_eq_div_mul, ← Nat.pow_add, show m - d + (d - 1 - i) = m - 1 - i by omega]
theorem elN_lo (hd : 2 ≤ d) (hp : p < 9) (hi : i < d) : elN a b (d + 1) (9 * c + p) i = elN a b d c i := by
  rw [← elN_pre (d := d) hd (Nat.le_succ d) hi, show d + 1 - d = 1 by omega, Nat.pow_one, show (9 * c + p) / 9 = c by omega]
theorem elN_hi (hd : 2 ≤ d) (hp : p < 9) : elN a b (d + 1) (9 * c + p) d = p := by
  unfold elN
  rw [if_neg (by omega), if_neg (by omega), show d + 1 - 1 - d = 0 by omega, Nat.pow_zero, Nat.div_one]
  omega
theorem elN_0 : elN a b m c 0 = a := rfl
theorem elN_1 : elN a b m c 1 = b := rfl
/-- one after another, as far as it goes -/
def VPr (R : Nat → Nat → Int) (P : Nat) (y : Int) (a b m c : Nat) : Prop := (∀ i, i < m → elN a b m c i < P) ∧ (∀ i j, i < j → j < m → elN a b m c i ≠ elN a b m c j) ∧ ∀ i, i + 1 < m → y ≤ R (elN a b m c i) (elN a b m c (i + 1))
/-- a ring -/
def VRg (R : Nat → Nat → Int) (P : Nat) (y : Int) (a b m c : Nat) : Prop := 2 ≤ m ∧ m ≤ 6 ∧ c < 9 ^ (m - 2) ∧ VPr R P y a b m c ∧ y ≤ R (elN a b m c (m - 1)) a
theorem VPr_pre (hd : 2 ≤ d) (hm : d ≤ m) (h : VPr R P y a b m c) : VPr R P y a b d (c / 9 ^ (m - d)) := by
  obtain ⟨h1, h2, h3⟩ := h
  refine ⟨fun i hi => ?_, fun i j hij hj => ?_, fun i hi => ?_⟩
  · rw [elN_pre hd hm hi]; exact h1 i (by omega)
  · rw [elN_pre hd hm (by omega), elN_pre hd hm hj]; exact h2 i j hij (by omega)
  · rw [elN_pre hd hm (by omega), elN_pre hd hm hi]; exact h3 i (by omega)
theorem VPr_ext (hd : 2 ≤ d) (hp : p < 9) : VPr R P y a b (d + 1) (9 * c + p) ↔ VPr R P y a b d c ∧ p < P ∧ (∀ i, i < d → elN a b d c i ≠ p) ∧ y ≤ R (elN a b d c (d - 1)) p := by
  constructor
  · intro h
    have h0 := VPr_pre hd (Nat.le_succ d) h
    rw [show d + 1 - d = 1 by omega, Nat.pow_one, show (9 * c + p) / 9 = c by omega] at h0
    obtain ⟨h1, h2, h3⟩ := h
    refine ⟨h0, ?_, fun i hi => ?_, ?_⟩
    · have := h1 d (Nat.lt_succ_self d)
      rw [elN_hi hd hp] at this
      exact this
    · have := h2 i d hi (Nat.lt_succ_self d)
      rw [elN_hi hd hp, elN_lo hd hp hi] at this
      exact this
    · have := h3 (d - 1) (by omega)
      rw [show d - 1 + 1 = d by omega, elN_hi hd hp, elN_lo hd hp (by omega)] at this
      exact this
  · rintro ⟨⟨h1, h2, h3⟩, g1, g2, g3⟩
    refine ⟨fun i hi => ?_, fun i j hij hj => ?_, fun i hi => ?_⟩
    · by_cases e : i = d
      · rw [e, elN_hi hd hp]; exact g1
      · rw [elN_lo hd hp (by omega)]; exact h1 i (by omega)
    · by_cases e : j = d
      · rw [e, elN_hi hd hp, elN_lo hd hp (by omega)]; exact g2 i (by omega)
      · rw [elN_lo hd hp (by omega), elN_lo hd hp (by omega)]; exact h2 i j hij (by omega)
    · by_cases e : i + 1 = d
      · rw [e, elN_hi hd hp, elN_lo hd hp (by omega), show i = d - 1 by omega]; exact g3
      · rw [elN_lo hd hp (by omega), elN_lo hd hp (by omega)]; exact h3 i (by omega)
/-- better: the measure, then shorter, then the lesser number -/
def BTt (G : Nat → Nat → Int) (m c m' c' : Nat) : Prop := G m' c' < G m c ∨ (G m c = G m' c' ∧ (m < m' ∨ (m = m' ∧ c < c')))
def BSt (G : Nat → Nat → Int) (V : Nat → Nat → Prop) (m c : Nat) : Prop := V m c ∧ ∀ m' c', V m' c' → (m' = m ∧ c' = c) ∨ BTt G m c m' c'
theorem BTt_as (h1 : BTt G m c m' c') (h2 : BTt G m' c' m c) : False := by
  unfold BTt at h1 h2
  omega
theorem BSt_uq (h1 : BSt G V m c) (h2 : BSt G V m' c') : m = m' ∧ c = c' := by
  rcases h1.2 m' c' h2.1 with q | q
  · exact ⟨q.1.symm, q.2.symm⟩
  · rcases h2.2 m c h1.1 with q2 | q2
    · exact q2
    · exact (BTt_as q q2).elim
theorem BSt_cg (h : ∀ m c, V m c ↔ V' m c) (h1 : BSt G V m c) : BSt G V' m c := ⟨(h m c).mp h1.1, fun m' c' q => h1.2 m' c' ((h m' c').mpr q)⟩
/-- one more that is not better -/
theorem BSt_o (h : BSt G V m c) (hn : BTt G m c m' c') : BSt G (fun m1 c1 => V m1 c1 ∨ (m1 = m' ∧ c1 = c')) m c := by
  refine ⟨Or.inl h.1, fun m1 c1 q => ?_⟩
  rcases q with q | q
  · exact h.2 m1 c1 q
  · rw [q.1, q.2]; exact Or.inr hn
/-- one more that is better -/
theorem BSt_n (h : BSt G V m c) (hn : BTt G m' c' m c) : BSt G (fun m1 c1 => V m1 c1 ∨ (m1 = m' ∧ c1 = c')) m' c' := by
  refine ⟨Or.inr ⟨rfl, rfl⟩, fun m1 c1 q => ?_⟩
  rcases q with q | q
  · rcases h.2 m1 c1 q with e | e
    · rw [e.1, e.2]; exact Or.inr hn
    · refine Or.inr ?_
      unfold BTt at hn e ⊢
      omega
  · exact Or.inl q
theorem BSt_1 (h : ∀ m c, ¬ V m c) : BSt G (fun m1 c1 => V m1 c1 ∨ (m1 = m' ∧ c1 = c')) m' c' := ⟨Or.inr ⟨rfl, rfl⟩, fun m1 c1 q => q.elim (fun q => absurd q (h m1 c1)) Or.inl⟩
/-- those that begin so -/
def EXr (R : Nat → Nat → Int) (P : Nat) (y : Int) (a b d c m x : Nat) : Prop := VRg R P y a b m x ∧ d ≤ m ∧ x / 9 ^ (m - d) = c
theorem EXr_self (hd : 2 ≤ d) : EXr R P y a b d c m x ↔ (m = d ∧ x = c ∧ VRg R P y a b d c) ∨ ∃ p, p < 9 ∧ EXr R P y a b (d + 1) (9 * c + p) m x := by
  constructor
  · rintro ⟨h1, h2, h3⟩
    by_cases e : m = d
    · rw [e, Nat.sub_self, Nat.pow_zero, Nat.div_one] at h3
      rw [e, h3] at h1
      exact Or.inl ⟨e, h3, h1⟩
    · refine Or.inr ⟨x / 9 ^ (m - (d + 1)) % 9, Nat.mod_lt _ (by decide), h1, by omega, ?_⟩
      have q : x / 9 ^ (m - (d + 1)) / 9 = c := by
        rw [← h3, Nat.div_div_eq_div_mul, ← Nat.pow_succ, show (m - (d + 1)).succ = m - d by omega]
      omega
  · rintro (⟨e1, e2, h⟩ | ⟨p, hp, h1, h2, h3⟩)
    · rw [e1, e2]
      exact ⟨h, Nat.le_refl d, by rw [Nat.sub_self, Nat.pow_zero, Nat.div_one]⟩
    · refine ⟨h1, by omega, ?_⟩
      rw [show m - d = (m - (d + 1)).succ by omega, Nat.pow_succ, ← Nat.div_div_eq_div_mul, h3]
      omega
theorem EXr_no (hd : 2 ≤ d) (h : ¬ VPr R P y a b d c) : ¬ EXr R P y a b d c m x := fun q => h (by rw [← q.2.2]; exact VPr_pre hd q.2.1 q.1.2.2.2.1)
theorem EXr_6 (hd : 6 < d) : ¬ EXr R P y a b d c m x := fun q => by have := q.1.2.1; have := q.2.1; omega
end JEA
