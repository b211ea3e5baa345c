/-! ===== the class's reader: a number judged ===== -/
section FI
variable {X : pm_X} {k : Nat} {w w' : pm_W} {r : Option Value} {p p1 p2 p3 : Int32}
/-- a number that is told twice: two people alike, one in a ring already -/
def twi (v l : Nat) (x : Int32) (ns : Nat → Int32) : Prop := ((v = 0 ∨ v = 1 ∨ v = 7 ∨ v = 12) ∧ l = 1 ∧ x = ns 0) ∨ (v = 2 ∧ ∃ t, 2 ≤ t ∧ t < l ∧ t < 8 ∧ x = ns t)
def lwL (v l : Nat) : Int := ((xA pg_arr 2).getD (4 * v + min l 3) 0).toInt
def lwH (v l : Nat) : Int := ((xA pg_arr 3).getD (4 * v + min l 3) 0).toInt
def badN (v l : Nat) (x : Int32) (ns : Nat → Int32) : Prop := x.toInt < lwL v l ∨ lwH v l < x.toInt ∨ twi v l x ns
/-- the class's numbers -/
def cns (w : pm_W) (j : Nat) : Int32 := (gA w 31).getD j 0
theorem eight32 : (8 : Int32).toInt = 8 := by decide +kernel
theorem F48_54 {l : Nat} {i1 i2 : Int32} (hl : i2.toInt = l) : ∀ (k : Nat) (w : pm_W) (t : Nat) (x : Int32), SK w → x.toInt = t → (∀ u, 2 ≤ u → u < t → gI w 23 8 ≠ cns w u) → PS X k 48 54 [.ref 23, .int i1, .int i2, .int x] [] w r w' → w' = w ∧ ∃ b : Bool, r = some (.int (b2i b)) ∧ (b = true ↔ ∃ u, (2 ≤ u ∧ u < t ∧ False) ∨ (t ≤ u ∧ u < l ∧ u < 8 ∧ gI w 23 8 = cns w u)) := by
  intro k
  induction k with
  | zero => intro w t x hS hx hm h; exact (PS_0 h).elim
  | succ k ih =>
    intro w t x hS hx hm h
    have h := U48_54 hS h
    by_cases c1 : i2 ≤ x
    · rw [if_pos c1] at h
      rw [Int32.le_iff_toInt_le, hl, hx] at c1
      refine ⟨h.2, false, h.1, fun z => (Bool.false_ne_true z).elim, ?_⟩
      rintro ⟨u, ⟨_, _, z⟩ | ⟨z1, z2, _⟩⟩
      · exact z.elim
      · omega
    · rw [if_neg c1] at h
      rw [Int32.le_iff_toInt_le, hl, hx] at c1
      by_cases c2 : 8 ≤ x
      · rw [if_pos c2] at h
        rw [Int32.le_iff_toInt_le, eight32, hx] at c2
        refine ⟨h.2, false, h.1, fun z => (Bool.false_ne_true z).elim, ?_⟩
        rintro ⟨u, ⟨_, _, z⟩ | ⟨z1, z2, z3, _⟩⟩
        · exact z.elim
        · omega
      · rw [if_neg c2] at h
        rw [Int32.le_iff_toInt_le, eight32, hx] at c2
        have h := h.2
        have ea : aG w 31 x = cns w t := by
          unfold aG cns
          rw [i_nat hx]
        rw [ea] at h
        by_cases c3 : gI w 23 8 = cns w t
        · rw [if_pos c3] at h
          exact ⟨h.2, true, h.1, fun _ => ⟨t, Or.inr ⟨Nat.le_refl _, by omega, by omega, c3⟩⟩, fun _ => rfl⟩
        · rw [if_neg c3] at h
          obtain ⟨g1, b, g2, g3⟩ := ih w (t + 1) (x + 1) hS (by rw [zi_inc (n := 8) (by omega) (by omega), hx]; rfl) (fun u h1 h2 => by
            by_cases e : u = t
            · rw [e]; exact c3
            · exact hm u h1 (by omega)) h
          refine ⟨g1, b, g2, g3.trans ⟨?_, ?_⟩⟩
          · rintro ⟨u, ⟨_, _, z⟩ | ⟨z1, z2⟩⟩
            · exact z.elim
            · exact ⟨u, Or.inr ⟨by omega, z2⟩⟩
          · rintro ⟨u, ⟨_, _, z⟩ | ⟨z1, z2, z3, z4⟩⟩
            · exact z.elim
            · refine ⟨u, Or.inr ⟨?_, z2, z3, z4⟩⟩
              by_cases e : u = t
              · rw [e] at z4; exact absurd z4 c3
              · omega
theorem F48 {v l : Nat} (hS : SK w) (hv : p1.toInt = v) (hl : p2.toInt = l) (h : PS X k 48 0 [.ref 23, .int p1, .int p2, pm_dead] [] w r w') : w' = w ∧ ∃ b : Bool, r = some (.int (b2i b)) ∧ (b = true ↔ twi v l (gI w 23 8) (cns w)) := by
  cases k with
  | zero => exact (PS_0 h).elim
  | succ k =>
    have h := U48_0 hS h
    have g : ∀ (q : Int32) (n : Nat), q.toInt = n → (p1 = q ↔ v = n) := by
      intro q n hq
      rw [← Int32.toInt_inj, hv, hq]
      omega
    have g1 : p2 = 1 ↔ l = 1 := by
      rw [← Int32.toInt_inj, hl, o32]
      omega
    have e0 : aG w 31 0 = cns w 0 := by
      unfold aG cns
      rw [i_nat (n := 0) z32]
    rw [e0] at h
    unfold twi
    -- two people
    have two : (v = 0 ∨ v = 1 ∨ v = 7 ∨ v = 12) → (if p2 = 1 then (aI w 31 0 ∧ (if (gI w 23 8) = cns w 0 then (r = some (.int 1) ∧ w' = w) else (r = some (.int 0) ∧ w' = w))) else (r = some (.int 0) ∧ w' = w)) → w' = w ∧ ∃ b : Bool, r = some (.int (b2i b)) ∧ (b = true ↔ ((v = 0 ∨ v = 1 ∨ v = 7 ∨ v = 12) ∧ l = 1 ∧ gI w 23 8 = cns w 0) ∨ (v = 2 ∧ ∃ t, 2 ≤ t ∧ t < l ∧ t < 8 ∧ gI w 23 8 = cns w t)) := by
      intro hvv q
      by_cases c : p2 = 1
      · rw [if_pos c] at q
        rw [g1] at c
        have q := q.2
        by_cases c2 : gI w 23 8 = cns w 0
        · rw [if_pos c2] at q
          exact ⟨q.2, true, q.1, fun _ => Or.inl ⟨hvv, c, c2⟩, fun _ => rfl⟩
        · rw [if_neg c2] at q
          refine ⟨q.2, false, q.1, fun z => (Bool.false_ne_true z).elim, ?_⟩
          rintro (⟨_, _, z⟩ | ⟨z, _⟩)
          · exact absurd z c2
          · omega
      · rw [if_neg c] at q
        rw [g1] at c
        refine ⟨q.2, false, q.1, fun z => (Bool.false_ne_true z).elim, ?_⟩
        rintro (⟨_, z, _⟩ | ⟨z, _⟩)
        · exact absurd z c
        · omega
    by_cases c0 : p1 = 0
    · rw [if_pos c0] at h
      rw [g 0 0 z32] at c0
      exact two (Or.inl c0) h
    rw [if_neg c0] at h
    rw [g 0 0 z32] at c0
    by_cases c1 : p1 = 1
    · rw [if_pos c1] at h
      rw [g 1 1 o32] at c1
      exact two (Or.inr (Or.inl c1)) h
    rw [if_neg c1] at h
    rw [g 1 1 o32] at c1
    by_cases c7 : p1 = 7
    · rw [if_pos c7] at h
      rw [g 7 7 (by decide +kernel)] at c7
      exact two (Or.inr (Or.inr (Or.inl c7))) h
    rw [if_neg c7] at h
    rw [g 7 7 (by decide +kernel)] at c7
    by_cases c12 : p1 = 12
    · rw [if_pos c12] at h
      rw [g 12 12 (by decide +kernel)] at c12
      exact two (Or.inr (Or.inr (Or.inr c12))) h
    rw [if_neg c12] at h
    rw [g 12 12 (by decide +kernel)] at c12
    by_cases c2 : p1 = 2
    · rw [if_pos c2] at h
      rw [g 2 2 two32] at c2
      obtain ⟨z1, b, z2, z3⟩ := F48_54 hl _ _ 2 _ hS two32 (fun u h1 h2 => by omega) h
      refine ⟨z1, b, z2, z3.trans ⟨?_, ?_⟩⟩
      · rintro ⟨u, ⟨_, _, z⟩ | z⟩
        · exact z.elim
        · exact Or.inr ⟨c2, u, z⟩
      · rintro (⟨z, _⟩ | ⟨_, u, z⟩)
        · omega
        · exact ⟨u, Or.inr z⟩
    · rw [if_neg c2] at h
      rw [g 2 2 two32] at c2
      refine ⟨h.2, false, h.1, fun z => (Bool.false_ne_true z).elim, ?_⟩
      rintro (⟨z, _⟩ | ⟨z, _⟩)
      · omega
      · exact absurd z c2
/-- a fault of this kind, if there is none yet -/
def ntF (b : Bool) (kd f : Int32) : Int32 := cond (b && decide (f = 0)) kd f
def ntP (b : Bool) (q f p : Int32) : Int32 := cond (b && decide (f = 0)) q p
theorem ntF_t {kd f : Int32} : ntF true kd f = (if f = 0 then kd else f) := by
  unfold ntF
  by_cases c : f = 0
  · rw [if_pos c, decide_eq_true c]; rfl
  · rw [if_neg c, decide_eq_false c]; rfl
theorem ntP_t {q f p : Int32} : ntP true q f p = (if f = 0 then q else p) := by
  unfold ntP
  by_cases c : f = 0
  · rw [if_pos c, decide_eq_true c]; rfl
  · rw [if_neg c, decide_eq_false c]; rfl
theorem F47 {v l : Nat} (hX : XO X) (hS : SK w) (hv : p1.toInt = v) (h12 : v ≤ 12) (hl : p2.toInt = l) (h : PS X k 47 0 [.ref 23, .int p1, .int p2, pm_dead] [] w r w') : r = none ∧ FM [(23, 10), (23, 11)] [] w w' ∧ ∃ b : Bool, (b = true ↔ badN v l (gI w 23 8) (cns w)) ∧ gI w' 23 10 = ntF (decide (8 ≤ l)) 3 (ntF b 2 (gI w 23 10)) ∧ gI w' 23 11 = ntP (decide (8 ≤ l)) (gI w 23 7) (ntF b 2 (gI w 23 10)) (ntP b (gI w 23 7) (gI w 23 10) (gI w 23 11)) := by
  cases k with
  | zero => exact (PS_0 h).elim
  | succ k =>
    have h := U47_0 hS h
    have e3 : (3 : Int32).toInt = 3 := by decide +kernel
    have e4 : (4 : Int32).toInt = 4 := by decide +kernel
    have em : (if 3 < p2 then 3 else p2).toInt = (min l 3 : Nat) := by
      by_cases c : 3 < p2
      · rw [if_pos c]
        rw [Int32.lt_iff_toInt_lt, e3, hl] at c
        omega
      · rw [if_neg c]
        rw [Int32.lt_iff_toInt_lt, e3, hl] at c
        omega
    have ei : ((p1 * 4) + (if 3 < p2 then 3 else p2)).toInt = (4 * v + min l 3 : Nat) := by
      rw [zi_add (zi_mul hv e4 (by omega) (by omega)) em (by omega) (by omega)]
      omega
    rw [i_nat ei, (XO_A hX (j := 2) (by decide)).1, (XO_A hX (j := 3) (by decide)).1] at h
    have h := h.2
    -- from label 52 on: eight numbers already
    have s52 : ∀ (w2 : pm_W) (j : Nat) (x3 : Int32), SK w2 → PS X j 47 52 [.ref 23, .int p1, .int p2, .int x3] [] w2 r w' → r = none ∧ FM [(23, 10), (23, 11)] [] w2 w' ∧ gI w' 23 10 = ntF (decide (8 ≤ l)) 3 (gI w2 23 10) ∧ gI w' 23 11 = ntP (decide (8 ≤ l)) (gI w2 23 7) (gI w2 23 10) (gI w2 23 11) := by
      intro w2 j x3 hS2 q
      cases j with
      | zero => exact (PS_0 q).elim
      | succ j =>
        have q := U47_52 hS2 q
        have f67 : ∀ (w3 : pm_W), SK w3 → PS X j 47 67 [.ref 23, .int p1, .int p2, .int x3] [] w3 r w' → r = none ∧ w' = w3 := by
          intro w3 hS3 z
          cases j with
          | zero => exact (PS_0 z).elim
          | succ j => exact U47_67 hS3 z
        by_cases c : p2 < 8
        · rw [if_pos c] at q
          rw [Int32.lt_iff_toInt_lt, eight32, hl] at c
          obtain ⟨z1, z2⟩ := f67 _ hS2 q
          rw [z2, decide_eq_false (by omega)]
          exact ⟨z1, FM_refl hS2, rfl, rfl⟩
        · rw [if_neg c] at q
          rw [Int32.lt_iff_toInt_lt, eight32, hl] at c
          obtain ⟨r1, w3, q1, q2⟩ := q
          obtain ⟨e, f, g1, g2⟩ := F46 hS2 q1
          obtain ⟨z1, z2⟩ := f67 _ f.2.2.2 (q2 e f.2.2.2)
          rw [z2, decide_eq_true (by omega), ntF_t, ntP_t]
          exact ⟨z1, f, g1, g2⟩
    have s43 : ∀ (j : Nat) (x3 : Int32), PS X j 47 43 [.ref 23, .int p1, .int p2, .int x3] [] w r w' → badN v l (gI w 23 8) (cns w) → r = none ∧ FM [(23, 10), (23, 11)] [] w w' ∧ ∃ b : Bool, (b = true ↔ badN v l (gI w 23 8) (cns w)) ∧ gI w' 23 10 = ntF (decide (8 ≤ l)) 3 (ntF b 2 (gI w 23 10)) ∧ gI w' 23 11 = ntP (decide (8 ≤ l)) (gI w 23 7) (ntF b 2 (gI w 23 10)) (ntP b (gI w 23 7) (gI w 23 10) (gI w 23 11)) := by
      intro j x3 q hb
      cases j with
      | zero => exact (PS_0 q).elim
      | succ j =>
        obtain ⟨r1, w3, q1, q2⟩ := U47_43 hS q
        obtain ⟨e, f, g1, g2⟩ := F46 hS q1
        obtain ⟨z1, z2, z3, z4⟩ := s52 w3 j x3 f.2.2.2 (q2 e f.2.2.2)
        refine ⟨z1, FM_trans f z2, true, ⟨fun _ => hb, fun _ => rfl⟩, ?_, ?_⟩
        · rw [z3, g1, ntF_t]
        · rw [z4, g1, g2, ntF_t, ntP_t, FM_i f (by decide)]
    by_cases c1 : (gI w 23 8) < ((xA pg_arr 2).getD (4 * v + min l 3) 0)
    · rw [if_pos c1] at h
      rw [Int32.lt_iff_toInt_lt] at c1
      exact s43 _ _ h (Or.inl c1)
    · rw [if_neg c1] at h
      rw [Int32.lt_iff_toInt_lt] at c1
      have h := h.2
      by_cases c2 : ((xA pg_arr 3).getD (4 * v + min l 3) 0) < (gI w 23 8)
      · rw [if_pos c2] at h
        rw [Int32.lt_iff_toInt_lt] at c2
        exact s43 _ _ h (Or.inr (Or.inl c2))
      · rw [if_neg c2] at h
        rw [Int32.lt_iff_toInt_lt] at c2
        obtain ⟨r1, w3, q1, q2⟩ := h
        obtain ⟨e, b, e2, hb⟩ := F48 hS hv hl q1
        subst w3
        have h := q2 _ e2 hS
        cases b with
        | true =>
          rw [if_neg (by decide +kernel)] at h
          exact s43 _ _ h (Or.inr (Or.inr (hb.mp rfl)))
        | false =>
          rw [if_pos (by decide +kernel)] at h
          obtain ⟨z1, z2, z3, z4⟩ := s52 _ _ _ hS h
          refine ⟨z1, z2, false, ⟨fun z => (Bool.false_ne_true z).elim, ?_⟩, z3, z4⟩
          rintro (z | z | z)
          · exact absurd z c1
          · exact absurd z c2
          · exact hb.mpr z
end FI
