/-! ===== state: alone, groups ===== -/
section KAA
variable {X : pm_X} {k k2 : Nat} {w0 w w1 w2 w3 w4 w5 wj w' : pm_W} {r r2 q0 q1 q2 : Option Value} {p1 p2 p3 p4 p5 p i1 i2 i3 i4 i5 i6 i7 i8 z z1 z2 x n : Int32} {a i v j m u P t s b d q N K B : Nat} {y : Int} {D D' V V' : Nat → Int32} {c c0 c1 S : Nat → Bool} {E : Nat → Nat → Bool}
/-- with whom p owes or is owed -/
def ptn (P : Nat) (D : Nat → Int32) (p b : Nat) : Bool := decide (b < P) && decide (0 < (D (9 * p + b)).toInt + (D (9 * b + p)).toInt)
theorem ptn_P (h : ptn P D i b = true) : b < P := by
  unfold ptn at h
  rw [Bool.and_eq_true] at h
  exact of_decide_eq_true h.1
theorem F115 (hS : SK w) (ok : okS a = true) (hv : gR w a 0 = v) (hP : (gI w v 0).toInt = P) (hP9 : P ≤ 9) (hD : ∀ q, 0 ≤ (dA w a q).toInt ∧ (dA w a q).toInt ≤ 99) (h1 : p1.toInt = i) (hi : i < 9) (h : PS X k 115 0 [.ref 42, .ref a, .int p1, pm_dead, pm_dead, pm_dead] [] w r w') : (∃ z, r = some (.int z) ∧ MSK z 9 (ptn P (dA w a) i)) ∧ w' = w := by
  have g3 := (okS_r hS ok).1
  have lp : ∀ (k t : Nat) (i3 i4 : Int32) (u5 : Value), i4.toInt = t → t ≤ P → MSK i3 9 (fun b => decide (b < t) && decide (0 < (dA w a (9 * i + b)).toInt + (dA w a (9 * b + i)).toInt)) → PS X k 115 5 [.ref 42, .ref a, .int p1, .int i3, .int i4, u5] [] w r w' → (∃ z, r = some (.int z) ∧ MSK z 9 (ptn P (dA w a) i)) ∧ w' = w := by
    intro k
    induction k with
    | zero => intro t i3 i4 u5 _ _ _ h; exact (PS_0 h).elim
    | succ k ih =>
      intro t i3 i4 u5 h4 ht hm h
      have h := U115_5 hS h
      rw [hv] at h
      by_cases cl : gI w v 0 ≤ i4
      · rw [if_pos cl] at h
        rw [Int32.le_iff_toInt_le, hP, h4] at cl
        rw [show t = P by omega] at hm
        exact ⟨⟨i3, h.1, hm⟩, h.2⟩
      · rw [if_neg cl] at h
        rw [Int32.le_iff_toInt_le, hP, h4] at cl
        have e1 : (i4 + 1).toInt = ((t + 1 : Nat) : Int) := by rw [zi_inc (n := 40) (by omega) (by omega), h4]; rfl
        obtain ⟨c1, hc1, h⟩ := use_z hS h (fun _ _ y => F52n hS h1 h4 hi (by omega) y)
        obtain ⟨_, h⟩ := h
        obtain ⟨c2, hc2, h⟩ := use_z hS h (fun _ _ y => F52n hS h4 h1 (by omega) hi y)
        obtain ⟨_, h⟩ := h
        have v1 : aG w (a + 6) c1 = dA w a (9 * i + t) := aG_n hc1
        have v2 : aG w (a + 6) c2 = dA w a (9 * t + i) := aG_n hc2
        rw [g3, v1, v2] at h
        have d1 := hD (9 * i + t)
        have d2 := hD (9 * t + i)
        have vs : (dA w a (9 * i + t) + dA w a (9 * t + i)).toInt = (dA w a (9 * i + t)).toInt + (dA w a (9 * t + i)).toInt := zi_add rfl rfl (by omega) (by omega)
        by_cases q : dA w a (9 * i + t) + dA w a (9 * t + i) ≤ 0
        · rw [if_pos q] at h
          rw [Int32.le_iff_toInt_le, z32, vs] at q
          exact ih (t + 1) _ _ _ e1 (by omega) (MSK_sF hm (decide_eq_false (by omega))) h
        · rw [if_neg q] at h
          rw [Int32.le_iff_toInt_le, z32, vs] at q
          exact ih (t + 1) _ _ _ e1 (by omega) (MSK_sT hm (decide_eq_true (by omega)) h4 (by omega) (by decide)) h
  cases k with
  | zero => exact (PS_0 h).elim
  | succ k => exact lp k 0 0 0 _ z32 (Nat.zero_le _) (MSK_z (fun b _ => by rw [decide_eq_false (Nat.not_lt_zero b)]; rfl)) (U115_0 hS h)
theorem F260 (hS : SK w) (hp : p1.toInt = (610 + 132 * u : Nat)) (hP : (al w (610 + 132 * u)).toInt = P) (hP9 : P ≤ 9) (hD : ∀ q, 0 ≤ (dR w q).toInt ∧ (dR w q).toInt ≤ 99) (h2 : p2.toInt = i) (hi : i < 9) (h : PS X k 260 0 [.ref 147, .int p1, .int p2, pm_dead, pm_dead] [] w r w') : (∃ z, r = some (.int z) ∧ MSK z 9 (ptn P (dR w) i)) ∧ w' = w := by
  have eP : aG w 148 p1 = al w (610 + 132 * u) := aG_n (m := 610 + 132 * u) hp
  have lp : ∀ (k t : Nat) (i3 i4 : Int32), i4.toInt = t → t ≤ P → MSK i3 9 (fun b => decide (b < t) && decide (0 < (dR w (9 * i + b)).toInt + (dR w (9 * b + i)).toInt)) → PS X k 260 5 [.ref 147, .int p1, .int p2, .int i3, .int i4] [] w r w' → (∃ z, r = some (.int z) ∧ MSK z 9 (ptn P (dR w) i)) ∧ w' = w := by
    intro k
    induction k with
    | zero => intro t i3 i4 _ _ _ h; exact (PS_0 h).elim
    | succ k ih =>
      intro t i3 i4 h4 ht hm h
      obtain ⟨_, h⟩ := U260_5 hS h
      rw [eP] at h
      by_cases cl : al w (610 + 132 * u) ≤ i4
      · rw [if_pos cl] at h
        rw [Int32.le_iff_toInt_le, hP, h4] at cl
        rw [show t = P by omega] at hm
        exact ⟨⟨i3, h.1, hm⟩, h.2⟩
      · rw [if_neg cl] at h
        rw [Int32.le_iff_toInt_le, hP, h4] at cl
        have e1 : (i4 + 1).toInt = ((t + 1 : Nat) : Int) := by rw [zi_inc (n := 40) (by omega) (by omega), h4]; rfl
        have h := use_p hS h (fun _ _ y => F232n hS h2 h4 hi (by omega) y)
        have d1 := hD (9 * i + t)
        have d2 := hD (9 * t + i)
        by_cases q1 : 0 < dR w (9 * i + t)
        · rw [if_pos q1] at h
          rw [Int32.lt_iff_toInt_lt, z32] at q1
          exact ih (t + 1) _ _ e1 (by omega) (MSK_sT hm (decide_eq_true (by omega)) h4 (by omega) (by decide)) h
        · rw [if_neg q1] at h
          rw [Int32.lt_iff_toInt_lt, z32] at q1
          have h := use_p hS h (fun _ _ y => F232n hS h4 h2 (by omega) hi y)
          by_cases q2 : dR w (9 * t + i) ≤ 0
          · rw [if_pos q2] at h
            rw [Int32.le_iff_toInt_le, z32] at q2
            exact ih (t + 1) _ _ e1 (by omega) (MSK_sF hm (decide_eq_false (by omega))) h
          · rw [if_neg q2] at h
            rw [Int32.le_iff_toInt_le, z32] at q2
            exact ih (t + 1) _ _ e1 (by omega) (MSK_sT hm (decide_eq_true (by omega)) h4 (by omega) (by decide)) h
  cases k with
  | zero => exact (PS_0 h).elim
  | succ k => exact lp k 0 0 0 z32 (Nat.zero_le _) (MSK_z (fun b _ => by rw [decide_eq_false (Nat.not_lt_zero b)]; rfl)) (U260_0 hS h)
/-- who has none -/
def aln (P : Nat) (D : Nat → Int32) (i : Nat) : Bool := decide (i < P) && !anN (ptn P D i) 9
theorem MSK_e0 (h : MSK x 9 c) : x = 0 ↔ anN c 9 = false := by
  constructor
  · intro e
    rw [e] at h
    cases hc : anN c 9 with
    | false => rfl
    | true =>
      obtain ⟨b, hb, q⟩ := (anN_t 9).mp hc
      have q2 := MSK_in h (MSK_0 (B := 9)) (by decide) hb
      rw [q] at q2
      exact Bool.noConfusion q2
  · intro e
    refine MSK_uq h MSK_0 (fun b hb => ?_)
    cases hc : c b with
    | false => rfl
    | true =>
      rw [(anN_t 9).mpr ⟨b, hb, hc⟩] at e
      exact Bool.noConfusion e
theorem F114 (hS : SK w) (ok : okS a = true) (hv : gR w a 0 = v) (hP : (gI w v 0).toInt = P) (hP9 : P ≤ 9) (hD : ∀ q, 0 ≤ (dA w a q).toInt ∧ (dA w a q).toInt ≤ 99) (h : PS X k 114 0 [.ref 42, .ref a, pm_dead, pm_dead] [] w r w') : (∃ z, r = some (.int z) ∧ MSK z 9 (aln P (dA w a))) ∧ w' = w := by
  have lp : ∀ (k t : Nat) (i2 i3 : Int32), i3.toInt = t → t ≤ P → MSK i2 9 (fun b => decide (b < t) && !anN (ptn P (dA w a) b) 9) → PS X k 114 4 [.ref 42, .ref a, .int i2, .int i3] [] w r w' → (∃ z, r = some (.int z) ∧ MSK z 9 (aln P (dA w a))) ∧ w' = w := by
    intro k
    induction k with
    | zero => intro t i2 i3 _ _ _ h; exact (PS_0 h).elim
    | succ k ih =>
      intro t i2 i3 h3 ht hm h
      have h := U114_4 hS h
      rw [hv] at h
      by_cases cl : gI w v 0 ≤ i3
      · rw [if_pos cl] at h
        rw [Int32.le_iff_toInt_le, hP, h3] at cl
        rw [show t = P by omega] at hm
        exact ⟨⟨i2, h.1, hm⟩, h.2⟩
      · rw [if_neg cl] at h
        rw [Int32.le_iff_toInt_le, hP, h3] at cl
        have e1 : (i3 + 1).toInt = ((t + 1 : Nat) : Int) := by rw [zi_inc (n := 40) (by omega) (by omega), h3]; rfl
        obtain ⟨q4, w5, y, h⟩ := h
        obtain ⟨⟨zc, z1, z2⟩, z3⟩ := F115 hS ok hv hP hP9 hD h3 (by omega) y
        have h := h _ z1 (by rw [z3]; exact hS)
        rw [z3] at h
        by_cases q : zc = 0
        · rw [if_pos q] at h
          exact ih (t + 1) _ _ e1 (by omega) (MSK_sT hm (by rw [(MSK_e0 z2).mp q]; rfl) h3 (by omega) (by decide)) h
        · rw [if_neg q] at h
          have qn : anN (ptn P (dA w a) t) 9 = true := by
            cases hc : anN (ptn P (dA w a) t) 9 with
            | true => rfl
            | false => exact absurd ((MSK_e0 z2).mpr hc) q
          exact ih (t + 1) _ _ e1 (by omega) (MSK_sF hm (by rw [qn]; rfl)) h
  cases k with
  | zero => exact (PS_0 h).elim
  | succ k => exact lp k 0 0 0 z32 (Nat.zero_le _) (MSK_z (fun b _ => by rw [decide_eq_false (Nat.not_lt_zero b)]; rfl)) (U114_0 hS h)
theorem F259 (hS : SK w) (hp : p1.toInt = (610 + 132 * u : Nat)) (hP : (al w (610 + 132 * u)).toInt = P) (hP9 : P ≤ 9) (hD : ∀ q, 0 ≤ (dR w q).toInt ∧ (dR w q).toInt ≤ 99) (h : PS X k 259 0 [.ref 147, .int p1, pm_dead, pm_dead] [] w r w') : (∃ z, r = some (.int z) ∧ MSK z 9 (aln P (dR w))) ∧ w' = w := by
  have eP : aG w 148 p1 = al w (610 + 132 * u) := aG_n (m := 610 + 132 * u) hp
  have lp : ∀ (k t : Nat) (i2 i3 : Int32), i3.toInt = t → t ≤ P → MSK i2 9 (fun b => decide (b < t) && !anN (ptn P (dR w) b) 9) → PS X k 259 4 [.ref 147, .int p1, .int i2, .int i3] [] w r w' → (∃ z, r = some (.int z) ∧ MSK z 9 (aln P (dR w))) ∧ w' = w := by
    intro k
    induction k with
    | zero => intro t i2 i3 _ _ _ h; exact (PS_0 h).elim
    | succ k ih =>
      intro t i2 i3 h3 ht hm h
      obtain ⟨_, h⟩ := U259_4 hS h
      rw [eP] at h
      by_cases cl : al w (610 + 132 * u) ≤ i3
      · rw [if_pos cl] at h
        rw [Int32.le_iff_toInt_le, hP, h3] at cl
        rw [show t = P by omega] at hm
        exact ⟨⟨i2, h.1, hm⟩, h.2⟩
      · rw [if_neg cl] at h
        rw [Int32.le_iff_toInt_le, hP, h3] at cl
        have e1 : (i3 + 1).toInt = ((t + 1 : Nat) : Int) := by rw [zi_inc (n := 40) (by omega) (by omega), h3]; rfl
        obtain ⟨q4, w5, y, h⟩ := h
        obtain ⟨⟨zc, z1, z2⟩, z3⟩ := F260 hS hp hP hP9 hD h3 (by omega) y
        have h := h _ z1 (by rw [z3]; exact hS)
        rw [z3] at h
        by_cases q : zc = 0
        · rw [if_pos q] at h
          exact ih (t + 1) _ _ e1 (by omega) (MSK_sT hm (by rw [(MSK_e0 z2).mp q]; rfl) h3 (by omega) (by decide)) h
        · rw [if_neg q] at h
          have qn : anN (ptn P (dR w) t) 9 = true := by
            cases hc : anN (ptn P (dR w) t) 9 with
            | true => rfl
            | false => exact absurd ((MSK_e0 z2).mpr hc) q
          exact ih (t + 1) _ _ e1 (by omega) (MSK_sF hm (by rw [qn]; rfl)) h
  cases k with
  | zero => exact (PS_0 h).elim
  | succ k => exact lp k 0 0 0 z32 (Nat.zero_le _) (MSK_z (fun b _ => by rw [decide_eq_false (Nat.not_lt_zero b)]; rfl)) (U259_0 hS h)
/-- the class's group -/
theorem F117 (hS : SK w) (ok : okS a = true) (hv : gR w a 0 = v) (hP : (gI w v 0).toInt = P) (hP9 : P ≤ 9) (hD : ∀ q, 0 ≤ (dA w a q).toInt ∧ (dA w a q).toInt ≤ 99) (h1 : p1.toInt = s) (hs : s < P) (h : PS X k 117 0 [.ref 42, .ref a, .int p1, pm_dead, pm_dead, pm_dead, pm_dead] [] w r w') : (∃ z, r = some (.int z) ∧ MSK z 9 (RCH (ptn P (dA w a)) P s P)) ∧ w' = w := by
  have lp : ∀ k : Nat, (∀ (t : Nat) (i3 i4 : Int32) (u5 u6 : Value), i4.toInt = t → t ≤ P → MSK i3 9 (RCH (ptn P (dA w a)) P s t) → PS X k 117 7 [.ref 42, .ref a, .int p1, .int i3, .int i4, u5, u6] [] w r w' → (∃ z, r = some (.int z) ∧ MSK z 9 (RCH (ptn P (dA w a)) P s P)) ∧ w' = w) ∧
      (∀ (t j : Nat) (i3 i4 i5 i6 : Int32), i4.toInt = t → t < P → i6.toInt = j → j ≤ P → MSK i3 9 (RCH (ptn P (dA w a)) P s t) → MSK i5 9 (fun b => RCH (ptn P (dA w a)) P s t b || anN (fun q => RCH (ptn P (dA w a)) P s t q && ptn P (dA w a) q b) j) → PS X k 117 25 [.ref 42, .ref a, .int p1, .int i3, .int i4, .int i5, .int i6] [] w r w' → (∃ z, r = some (.int z) ∧ MSK z 9 (RCH (ptn P (dA w a)) P s P)) ∧ w' = w) := by
    intro k
    induction k with
    | zero => exact ⟨fun _ _ _ _ _ _ _ _ h => (PS_0 h).elim, fun _ _ _ _ _ _ _ _ _ _ _ _ h => (PS_0 h).elim⟩
    | succ k ih =>
      obtain ⟨ih7, ih25⟩ := ih
      refine ⟨fun t i3 i4 u5 u6 h4 ht m3 h => ?_, fun t j i3 i4 i5 i6 h4 ht h6 hj m3 m5 h => ?_⟩
      · have h := U117_7 hS h
        rw [hv] at h
        by_cases cl : gI w v 0 ≤ i4
        · rw [if_pos cl] at h
          rw [Int32.le_iff_toInt_le, hP, h4] at cl
          rw [show t = P by omega] at m3
          exact ⟨⟨i3, h.1, m3⟩, h.2⟩
        · rw [if_neg cl] at h
          rw [Int32.le_iff_toInt_le, hP, h4] at cl
          exact ih25 t 0 i3 i4 i3 0 h4 (by omega) z32 (Nat.zero_le _) m3 (MSK_cg m3 (fun b _ => by show (_ || false) = _; rw [Bool.or_false])) h
      · have h := U117_25 hS h
        rw [hv] at h
        by_cases cl : gI w v 0 ≤ i6
        · rw [if_pos cl] at h
          rw [Int32.le_iff_toInt_le, hP, h6] at cl
          rw [show j = P by omega] at m5
          exact ih7 (t + 1) i5 _ _ _ (by rw [zi_inc (n := 40) (by omega) (by omega), h4]; rfl) (by omega) m5 h
        · rw [if_neg cl] at h
          rw [Int32.le_iff_toInt_le, hP, h6] at cl
          have e1 : (i6 + 1).toInt = ((j + 1 : Nat) : Int) := by rw [zi_inc (n := 40) (by omega) (by omega), h6]; rfl
          have h := use_p hS h (fun _ _ y => F89m hS m3 h6 (by omega) (by decide) y)
          cases hc : RCH (ptn P (dA w a)) P s t j with
          | false =>
            rw [hc, if_pos (by decide +kernel)] at h
            refine ih25 t (j + 1) i3 i4 _ _ h4 ht e1 (by omega) m3 (MSK_cg (MSK_o0 m5) (fun b _ => ?_)) h
            show (_ || (anN _ j || (RCH (ptn P (dA w a)) P s t j && _))) = _
            rw [hc, Bool.false_and, Bool.or_false]
          | true =>
            rw [hc, if_neg (by decide +kernel)] at h
            obtain ⟨q4, w5, y, h⟩ := h
            obtain ⟨⟨zc, z1, z2⟩, z3⟩ := F115 hS ok hv hP hP9 hD h6 (by omega) y
            have h := h _ z1 (by rw [z3]; exact hS)
            rw [z3] at h
            refine ih25 t (j + 1) i3 i4 _ _ h4 ht e1 (by omega) m3 (MSK_cg (MSK_or m5 z2) (fun b _ => ?_)) h
            show (_ || (anN _ j || (RCH (ptn P (dA w a)) P s t j && _))) = _
            rw [hc, Bool.true_and, Bool.or_assoc]
  cases k with
  | zero => exact (PS_0 h).elim
  | succ k => exact (lp k).1 0 _ 0 _ _ z32 (Nat.zero_le _) (MSK_b h1 (by omega) (by decide)) (U117_0 hS h)
/-- group by group: who is seen, how many groups -/
def grS (c0 : Nat → Bool) (E : Nat → Nat → Bool) (P : Nat) : Nat → (Nat → Bool) × Nat
  | 0 => (c0, 0)
  | t + 1 => if (grS c0 E P t).1 t = true then grS c0 E P t else (fun b => (grS c0 E P t).1 b || RCH E P t P b, (grS c0 E P t).2 + 1)
theorem grS_t (h : (grS c0 E P t).1 t = true) : grS c0 E P (t + 1) = grS c0 E P t := if_pos h
theorem grS_f (h : (grS c0 E P t).1 t = false) : grS c0 E P (t + 1) = (fun b => (grS c0 E P t).1 b || RCH E P t P b, (grS c0 E P t).2 + 1) := if_neg (by rw [h]; exact Bool.false_ne_true)
theorem grS_le : ∀ t, (grS c0 E P t).2 ≤ t
  | 0 => Nat.le_refl 0
  | t + 1 => by
    have q := grS_le t
    cases h : (grS c0 E P t).1 t with
    | true => rw [grS_t h]; omega
    | false => rw [grS_f h]; show (grS c0 E P t).2 + 1 ≤ t + 1; omega
theorem F116 (hS : SK w) (ok : okS a = true) (hv : gR w a 0 = v) (hP : (gI w v 0).toInt = P) (hP9 : P ≤ 9) (hD : ∀ q, 0 ≤ (dA w a q).toInt ∧ (dA w a q).toInt ≤ 99) (h : PS X k 116 0 [.ref 42, .ref a, pm_dead, pm_dead, pm_dead] [] w r w') : (∃ z, r = some (.int z) ∧ z.toInt = (grS (aln P (dA w a)) (ptn P (dA w a)) P P).2) ∧ w' = w := by
  have lp : ∀ (k t : Nat) (i2 i3 i4 : Int32), i4.toInt = t → t ≤ P → MSK i2 9 (grS (aln P (dA w a)) (ptn P (dA w a)) P t).1 → i3.toInt = (grS (aln P (dA w a)) (ptn P (dA w a)) P t).2 → PS X k 116 11 [.ref 42, .ref a, .int i2, .int i3, .int i4] [] w r w' → (∃ z, r = some (.int z) ∧ z.toInt = (grS (aln P (dA w a)) (ptn P (dA w a)) P P).2) ∧ w' = w := by
    intro k
    induction k with
    | zero => intro t i2 i3 i4 _ _ _ _ h; exact (PS_0 h).elim
    | succ k ih =>
      intro t i2 i3 i4 h4 ht hm h3 h
      have h := U116_11 hS h
      rw [hv] at h
      by_cases cl : gI w v 0 ≤ i4
      · rw [if_pos cl] at h
        rw [Int32.le_iff_toInt_le, hP, h4] at cl
        rw [show t = P by omega] at h3
        exact ⟨⟨i3, h.1, h3⟩, h.2⟩
      · rw [if_neg cl] at h
        rw [Int32.le_iff_toInt_le, hP, h4] at cl
        have e1 : (i4 + 1).toInt = ((t + 1 : Nat) : Int) := by rw [zi_inc (n := 40) (by omega) (by omega), h4]; rfl
        have h := use_p hS h (fun _ _ y => F89m hS hm h4 (by omega) (by decide) y)
        have gl := grS_le (c0 := aln P (dA w a)) (E := ptn P (dA w a)) (P := P) t
        cases hc : (grS (aln P (dA w a)) (ptn P (dA w a)) P t).1 t with
        | true =>
          rw [hc, if_neg (by decide +kernel)] at h
          exact ih (t + 1) i2 i3 _ e1 (by omega) (by rw [grS_t hc]; exact hm) (by rw [grS_t hc]; exact h3) h
        | false =>
          rw [hc, if_pos (by decide +kernel)] at h
          obtain ⟨q4, w5, y, h⟩ := h
          obtain ⟨⟨zc, z1, z2⟩, z3⟩ := F117 hS ok hv hP hP9 hD h4 (by omega) y
          have h := h _ z1 (by rw [z3]; exact hS)
          rw [z3] at h
          refine ih (t + 1) _ _ _ e1 (by omega) (by rw [grS_f hc]; exact MSK_or hm z2) ?_ h
          rw [grS_f hc, zi_inc (n := 40) (by omega) (by omega), h3]
          rfl
  cases k with
  | zero => exact (PS_0 h).elim
  | succ k =>
    obtain ⟨q1, w2, y, h⟩ := U116_0 hS h
    obtain ⟨⟨zc, z1, z2⟩, z3⟩ := F114 hS ok hv hP hP9 hD y
    have h := h _ z1 (by rw [z3]; exact hS)
    rw [z3] at h
    exact lp k 0 _ 0 0 z32 (Nat.zero_le _) z2 z32 h
/-- the reference's group: nine rounds in place -/
theorem F261_l (hS : SK w) (hp : p1.toInt = (610 + 132 * u : Nat)) (hP : (al w (610 + 132 * u)).toInt = P) (hP9 : P ≤ 9) (hD : ∀ q, 0 ≤ (dR w q).toInt ∧ (dR w q).toInt ≤ 99) (hs : s < P) {E : Nat → Nat → Bool} (hE : E = ptn P (dR w)) : ∀ k : Nat,
    (∀ (j : Nat) (i5 i6 : Int32) (u7 : Value) (c : Nat → Bool), i6.toInt = j → j ≤ 9 → MSK i5 9 c → (∀ b, b < 9 → c b = true → ∃ n, RCH E P s n b = true) → (∀ b, RCH E P s j b = true → c b = true) → PS X k 261 47 [.ref 147, .int p1, .int i2, .int i3, .int i4, .int i5, .int i6, u7] [] w r w' → ∃ (k' : Nat) (i5' i6' : Int32) (u7' : Value), k' < k ∧ MSK i5' 9 (RCH E P s P) ∧ PS X k' 261 11 [.ref 147, .int p1, .int (i2 ||| i5'), .int i3, .int (i4 + 1), .int i5', .int i6', u7'] [] w r w') ∧
    (∀ (j t : Nat) (i5 i6 i7 : Int32) (c : Nat → Bool), i6.toInt = j → j < 9 → i7.toInt = t → t ≤ P → MSK i5 9 c → (∀ b, b < 9 → c b = true → ∃ n, RCH E P s n b = true) → (∀ b, RCH E P s j b = true → c b = true) → (∀ q b, q < t → RCH E P s j q = true → E q b = true → c b = true) → PS X k 261 57 [.ref 147, .int p1, .int i2, .int i3, .int i4, .int i5, .int i6, .int i7] [] w r w' → ∃ (k' : Nat) (i5' i6' : Int32) (u7' : Value), k' < k ∧ MSK i5' 9 (RCH E P s P) ∧ PS X k' 261 11 [.ref 147, .int p1, .int (i2 ||| i5'), .int i3, .int (i4 + 1), .int i5', .int i6', u7'] [] w r w') := by
  have e9 : (9 : Int32).toInt = 9 := nine32
  have eP : aG w 148 p1 = al w (610 + 132 * u) := aG_n (m := 610 + 132 * u) hp
  have EP : ∀ q b, E q b = true → b < P := fun q b h => by rw [hE] at h; exact ptn_P h
  intro k
  induction k with
  | zero => exact ⟨fun _ _ _ _ _ _ _ _ _ _ h => (PS_0 h).elim, fun _ _ _ _ _ _ _ _ _ _ _ _ _ _ h => (PS_0 h).elim⟩
  | succ k ih =>
    obtain ⟨ih47, ih57⟩ := ih
    refine ⟨fun j i5 i6 u7 c h6 hj m5 ho hc h => ?_, fun j t i5 i6 i7 c h6 hj h7 ht m5 ho hc hn h => ?_⟩
    · have h := U261_47 hS h
      by_cases cl : 9 ≤ i6
      · rw [if_pos cl] at h
        rw [Int32.le_iff_toInt_le, e9, h6] at cl
        rw [show j = 9 by omega] at hc
        refine ⟨k, i5, i6, u7, Nat.lt_succ_self k, MSK_cg m5 (fun b hb => ?_), h⟩
        cases hr : RCH E P s P b with
        | true => exact (hc b (RCH_mono hr 9 hP9)).symm
        | false =>
          cases hcb : c b with
          | false => rfl
          | true =>
            obtain ⟨n, hn⟩ := ho b hb hcb
            rw [RCH_fin hs (by omega) (RCH_P hs EP n hn) hn] at hr
            exact Bool.noConfusion hr
      · rw [if_neg cl] at h
        rw [Int32.le_iff_toInt_le, e9, h6] at cl
        obtain ⟨k', a5, a6, a7, l, g⟩ := ih57 j 0 i5 i6 0 c h6 (by omega) z32 (Nat.zero_le _) m5 ho hc (fun q b hq => absurd hq (Nat.not_lt_zero q)) h
        exact ⟨k', a5, a6, a7, by omega, g⟩
    · obtain ⟨_, h⟩ := U261_57 hS h
      rw [eP] at h
      by_cases cl : al w (610 + 132 * u) ≤ i7
      · rw [if_pos cl] at h
        rw [Int32.le_iff_toInt_le, hP, h7] at cl
        rw [show t = P by omega] at hn
        obtain ⟨k', a5, a6, a7, l, g⟩ := ih47 (j + 1) i5 _ _ c (by rw [zi_inc (n := 40) (by omega) (by omega), h6]; rfl) (by omega) m5 ho (fun b hb => by
          rw [RCH_s, Bool.or_eq_true] at hb
          rcases hb with hb | hb
          · exact hc b hb
          · obtain ⟨q, hq, hb⟩ := (anN_t P).mp hb
            rw [Bool.and_eq_true] at hb
            exact hn q b hq hb.1 hb.2) h
        exact ⟨k', a5, a6, a7, by omega, g⟩
      · rw [if_neg cl] at h
        rw [Int32.le_iff_toInt_le, hP, h7] at cl
        have e1 : (i7 + 1).toInt = ((t + 1 : Nat) : Int) := by rw [zi_inc (n := 40) (by omega) (by omega), h7]; rfl
        have tb := MSK_t m5 h7 (by omega) (by decide)
        by_cases cs : ((i5 >>> (i7 &&& 31)) &&& 1) = 1
        · rw [if_pos cs] at h
          have ct := tb.mp cs
          obtain ⟨q4, w5, y, h⟩ := h
          obtain ⟨⟨zc, z1, z2⟩, z3⟩ := F260 hS hp hP hP9 hD h7 (by omega) y
          have h := h _ z1 (by rw [z3]; exact hS)
          rw [z3] at h
          rw [← hE] at z2
          obtain ⟨nt, hnt⟩ := ho t (by omega) ct
          obtain ⟨k', a5, a6, a7, l, g⟩ := ih57 j (t + 1) _ i6 _ (fun b => c b || E t b) h6 hj e1 (by omega) (MSK_or m5 z2) (fun b hb hcb => by
            have hcb : (c b || E t b) = true := hcb
            rw [Bool.or_eq_true] at hcb
            rcases hcb with hcb | hcb
            · exact ho b hb hcb
            · refine ⟨nt + 1, ?_⟩
              rw [RCH_s, Bool.or_eq_true]
              exact Or.inr ((anN_t P).mpr ⟨t, by omega, by rw [hnt, hcb]; rfl⟩)) (fun b hb => by show (c b || E t b) = true; rw [hc b hb]; rfl) (fun q b hq hr he => by
            show (c b || E t b) = true
            by_cases eq : q = t
            · rw [eq] at he; rw [he, Bool.or_true]
            · rw [hn q b (by omega) hr he]; rfl) h
          exact ⟨k', a5, a6, a7, by omega, g⟩
        · rw [if_neg cs] at h
          obtain ⟨k', a5, a6, a7, l, g⟩ := ih57 j (t + 1) _ i6 _ c h6 hj e1 (by omega) (MSK_o0 m5) ho hc (fun q b hq hr he => by
            by_cases eq : q = t
            · rw [eq] at hr
              exact absurd (tb.mpr (hc t hr)) cs
            · exact hn q b (by omega) hr he) h
          exact ⟨k', a5, a6, a7, by omega, g⟩
theorem F261 (hS : SK w) (hp : p1.toInt = (610 + 132 * u : Nat)) (hP : (al w (610 + 132 * u)).toInt = P) (hP9 : P ≤ 9) (hD : ∀ q, 0 ≤ (dR w q).toInt ∧ (dR w q).toInt ≤ 99) (h : PS X k 261 0 [.ref 147, .int p1, pm_dead, pm_dead, pm_dead, pm_dead, pm_dead, pm_dead] [] w r w') : (∃ z, r = some (.int z) ∧ z.toInt = (grS (aln P (dR w)) (ptn P (dR w)) P P).2) ∧ w' = w := by
  have eP : aG w 148 p1 = al w (610 + 132 * u) := aG_n (m := 610 + 132 * u) hp
  have lp : ∀ (k t : Nat) (i2 i3 i4 : Int32) (u5 u6 u7 : Value), i4.toInt = t → t ≤ P → MSK i2 9 (grS (aln P (dR w)) (ptn P (dR w)) P t).1 → i3.toInt = (grS (aln P (dR w)) (ptn P (dR w)) P t).2 → PS X k 261 11 [.ref 147, .int p1, .int i2, .int i3, .int i4, u5, u6, u7] [] w r w' → (∃ z, r = some (.int z) ∧ z.toInt = (grS (aln P (dR w)) (ptn P (dR w)) P P).2) ∧ w' = w := by
    intro k
    induction k using Nat.strongRecOn with
    | ind k ih =>
      intro t i2 i3 i4 u5 u6 u7 h4 ht hm h3 h
      cases k with
      | zero => exact (PS_0 h).elim
      | succ k =>
        obtain ⟨_, h⟩ := U261_11 hS h
        rw [eP] at h
        by_cases cl : al w (610 + 132 * u) ≤ i4
        · rw [if_pos cl] at h
          rw [Int32.le_iff_toInt_le, hP, h4] at cl
          rw [show t = P by omega] at h3
          exact ⟨⟨i3, h.1, h3⟩, h.2⟩
        · rw [if_neg cl] at h
          rw [Int32.le_iff_toInt_le, hP, h4] at cl
          have e1 : (i4 + 1).toInt = ((t + 1 : Nat) : Int) := by rw [zi_inc (n := 40) (by omega) (by omega), h4]; rfl
          have tb := MSK_t hm h4 (by omega) (by decide)
          have gl := grS_le (c0 := aln P (dR w)) (E := ptn P (dR w)) (P := P) t
          by_cases cs : ((i2 >>> (i4 &&& 31)) &&& 1) = 1
          · rw [if_pos cs] at h
            have hc := tb.mp cs
            exact ih k (Nat.lt_succ_self k) (t + 1) i2 i3 _ _ _ _ e1 (by omega) (by rw [grS_t hc]; exact hm) (by rw [grS_t hc]; exact h3) h
          · rw [if_neg cs] at h
            have hc : (grS (aln P (dR w)) (ptn P (dR w)) P t).1 t = false := by
              cases q : (grS (aln P (dR w)) (ptn P (dR w)) P t).1 t with
              | false => rfl
              | true => exact absurd (tb.mpr q) cs
            obtain ⟨k', i5', i6', u7', l, g1, g2⟩ := (F261_l hS hp hP hP9 hD (show t < P by omega) rfl k).1 0 _ 0 _ (fun q => decide (q = t)) z32 (by decide) (MSK_b h4 (by omega) (by decide)) (fun b _ hb => ⟨0, hb⟩) (fun b hb => hb) h
            refine ih k' (by omega) (t + 1) _ _ _ _ _ _ e1 (by omega) (by rw [grS_f hc]; exact MSK_or hm g1) ?_ g2
            rw [grS_f hc, zi_inc (n := 40) (by omega) (by omega), h3]
            rfl
  cases k with
  | zero => exact (PS_0 h).elim
  | succ k =>
    obtain ⟨q1, w2, y, h⟩ := U261_0 hS h
    obtain ⟨⟨zc, z1, z2⟩, z3⟩ := F259 hS hp hP hP9 hD y
    have h := h _ z1 (by rw [z3]; exact hS)
    rw [z3] at h
    exact lp k 0 _ 0 0 _ _ _ z32 (Nat.zero_le _) z2 z32 h
end KAA
