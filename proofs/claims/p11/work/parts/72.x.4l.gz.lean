/-! ===== acts: what each does to a state (for both sides); room, owe, pay ===== -/
section GZ
variable {X : pm_X} {k k2 : Nat} {w0 w w1 w2 w' : pm_W} {r r2 : Option Value} {p p1 p2 p3 p4 p5 f0 p0 f q x y M nn : Int32} {n i v j m T L u a N K P t s : Nat} {D D' G G1 G2 V E : Nat → Int32} {b : Bool}
/-- the room of x to y -/
def rmI (V D : Nat → Int32) (x y : Nat) : Int32 := if x = y then 0 else if 0 < (V (3 + (9 * y + x)) - D (9 * x + y)).toInt then V (3 + (9 * y + x)) - D (9 * x + y) else 0
/-- of an act: who is in its ring, the debts' cells -/
def eWho (E : Nat → Int32) (i : Nat) : Nat := (E (3 + i)).toInt.toNat
def eNx (E : Nat → Int32) (m i : Nat) : Nat := eWho E (if i + 1 < m then i + 1 else 0)
def eCl (E : Nat → Int32) (m i : Nat) : Nat := 9 * eWho E i + eNx E m i
def adD (E : Nat → Int32) (m : Nat) (n : Int32) : Nat → (Nat → Int32) → (Nat → Int32)
  | 0, D => D
  | i + 1, D => updc (adD E m n i D) (eCl E m i) (adD E m n i D (eCl E m i) + n)
/-- the act's ring: m in it, each with room -/
def ERg (E : Nat → Int32) (m : Nat) : Prop := 2 ≤ m ∧ m ≤ 6 ∧ (∀ t, t < m → 0 ≤ (E (3 + t)).toInt ∧ (E (3 + t)).toInt ≤ 8) ∧ (∀ t s, t < s → s < m → (E (3 + t)).toInt ≠ (E (3 + s)).toInt) ∧ ∀ t, m ≤ t → t < 6 → E (3 + t) = -1
def fitO (P : Nat) (V D E : Nat → Int32) (m : Nat) (n : Int32) (i : Nat) : Prop := eWho E i < P ∧ eNx E m i < P ∧ n.toInt ≤ (rmI V D (eWho E i) (eNx E m i)).toInt
def fitS (P : Nat) (V D E : Nat → Int32) (m : Nat) (n : Int32) : Prop := ∀ i, i < m → fitO P V D E m n i
/-- words as they may be -/
def VW (V : Nat → Int32) : Prop := ∀ q, q < 81 → 0 ≤ (V (3 + q)).toInt ∧ (V (3 + q)).toInt ≤ 99
theorem F77n {x y : Nat} (hS : SK w) (ok : okS a = true) (okv : okV v = true) (hv : gR w a 0 = v) (h1 : p1.toInt = x) (h2 : p2.toInt = y) (hx : x < 9) (hy : y < 9) (h : PS X k 77 0 [.ref a, .int p1, .int p2] [] w r w') : r = some (.int (rmI (vcl w v) (dA w a) x y)) ∧ w' = w := by
  cases k with
  | zero => exact (PS_0 h).elim
  | succ k =>
    have h := U77_0 hS h
    unfold rmI
    by_cases c : p1 = p2
    · rw [if_pos c] at h
      have c := congrArg Int32.toInt c
      rw [h1, h2] at c
      rw [if_pos (by omega)]
      exact h
    · rw [if_neg c] at h
      have c : x ≠ y := fun z => c (Int32.toInt_inj.mp (by rw [h1, h2, z]))
      rw [if_neg c]
      obtain ⟨c1, hc1, h⟩ := use_z hS h (fun _ _ z => F52n hS h2 h1 hy hx z)
      obtain ⟨_, h⟩ := h
      obtain ⟨c2, hc2, h⟩ := use_z hS h (fun _ _ z => F52n hS h1 h2 hx hy z)
      obtain ⟨_, h⟩ := h
      obtain ⟨r3, _⟩ := okS_r hS ok
      obtain ⟨g3, _⟩ := okV_r hS okv
      have eV : aG w (gR w (gR w a 0) 3) c1 = vcl w v (3 + (9 * y + x)) := by
        rw [hv, g3, aG_n (m := 9 * y + x) hc1]
        exact (VG hS okv).2.2.2.1 _ (by omega)
      have eD : aG w (gR w a 3) c2 = dA w a (9 * x + y) := by
        rw [r3, aG_n (m := 9 * x + y) hc2]
        rfl
      rw [eV, eD, mx0] at h
      exact h
theorem F231n {x y u : Nat} (hS : SK w) (hp : p1.toInt = (610 + 132 * u : Nat)) (hu : u ≤ 1) (h1 : p2.toInt = x) (h2 : p3.toInt = y) (hx : x < 9) (hy : y < 9) (h : PS X k 231 0 [.ref 147, .int p1, .int p2, .int p3, pm_dead] [] w r w') : r = some (.int (rmI (fun k => al w (610 + 132 * u + k)) (dR w) x y)) ∧ w' = w := by
  cases k with
  | zero => exact (PS_0 h).elim
  | succ k =>
    have h := U231_0 hS h
    unfold rmI
    by_cases c : p2 = p3
    · rw [if_pos c] at h
      have c := congrArg Int32.toInt c
      rw [h1, h2] at c
      rw [if_pos (by omega)]
      exact h
    · rw [if_neg c] at h
      have c : x ≠ y := fun z => c (Int32.toInt_inj.mp (by rw [h1, h2, z]))
      rw [if_neg c]
      have F232 : ∀ r1 w2, PS X k 232 0 [.ref 147, .int p2, .int p3] [] w r1 w2 → r1 = some (.int (dR w (9 * x + y))) ∧ w2 = w := by
        intro r1 w2 z
        cases k with
        | zero => exact (PS_0 z).elim
        | succ k =>
          obtain ⟨_, z1, z2⟩ := U232_0 hS z
          rw [aG_n (m := 9 * x + y) (by rw [zi_add (zi_mul nine32 h1 (by omega) (by omega)) h2 (by omega) (by omega)]; omega)] at z1
          exact ⟨z1, z2⟩
      obtain ⟨_, h⟩ := h
      have h := use_p hS h F232
      have eV : aG w 148 (((p1 + 3) + (9 * p3)) + p2) = al w (610 + 132 * u + (3 + (9 * y + x))) := aG_n (m := 610 + 132 * u + (3 + (9 * y + x))) (by rw [zi_add (zi_add (zi_add hp three32 (by omega) (by omega)) (zi_mul nine32 h2 (by omega) (by omega)) (by omega) (by omega)) h1 (by omega) (by omega)]; omega)
      rw [eV] at h
      by_cases c2 : 0 ≤ al w (610 + 132 * u + (3 + (9 * y + x))) - dR w (9 * x + y)
      · rw [if_pos c2] at h
        rw [Int32.le_iff_toInt_le, z32] at c2
        by_cases c3 : 0 < (al w (610 + 132 * u + (3 + (9 * y + x))) - dR w (9 * x + y)).toInt
        · rw [if_pos c3]; exact h
        · rw [if_neg c3]
          have e : al w (610 + 132 * u + (3 + (9 * y + x))) - dR w (9 * x + y) = 0 := Int32.toInt_inj.mp (by rw [z32]; omega)
          rw [e] at h
          exact h
      · rw [if_neg c2] at h
        rw [Int32.le_iff_toInt_le, z32] at c2
        have c3 : ¬ 0 < (al w (610 + 132 * u + (3 + (9 * y + x))) - dR w (9 * x + y)).toInt := by omega
        rw [if_neg c3]
        exact h
theorem F76 {x y : Nat} (hS : SK w) (ok : okS a = true) (okv : okV v = true) (hv : gR w a 0 = v) (hP : (gI w v 0).toInt = P) (hP9 : P ≤ 9) (h1 : p1.toInt = x) (h2 : p2.toInt = y) (hx : x < 9) (hy : y < 9) (h : PS X k 76 0 [.ref a, .int p1, .int p2, .int p3] [] w r w') : ((x < P ∧ y < P ∧ p3.toInt ≤ (rmI (vcl w v) (dA w a) x y).toInt) ∧ r = some (.int 1) ∧ FM [] [a + 6, a + 7] w w' ∧ dA w' a = updc (dA w a) (9 * x + y) (dA w a (9 * x + y) + p3) ∧ gAr w' a = gAr w a) ∨ (¬ (x < P ∧ y < P ∧ p3.toInt ≤ (rmI (vcl w v) (dA w a) x y).toInt) ∧ r = some (.int 0) ∧ w' = w) := by
  cases k with
  | zero => exact (PS_0 h).elim
  | succ k =>
    obtain ⟨r3, _⟩ := okS_r hS ok
    have hP' : (gI w (gR w a 0) 0).toInt = P := by rw [hv]; exact hP
    have h := use_p hS (U76_0 hS h) (fun _ _ z => F61 hS hP' z)
    by_cases c1 : 0 ≤ p1.toInt ∧ p1.toInt < P
    · have h := ifb_t c1 h
      have h := use_p hS h (fun _ _ z => F61 hS hP' z)
      by_cases c2 : 0 ≤ p2.toInt ∧ p2.toInt < P
      · have h := ifb_t c2 h
        have h := use_p hS h (fun _ _ z => F77n hS ok okv hv h1 h2 hx hy z)
        by_cases c3 : p3 ≤ rmI (vcl w v) (dA w a) x y
        · rw [if_pos c3] at h
          rw [Int32.le_iff_toInt_le] at c3
          obtain ⟨c4, hc4, h⟩ := use_z hS h (fun _ _ z => F52n hS h1 h2 hx hy z)
          obtain ⟨_, _, h⟩ := h
          have h := h _ rfl
          rw [r3, aG_n (m := 9 * x + y) hc4] at h
          have ed : (gA w (a + 6)).getD (9 * x + y) 0 = dA w a (9 * x + y) := rfl
          rw [ed] at h
          refine Or.inl ⟨⟨by omega, by omega, c3⟩, h.1, by rw [h.2]; exact FM_aS hS (by simp), ?_, ?_⟩
          · rw [h.2]; exact dA_aS hS ok hc4 (by omega)
          · rw [h.2]; exact gAr_ne (by omega)
        · rw [if_neg c3] at h
          rw [Int32.le_iff_toInt_le] at c3
          exact Or.inr ⟨fun z => c3 z.2.2, h.1, h.2⟩
      · have h := ifb_f c2 h
        exact Or.inr ⟨fun z => by have := z.2.1; omega, h.1, h.2⟩
    · have h := ifb_f c1 h
      exact Or.inr ⟨fun z => by have := z.1; omega, h.1, h.2⟩
theorem F78 {x y : Nat} (hS : SK w) (ok : okS a = true) (okv : okV v = true) (hv : gR w a 0 = v) (hP : (gI w v 0).toInt = P) (hP9 : P ≤ 9) (h1 : p1.toInt = x) (h2 : p2.toInt = y) (hx : x < 9) (hy : y < 9) (h : PS X k 78 0 [.ref a, .int p1, .int p2, .int p3] [] w r w') : ((x < P ∧ y < P ∧ p3.toInt ≤ (dA w a (9 * x + y)).toInt) ∧ r = some (.int 1) ∧ FM [] [a + 6, a + 7] w w' ∧ dA w' a = updc (dA w a) (9 * x + y) (dA w a (9 * x + y) - p3) ∧ gAr w' a = gAr w a) ∨ (¬ (x < P ∧ y < P ∧ p3.toInt ≤ (dA w a (9 * x + y)).toInt) ∧ r = some (.int 0) ∧ w' = w) := by
  cases k with
  | zero => exact (PS_0 h).elim
  | succ k =>
    obtain ⟨r3, _⟩ := okS_r hS ok
    have hP' : (gI w (gR w a 0) 0).toInt = P := by rw [hv]; exact hP
    have h := use_p hS (U78_0 hS h) (fun _ _ z => F61 hS hP' z)
    by_cases c1 : 0 ≤ p1.toInt ∧ p1.toInt < P
    · have h := ifb_t c1 h
      have h := use_p hS h (fun _ _ z => F61 hS hP' z)
      by_cases c2 : 0 ≤ p2.toInt ∧ p2.toInt < P
      · have h := ifb_t c2 h
        obtain ⟨c5, hc5, h⟩ := use_z hS h (fun _ _ z => F52n hS h1 h2 hx hy z)
        have ed : (gA w (a + 6)).getD (9 * x + y) 0 = dA w a (9 * x + y) := rfl
        rw [r3, aG_n (m := 9 * x + y) hc5, ed] at h
        obtain ⟨_, h⟩ := h
        by_cases c3 : p3 ≤ dA w a (9 * x + y)
        · rw [if_pos c3] at h
          rw [Int32.le_iff_toInt_le] at c3
          obtain ⟨c4, hc4, h⟩ := use_z hS h (fun _ _ z => F52n hS h1 h2 hx hy z)
          obtain ⟨_, _, h⟩ := h
          have h := h _ rfl
          rw [aG_n (m := 9 * x + y) hc4, ed] at h
          refine Or.inl ⟨⟨by omega, by omega, c3⟩, h.1, by rw [h.2]; exact FM_aS hS (by simp), ?_, ?_⟩
          · rw [h.2]; exact dA_aS hS ok hc4 (by omega)
          · rw [h.2]; exact gAr_ne (by omega)
        · rw [if_neg c3] at h
          rw [Int32.le_iff_toInt_le] at c3
          exact Or.inr ⟨fun z => c3 z.2.2, h.1, h.2⟩
      · have h := ifb_f c2 h
        exact Or.inr ⟨fun z => by have := z.2.1; omega, h.1, h.2⟩
    · have h := ifb_f c1 h
      exact Or.inr ⟨fun z => by have := z.1; omega, h.1, h.2⟩
theorem F82 (hS : SK w) (ok : okS a = true) (hP : P ≤ 9) (hN : N ≤ 37) (hW : WS P N (sAg w a)) (hN0 : (gI w a 2).toInt = N) (hk : p1.toInt = K) (h : PS X k 82 0 [.ref a, .int p1] [] w r w') : ((K < N ∧ opn (gAr w a) K = true) ∧ r = some (.int 1) ∧ FM [] [a + 6, a + 7] w w' ∧ sAg w' a = strk K (sAg w a)) ∨ (¬ (K < N ∧ opn (gAr w a) K = true) ∧ r = some (.int 0) ∧ w' = w) := by
  cases k with
  | zero => exact (PS_0 h).elim
  | succ k =>
    have h := U82_0 hS h
    rw [if_neg (by rw [Int32.lt_iff_toInt_lt, z32]; omega)] at h
    by_cases c : gI w a 2 ≤ p1
    · rw [if_pos c] at h
      rw [Int32.le_iff_toInt_le, hN0, hk] at c
      exact Or.inr ⟨fun z => by have := z.1; omega, h.1, h.2⟩
    · rw [if_neg c] at h
      rw [Int32.le_iff_toInt_le, hN0, hk] at c
      have h := use_p hS h (fun _ _ z => F83 hS ok hk (by omega) z)
      cases ho : opn (gAr w a) K with
      | false =>
        rw [ho, if_pos (by decide +kernel)] at h
        exact Or.inr ⟨fun z => Bool.noConfusion z.2, h.1, h.2⟩
      | true =>
        rw [ho, if_neg (by decide +kernel)] at h
        obtain ⟨r4, w5, q1, q2⟩ := h
        obtain ⟨a1, a2, a3⟩ := F85s hS ok hP hk (by omega) (by omega) hW q1
        obtain ⟨b1, b2⟩ := q2 a1 a2.2.2.2
        subst w'
        exact Or.inl ⟨⟨by omega, rfl⟩, b1, a2, a3⟩
end GZ
