/-! ===== the class: what goes through from one to another ===== -/
section IHF
variable {X : pm_X} {k k2 : Nat} {w0 w w1 w2 w3 w4 w' : pm_W} {r r2 q0 q1 q2 : Option Value} {p1 p2 p3 p4 i1 i2 i3 i4 i5 i6 z z1 z2 x y : Int32} {i v j m u P t s b Q B I J K n a T p : Nat} {c : Nat → Nat → Int} {d : Int}
def rmW (w : pm_W) (a b : Nat) : Int := ((gA w 74).getD (9 * a + b) 0).toInt
/-- the rooms between P people -/
def cpW (R : Nat → Nat → Int) (P a b : Nat) : Int := if a < P ∧ b < P then R a b else 0
theorem F162 (hS : SK w) (h : PS X k 162 0 [.ref 79] [] w r w') : r = none ∧ FM [] [80] w w' ∧ ∀ a b, a < 12 → b < 12 → frC w' a b = 0 := by
  cases k with
  | zero => exact (PS_0 h).elim
  | succ k =>
    obtain ⟨q1, w2, y, h⟩ := U162_0 hS h
    rw [(R79 hS).1] at y
    obtain ⟨e1, f1, l1⟩ := F20_n (N := 144) hS (by decide +kernel) (l80 hS) (by decide) y
    have h := h e1 f1.2.2.2
    rw [h.2]
    refine ⟨h.1, f1, fun a b ha hb => ?_⟩
    unfold frC
    rw [l1 _ (by omega), z32]
theorem FALw (hS : SK w) (h1 : p1.toInt = a) (h2 : p2.toInt = b) (ha : a < 12) (hb : b < 12) (h : PS X k 163 0 [.ref 79, .int p1, .int p2, .int p3] [] w r w') : r = none ∧ FM [] [80] w w' ∧ ∀ i j, i < 12 → j < 12 → frC w' i j = if i = a ∧ j = b then p3.toInt else frC w i j := by
  have e12 : (12 : Int32).toInt = 12 := by decide +kernel
  cases k with
  | zero => exact (PS_0 h).elim
  | succ k =>
    obtain ⟨_, h⟩ := U163_0 hS h
    obtain ⟨a1, a2⟩ := h _ rfl
    rw [(R79 hS).1] at a2
    rw [a2]
    exact ⟨a1, FM_aS hS (by decide), fun i j hi hj => frC_s hS ha hb (by rw [zi_add (zi_mul h1 e12 (by omega) (by omega)) h2 (by omega) (by omega)]; omega) i j hi hj⟩
theorem F161_l (hP : (gI w0 (gR w0 68 0) 0).toInt = P) (hP9 : P ≤ 9) (h1 : p1.toInt = s) (h2 : p2.toInt = t) (hs : s < P) (ht : t < P) (hst : s ≠ t) (hrm : ∀ a b, a < P → b < P → 0 ≤ rmW w0 a b ∧ rmW w0 a b ≤ 99) : ∀ k : Nat,
    (∀ (w : pm_W) (A : Nat) (i3 : Int32) (u4 : Value), FM [] [80] w0 w → i3.toInt = A → A ≤ P → (∀ i j, i < 12 → j < 12 → frC w i j = if i < A ∧ j < P then rmW w0 i j else 0) → PS X k 161 9 [.ref 68, .int p1, .int p2, .int i3, u4] [] w r w' → FM [] [80, 81, 82] w0 w' ∧ ∃ z : Int32, r = some (.int z) ∧ MCst (cpW (rmW w0) P) 12 s t z.toInt) ∧
    (∀ (w : pm_W) (A B : Nat) (i3 i4 : Int32), FM [] [80] w0 w → i3.toInt = A → A < P → i4.toInt = B → B ≤ P → (∀ i j, i < 12 → j < 12 → frC w i j = if (i < A ∧ j < P) ∨ (i = A ∧ j < B) then rmW w0 i j else 0) → PS X k 161 23 [.ref 68, .int p1, .int p2, .int i3, .int i4] [] w r w' → FM [] [80, 81, 82] w0 w' ∧ ∃ z : Int32, r = some (.int z) ∧ MCst (cpW (rmW w0) P) 12 s t z.toInt) := by
  intro k
  induction k with
  | zero => exact ⟨fun _ _ _ _ _ _ _ _ h => (PS_0 h).elim, fun _ _ _ _ _ _ _ _ _ _ _ h => (PS_0 h).elim⟩
  | succ k ih =>
    obtain ⟨ih9, ih23⟩ := ih
    refine ⟨fun w A i3 u4 fm h3 hA hf h => ?_, fun w A B i3 i4 fm h3 hA h4 hB hf h => ?_⟩
    · have hS : SK w := fm.2.2.2
      have h := U161_9 hS h
      rw [FM_r fm (by simp), FM_i fm (by simp)] at h
      by_cases c1 : gI w0 (gR w0 68 0) 0 ≤ i3
      · rw [if_pos c1] at h
        rw [Int32.le_iff_toInt_le, hP, h3] at c1
        have e : A = P := by omega
        obtain ⟨q1, w2, y, h5⟩ := h
        have cp : ∀ a b, a < 12 → b < 12 → 0 ≤ cpW (rmW w0) P a b ∧ cpW (rmW w0) P a b ≤ 99 := by
          intro a b _ _
          unfold cpW
          by_cases c : a < P ∧ b < P
          · rw [if_pos c]; exact hrm a b c.1 c.2
          · rw [if_neg c]; omega
        obtain ⟨f2, z, a1, a2⟩ := F164 (c := cpW (rmW w0) P) hS h1 h2 (by omega) (by omega) hst (fun a b ha hb => by rw [hf a b ha hb, e]; rfl) (fun a b ha hb => (cp a b ha hb).1) (fun a b ha hb => by have := (cp a b ha hb).2; have := (cp b a hb ha).2; omega) (by
          have q := suI_le (f := fun b => cpW (rmW w0) P s b) (g := fun _ => 99) 12 (fun b hb => (cp s b (by omega) hb).2)
          have : suI (fun _ => (99 : Int)) 12 = 1188 := by decide
          omega) y
        have h := h5 _ a1 f2.2.2.2
        rw [h.2]
        exact ⟨FM_trans (FM_mono fm (by intro x hx; cases hx) (by decide)) f2, z, h.1, a2⟩
      · rw [if_neg c1] at h
        rw [Int32.le_iff_toInt_le, hP, h3] at c1
        refine ih23 w A 0 i3 0 fm h3 (by omega) z32 (by omega) (fun i j hi hj => ?_) h
        rw [hf i j hi hj]
        by_cases c : i < A ∧ j < P
        · rw [if_pos c, if_pos (Or.inl c)]
        · rw [if_neg c, if_neg (by omega)]
    · have hS : SK w := fm.2.2.2
      have h := U161_23 hS h
      rw [FM_r fm (by simp), FM_i fm (by simp)] at h
      by_cases c1 : gI w0 (gR w0 68 0) 0 ≤ i4
      · rw [if_pos c1] at h
        rw [Int32.le_iff_toInt_le, hP, h4] at c1
        refine ih9 w (A + 1) _ _ fm (by rw [zi_inc (n := 40) (by omega) (by omega), h3]; rfl) (by omega) (fun i j hi hj => ?_) h
        rw [hf i j hi hj]
        by_cases c : i < A + 1 ∧ j < P
        · rw [if_pos (by omega), if_pos c]
        · rw [if_neg (by omega), if_neg c]
      · rw [if_neg c1] at h
        rw [Int32.le_iff_toInt_le, hP, h4] at c1
        obtain ⟨c9, hc9, h⟩ := use_z hS h (fun _ _ t => F52n hS h3 h4 (by omega) (by omega) t)
        obtain ⟨_, q4, w5, y5, h⟩ := h
        obtain ⟨a1, f5, l5⟩ := FALw hS h3 h4 (by omega) (by omega) y5
        have h := h a1 f5.2.2.2
        have ev : (aG w 74 c9).toInt = rmW w0 A B := by
          rw [aG_n hc9, FM_a fm (by decide)]
          rfl
        refine ih23 w5 A (B + 1) i3 _ (FM_trans fm f5) h3 hA (by rw [zi_inc (n := 40) (by omega) (by omega), h4]; rfl) (by omega) (fun i j hi hj => ?_) h
        rw [l5 i j hi hj, ev, hf i j hi hj]
        by_cases c : i = A ∧ j = B
        · rw [if_pos c, if_pos (by omega), c.1, c.2]
        · rw [if_neg c]
          by_cases c2 : (i < A ∧ j < P) ∨ (i = A ∧ j < B)
          · rw [if_pos c2, if_pos (by omega)]
          · rw [if_neg c2, if_neg (by omega)]
theorem F161 (hS : SK w) (hP : (gI w (gR w 68 0) 0).toInt = P) (hP9 : P ≤ 9) (h1 : p1.toInt = s) (h2 : p2.toInt = t) (hs : s < P) (ht : t < P) (hst : s ≠ t) (hrm : ∀ a b, a < P → b < P → 0 ≤ rmW w a b ∧ rmW w a b ≤ 99) (h : PS X k 161 0 [.ref 68, .int p1, .int p2, pm_dead, pm_dead] [] w r w') : FM [] [80, 81, 82] w w' ∧ ∃ z : Int32, r = some (.int z) ∧ MCst (cpW (rmW w) P) 12 s t z.toInt := by
  cases k with
  | zero => exact (PS_0 h).elim
  | succ k =>
    obtain ⟨q1, w2, y, h⟩ := U161_0 hS h
    obtain ⟨a1, f2, l2⟩ := F162 hS y
    have h := h a1 f2.2.2.2
    exact (F161_l hP hP9 h1 h2 hs ht hst hrm k).1 w2 0 0 _ f2 z32 (Nat.zero_le _) (fun i j hi hj => by rw [l2 i j hi hj, if_neg (fun z => Nat.not_lt_zero i z.1)]) h
end IHF
