section
theorem kz_m1000000 : (-1000000 : Int32).toInt = -1000000 := by decide +kernel
theorem kz_90 : (90 : Int32).toInt = 90 := by decide +kernel
theorem kz_1690 : (1690 : Int32).toInt = 1690 := by decide +kernel
end
section
/-! ===== what the reference asks of a flow: sums and bounds of over0, low ===== -/
def sm : List Int32 → Int
  | [] => 0
  | x :: xs => x.toInt + sm xs
theorem sm_set {xs : List Int32} {i : Nat} {v : Int32} (hi : i < xs.length) : sm (xs.set i v) + (xs.getD i 0).toInt = sm xs + v.toInt := by
  induction xs generalizing i with
  | nil => exact absurd hi (Nat.not_lt_zero i)
  | cons x xs ih =>
    cases i with
    | zero =>
      show sm (v :: xs) + x.toInt = _
      unfold sm
      omega
    | succ i =>
      have h := ih (i := i) (by rw [List.length_cons] at hi; omega)
      show sm (x :: xs.set i v) + (xs.getD i 0).toInt = _
      unfold sm
      omega
theorem sm_zero {xs : List Int32} (h : ∀ j : Nat, j < xs.length → (xs.getD j 0).toInt = 0) : sm xs = 0 := by
  induction xs with
  | nil => rfl
  | cons x xs ih =>
    have h0 : x.toInt = 0 := h 0 (by rw [List.length_cons]; omega)
    have h1 := ih (fun j hj => h (j + 1) (by rw [List.length_cons]; omega))
    unfold sm
    omega
def OB (c : List Int32) (n p : Int) : Prop := (∀ j : Int, 0 ≤ j → j < 10 → -n ≤ fr c j ∧ fr c j ≤ n) ∧ (∀ j : Int, p ≤ j → 0 ≤ j → j < 10 → fr c j = 0) ∧ sm c = 0
def LB (c : List Int32) (n : Int) : Prop := ∀ j : Int, 0 ≤ j → j < 100 → 0 ≤ fr c j ∧ fr c j ≤ n
def AK (A : Nat → List Int32) (v w : Int) : Prop := OB (A 163) (198 * w) (fr (A 148) v) ∧ LB (A 160) (99 * w) ∧ (∀ j : Int, 0 ≤ j → j < 100 → fr (A 161) j = 0 ∧ fr (A 162) j = 0)
theorem OB_two {c : List Int32} {n m p a b : Int} {x y : Int32} (h : OB c n p) (hl : c.length = 10) (a0 : 0 ≤ a) (a1 : a < 9) (b0 : 0 ≤ b) (b1 : b < 9) (ap : a < p) (bp : b < p) (m0 : 0 ≤ m) (m1 : m ≤ 99) (ex : x.toInt = fr c a - m) (ey : y.toInt = fr (c.set a.toNat x) b + m) : OB ((c.set a.toNat x).set b.toNat y) (n + 198) p := by
  obtain ⟨h1, h2, h3⟩ := h
  have n0 : ∀ j : Int, 0 ≤ j → j < 10 → -(n + 99) ≤ fr (c.set a.toNat x) j ∧ fr (c.set a.toNat x) j ≤ n + 99 := by
    intro j j0 j1
    have hj := h1 j j0 j1
    by_cases e : a = j
    · subst e
      rw [fr_eq a0 (by omega)]
      omega
    · rw [fr_ne a0 j0 e]
      omega
  refine ⟨fun j j0 j1 => ?_, fun j jp j0 j1 => ?_, ?_⟩
  · by_cases e : b = j
    · subst e
      have hb := n0 b j0 j1
      rw [fr_eq b0 (by rw [List.length_set]; omega)]
      omega
    · have hb := n0 j j0 j1
      rw [fr_ne b0 j0 e]
      omega
  · rw [fr_ne b0 j0 (by omega), fr_ne a0 j0 (by omega)]
    exact h2 j jp j0 j1
  · have q1 := sm_set (xs := c) (i := a.toNat) (v := x) (by omega)
    have q2 := sm_set (xs := c.set a.toNat x) (i := b.toNat) (v := y) (by rw [List.length_set]; omega)
    unfold fr at ex ey
    omega
theorem LB_set {c : List Int32} {n i : Int} {v : Int32} (h : LB c n) (hl : c.length = 100) (i0 : 0 ≤ i) (i1 : i < 100) (hv : 0 ≤ v.toInt ∧ v.toInt ≤ n + 99) : LB (c.set i.toNat v) (n + 99) := by
  intro j j0 j1
  have hj := h j j0 j1
  by_cases e : i = j
  · subst e
    rw [fr_eq i0 (by omega)]
    exact hv
  · rw [fr_ne i0 j0 e]
    omega
theorem AK_step {A A1 A2 A3 : Nat → List Int32} {v w a b m : Int} {l x y : Int32} (h : AK A v w) (l0 : (A 160).length = 100) (l3 : (A 163).length = 10) (a0 : 0 ≤ a) (a1 : a < 9) (b0 : 0 ≤ b) (b1 : b < 9) (ap : a < fr (A 148) v) (bp : b < fr (A 148) v) (m0 : 0 ≤ m) (m1 : m ≤ 99) (el : l.toInt = fr (A 160) (10 * a + b) + m) (ex : x.toInt = fr (A 163) a - m) (ey : y.toInt = fr ((A 163).set a.toNat x) b + m) (e1 : A1 = upa A 160 ((A 160).set (10 * a + b).toNat l)) (e2 : A2 = upa A1 163 ((A1 163).set a.toNat x)) (e3 : A3 = upa A2 163 ((A2 163).set b.toNat y)) : AK A3 v (w + 1) := by
  obtain ⟨h1, h2, h3⟩ := h
  have q3 : A3 163 = ((A 163).set a.toNat x).set b.toNat y := by
    rw [upa_at e3, upa_at e2, upa_fr e1 (by decide : (163 : Nat) ≠ 160)]
  have q0 : A3 160 = (A 160).set (10 * a + b).toNat l := by
    rw [upa_fr e3 (by decide : (160 : Nat) ≠ 163), upa_fr e2 (by decide : (160 : Nat) ≠ 163), upa_at e1]
  have qf : ∀ k, k ≠ 160 → k ≠ 163 → A3 k = A k := by
    intro k k0 k3
    rw [upa_fr e3 k3, upa_fr e2 k3, upa_fr e1 k0]
  refine ⟨?_, ?_, ?_⟩
  · rw [q3, qf 148 (by decide) (by decide), show 198 * (w + 1) = 198 * w + 198 by omega]
    exact OB_two h1 l3 a0 a1 b0 b1 ap bp m0 m1 ex ey
  · rw [q0, show 99 * (w + 1) = 99 * w + 99 by omega]
    have hj := h2 (10 * a + b) (by omega) (by omega)
    exact LB_set h2 l0 (by omega) (by omega) (by omega)
  · rw [qf 161 (by decide) (by decide), qf 162 (by decide) (by decide)]
    exact h3
theorem AK_up {A : Nat → List Int32} {v w u : Int} (h : AK A v w) (hu : w ≤ u) : AK A v u := by
  obtain ⟨⟨h1, h4, h5⟩, h2, h3⟩ := h
  refine ⟨⟨fun j j0 j1 => ?_, h4, h5⟩, fun j j0 j1 => ?_, h3⟩
  · have q := h1 j j0 j1
    omega
  · have q := h2 j j0 j1
    omega
theorem AK_zero {A : Nat → List Int32} {v w : Int} (hw : w = 0) (l3 : (A 163).length = 10) (z0 : ∀ j : Int, 0 ≤ j → j < 100 → 0 ≤ ((A 160).getD j.toNat 0).toInt ∧ ((A 160).getD j.toNat 0).toInt ≤ 0) (z1 : ∀ j : Int, 0 ≤ j → j < 100 → 0 ≤ ((A 161).getD j.toNat 0).toInt ∧ ((A 161).getD j.toNat 0).toInt ≤ 0) (z2 : ∀ j : Int, 0 ≤ j → j < 100 → 0 ≤ ((A 162).getD j.toNat 0).toInt ∧ ((A 162).getD j.toNat 0).toInt ≤ 0) (z3 : ∀ j : Int, 0 ≤ j → j < 10 → 0 ≤ ((A 163).getD j.toNat 0).toInt ∧ ((A 163).getD j.toNat 0).toInt ≤ 0) : AK A v w := by
  subst hw
  refine ⟨⟨fun j j0 j1 => ?_, fun j _ j0 j1 => ?_, ?_⟩, fun j j0 j1 => ?_, fun j j0 j1 => ?_⟩
  · have q := z3 j j0 j1
    unfold fr
    omega
  · have q := z3 j j0 j1
    unfold fr
    omega
  · refine sm_zero (fun j hj => ?_)
    have q := z3 (j : Int) (by omega) (by omega)
    rw [show (j : Int).toNat = j by omega] at q
    omega
  · have q := z0 j j0 j1
    unfold fr
    omega
  · have q1 := z1 j j0 j1
    have q2 := z2 j j0 j1
    unfold fr
    omega
theorem AK_q {A : Nat → List Int32} {v w : Int} (h : AK A v w) (hw : w ≤ 7) : ∀ j : Int, (0) ≤ j → j < (10) → (-1000000) ≤ ((A 163).getD j.toNat 0).toInt ∧ ((A 163).getD j.toNat 0).toInt ≤ 1000000 := by
  intro j j0 j1
  have q := h.1.1 j j0 j1
  unfold fr at q
  omega
end
