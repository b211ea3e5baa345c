/-! ===== the reference's ways through what is spare ===== -/
def fr (c : List Int32) (b : Int) : Int := (c.getD b.toNat 0).toInt
def spv (A : Nat → List Int32) (a b : Int) : Int32 := (A 161).getD (10 * a + b).toNat 0 - (A 160).getD (10 * a + b).toNat 0 - (A 162).getD (10 * a + b).toNat 0 + (A 162).getD (10 * b + a).toNat 0
/-- from0 at b: nobody, b itself (who has more), or one who comes earlier with something to spare -/
def WN (A : Nat → List Int32) (rk : Nat → Nat) (b : Int) : Prop := 0 ≤ fr (A 164) b → (fr (A 164) b = b ∧ 0 < fr (A 163) b) ∨ (fr (A 164) b ≠ b ∧ 0 ≤ fr (A 164) (fr (A 164) b) ∧ rk (fr (A 164) b).toNat < rk b.toNat ∧ 0 < (spv A (fr (A 164) b) b).toInt)
def WF (A : Nat → List Int32) : Prop := ∃ rk : Nat → Nat, ∀ b : Int, 0 ≤ b → b ≤ 9 → WN A rk b
/-- the same without what is spare -/
def WR (c : List Int32) (rk : Nat → Nat) : Prop := ∀ b : Int, 0 ≤ b → b ≤ 9 → 0 ≤ fr c b → fr c b = b ∨ (0 ≤ fr c (fr c b) ∧ rk (fr c b).toNat < rk b.toNat)
def W1 (A : Nat → List Int32) (p : Int) : Prop := ∀ j : Int, 0 ≤ j → j < p → (fr (A 164) j = j ∧ 0 < fr (A 163) j) ∨ fr (A 164) j = -1
/-- what wayTo answers: who is owed, reached -/
def PT (A : Nat → List Int32) (r : Int) : Prop := fr (A 163) r < 0 ∧ 0 ≤ fr (A 164) r ∧ WF A
theorem fr_ne {c : List Int32} {i j : Int} {v : Int32} (hi : 0 ≤ i) (hj : 0 ≤ j) (h : i ≠ j) : fr (c.set i.toNat v) j = fr c j := by
  unfold fr
  rw [gz_ne (by omega)]
theorem fr_eq {c : List Int32} {i : Int} {v : Int32} (h0 : 0 ≤ i) (h : i < c.length) : fr (c.set i.toNat v) i = v.toInt := by
  unfold fr
  rw [gz_eq (by omega)]
theorem W1_step {A A' : Nat → List Int32} {p : Int} {v : Int32} (h : W1 A p) (h0 : 0 ≤ p) (h1 : p ≤ 9) (hl : (A 164).length = 10) (e : A' = upa A 164 ((A 164).set p.toNat v)) (hv : (v.toInt = p ∧ 0 < fr (A 163) p) ∨ v.toInt = -1) : W1 A' (p + 1) := by
  intro j j0 j1
  rw [upa_at e, upa_fr e (by decide : (163 : Nat) ≠ 164)]
  by_cases ej : p = j
  · subst ej
    rw [fr_eq h0 (by omega)]
    exact hv
  · rw [fr_ne h0 j0 ej]
    exact h j j0 (by omega)
theorem W1_end {A : Nat → List Int32} {p : Int} (h : W1 A p) (hp : 10 ≤ p) : WF A := by
  refine ⟨fun _ => 0, fun b b0 b1 hb => ?_⟩
  rcases h b b0 (by omega) with h | h
  · exact Or.inl h
  · omega
theorem WF_step {A A' : Nat → List Int32} {a b : Int} {v : Int32} (h : WF A) (ha : 0 ≤ a) (hb : 0 ≤ b) (hb9 : b ≤ 9) (hl : (A 164).length = 10) (hne : a ≠ b) (hfa : 0 ≤ fr (A 164) a) (hfb : fr (A 164) b < 0) (hs : 0 < (spv A a b).toInt) (hv : v.toInt = a) (e : A' = upa A 164 ((A 164).set b.toNat v)) : WF A' := by
  obtain ⟨rk, hr⟩ := h
  have e4 := upa_at e
  have e3 : A' 163 = A 163 := upa_fr e (by decide)
  have es : ∀ x y : Int, spv A' x y = spv A x y := by
    intro x y
    unfold spv
    rw [upa_fr e (by decide : (160 : Nat) ≠ 164), upa_fr e (by decide : (161 : Nat) ≠ 164), upa_fr e (by decide : (162 : Nat) ≠ 164)]
  refine ⟨fun n => if n = b.toNat then rk a.toNat + 1 else rk n, fun x x0 x1 hx => ?_⟩
  rw [e4, e3, es] at *
  by_cases ex : b = x
  · subst ex
    rw [fr_eq hb (by omega), hv]
    refine Or.inr ⟨hne, ?_, ?_, hs⟩
    · rw [fr_ne hb ha (Ne.symm hne)]
      exact hfa
    · show (if a.toNat = b.toNat then _ else _) < (if b.toNat = b.toNat then _ else _)
      rw [if_pos rfl, if_neg (by omega)]
      exact Nat.lt_succ_self _
  · rw [fr_ne hb x0 ex] at hx ⊢
    rcases hr x x0 x1 hx with h | ⟨h1, h2, h3, h4⟩
    · exact Or.inl h
    · have hq : b ≠ fr (A 164) x := by
        intro q
        rw [← q] at h2
        omega
      refine Or.inr ⟨h1, ?_, ?_, h4⟩
      · rw [fr_ne hb hx hq]
        exact h2
      · show (if (fr (A 164) x).toNat = b.toNat then _ else _) < (if x.toNat = b.toNat then _ else _)
        rw [if_neg (by omega), if_neg (by omega)]
        exact h3
theorem WN_ne {A : Nat → List Int32} {rk : Nat → Nat} {b : Int} (h : WN A rk b) (h0 : 0 ≤ fr (A 164) b) (hn : fr (A 164) b ≠ b) : 0 ≤ fr (A 164) (fr (A 164) b) ∧ rk (fr (A 164) b).toNat < rk b.toNat ∧ 0 < (spv A (fr (A 164) b) b).toInt := by
  rcases h h0 with h | h
  · exact absurd h.1 hn
  · exact h.2
theorem WN_eq {A : Nat → List Int32} {rk : Nat → Nat} {b : Int} (h : WN A rk b) (h0 : 0 ≤ fr (A 164) b) (hn : fr (A 164) b = b) : 0 < fr (A 163) b := by
  rcases h h0 with h | h
  · exact h.2
  · exact absurd hn h.1
theorem WR_of {A : Nat → List Int32} {rk : Nat → Nat} (h : ∀ b : Int, 0 ≤ b → b ≤ 9 → WN A rk b) : WR (A 164) rk := by
  intro b b0 b1 hb
  rcases h b b0 b1 hb with h | h
  · exact Or.inl h.1
  · exact Or.inr ⟨h.2.1, h.2.2.1⟩
theorem WR_ne {c : List Int32} {rk : Nat → Nat} {b : Int} (h : WR c rk) (b0 : 0 ≤ b) (b1 : b ≤ 9) (hb : 0 ≤ fr c b) (hn : fr c b ≠ b) : 0 ≤ fr c (fr c b) ∧ rk (fr c b).toNat < rk b.toNat := by
  rcases h b b0 b1 hb with h | h
  · exact absurd h hn
  · exact h
/-- the sum of what is above 0 -/
def ps : List Int32 → Nat
  | [] => 0
  | x :: xs => x.toInt.toNat + ps xs
theorem ps_set {xs : List Int32} {i : Nat} {v : Int32} (hi : i < xs.length) : ps (xs.set i v) + (xs.getD i 0).toInt.toNat = ps xs + v.toInt.toNat := by
  induction xs generalizing i with
  | nil => exact absurd hi (Nat.not_lt_zero i)
  | cons x xs ih =>
    cases i with
    | zero =>
      show ps (v :: xs) + x.toInt.toNat = _
      unfold ps
      omega
    | succ i =>
      have h := ih (i := i) (by rw [List.length_cons] at hi; omega)
      show ps (x :: xs.set i v) + (xs.getD i 0).toInt.toNat = _
      unfold ps
      omega
theorem ps_two {xs : List Int32} {i j : Int} {v w : Int32} (hl : xs.length = 10) (i0 : 0 ≤ i) (i1 : i ≤ 9) (j0 : 0 ≤ j) (j1 : j ≤ 9) (hne : i ≠ j) (hi : 0 ≤ v.toInt) (hv : v.toInt < fr xs i) (hj : fr xs j < 0) (hw : w.toInt ≤ 0) : ps ((xs.set i.toNat v).set j.toNat w) < ps xs := by
  have h1 := ps_set (xs := xs) (i := i.toNat) (v := v) (by omega)
  have h2 := ps_set (xs := xs.set i.toNat v) (i := j.toNat) (v := w) (by rw [List.length_set]; omega)
  rw [gz_ne (by omega)] at h2
  unfold fr at hv hj
  omega
theorem cnn_set0 {xs : List Int32} {i : Int} {v : Int32} (h0 : 0 ≤ i) (hi : i < xs.length) (hn : fr xs i < 0) (hv : 0 ≤ v.toInt) : cnn (xs.set i.toNat v) = cnn xs + 1 := cnn_set (by omega) hn hv
