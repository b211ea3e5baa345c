/-! ===== what is owed in the reference's state: not below 0, bounded, of the village alone ===== -/
def DI (c' c : List Int32) (p m : Int) : Prop := ∀ j : Int, 0 ≤ j → j < 81 → 0 ≤ fr c' j ∧ fr c' j ≤ fr c j + m ∧ (p ≤ j / 9 ∨ p ≤ j % 9 → fr c' j ≤ fr c j)
def N0 (c : List Int32) : Prop := ∀ j : Int, 0 ≤ j → j < 81 → 0 ≤ fr c j ∧ fr c j ≤ 20000
def RG (c : List Int32) (g : Int) : Prop := ∀ r : Int, 0 ≤ r → r < g → 0 ≤ fr c (10 * r + 1)
def RE (c' c : List Int32) : Prop := ∀ j : Int, 0 ≤ j → j % 10 = 1 → fr c' j = fr c j
def DF (c : List Int32) (p B : Int) : Prop := ∀ j : Int, 0 ≤ j → j < 81 → 0 ≤ fr c j ∧ fr c j ≤ B ∧ (p ≤ j / 9 ∨ p ≤ j % 9 → fr c j = 0)
theorem DI_refl {c : List Int32} {p m : Int} (h : N0 c) (hm : 0 ≤ m) : DI c c p m := by
  intro j j0 j1
  have q := h j j0 j1
  omega
theorem DI_trans {a b c : List Int32} {p q m n k : Int} (h : DI a b p m) (g : DI b c q n) (hp : p ≤ q) (hk : m + n ≤ k) : DI a c q k := by
  intro j j0 j1
  have h1 := h j j0 j1
  have h2 := g j j0 j1
  omega
theorem DI_n0 {a c : List Int32} {p : Int} (h : DI a c p 0) (g : N0 c) : N0 a := by
  intro j j0 j1
  have h1 := h j j0 j1
  have h2 := g j j0 j1
  omega
theorem DI_set {c' c : List Int32} {p m n i : Int} {v : Int32} (h : DI c' c p m) (i0 : 0 ≤ i) (i1 : i < 81) (hl : c'.length = 81) (v0 : 0 ≤ v.toInt) (v1 : v.toInt ≤ fr c' i + n) (n0 : 0 ≤ n) (v2 : p ≤ i / 9 ∨ p ≤ i % 9 → v.toInt ≤ fr c' i) : DI (c'.set i.toNat v) c p (m + n) := by
  intro j j0 j1
  have q := h j j0 j1
  by_cases e : i = j
  · subst e
    rw [fr_eq i0 (by omega)]
    omega
  · rw [fr_ne i0 j0 e]
    omega
theorem DI_set0 {c' c : List Int32} {p m i : Int} {v : Int32} (h : DI c' c p m) (i0 : 0 ≤ i) (i1 : i < 81) (hl : c'.length = 81) (v0 : 0 ≤ v.toInt) (v1 : v.toInt ≤ fr c' i) : DI (c'.set i.toNat v) c p m := by
  have q := DI_set (n := 0) h i0 i1 hl v0 (by omega) (by omega) (fun _ => v1)
  rw [Int.add_zero] at q
  exact q
theorem RE_refl {c : List Int32} : RE c c := fun _ _ _ => rfl
theorem RE_trans {a b c : List Int32} (h : RE a b) (g : RE b c) : RE a c := fun j j0 j1 => (h j j0 j1).trans (g j j0 j1)
theorem RE_set {c : List Int32} {i : Int} {v : Int32} (i0 : 0 ≤ i) (hi : i % 10 ≠ 1) : RE (c.set i.toNat v) c := by
  intro j j0 j1
  exact fr_ne i0 j0 (by intro e; rw [e] at hi; exact hi j1)
theorem RG_re {a c : List Int32} {g : Int} (h : RG c g) (e : RE a c) : RG a g := by
  intro r r0 r1
  rw [e (10 * r + 1) (by omega) (by omega)]
  exact h r r0 r1
theorem RG_zero {c : List Int32} {g : Int} (h : g ≤ 0) : RG c g := fun r r0 r1 => absurd r1 (by omega)
theorem RG_more {a c : List Int32} {g : Int} (h : RG c g) (e : ∀ r : Int, 0 ≤ r → r < g → fr a (10 * r + 1) = fr c (10 * r + 1)) (hn : 0 ≤ fr a (10 * g + 1)) : RG a (g + 1) := by
  intro r r0 r1
  by_cases q : r = g
  · rw [q]
    exact hn
  · rw [e r r0 (by omega)]
    exact h r r0 (by omega)
theorem DF_step {a c : List Int32} {p n : Int} (h : DF c p (594 * n)) (g : DI a c p 594) : DF a p (594 * (n + 1)) := by
  intro j j0 j1
  have h1 := h j j0 j1
  have h2 := g j j0 j1
  omega
theorem DF_up {c : List Int32} {p n m : Int} (h : DF c p n) (hn : n ≤ m) : DF c p m := by
  intro j j0 j1
  have h1 := h j j0 j1
  omega
theorem DF_n0 {c : List Int32} {p n : Int} (h : DF c p n) (hn : n ≤ 20000) : N0 c := by
  intro j j0 j1
  have h1 := h j j0 j1
  omega
theorem DF_zero {c : List Int32} {p n : Int} (h : ∀ j : Int, 0 ≤ j → j < 81 → 0 ≤ (c.getD j.toNat 0).toInt ∧ (c.getD j.toNat 0).toInt ≤ 0) (hn : 0 ≤ n) : DF c p n := by
  intro j j0 j1
  have h1 := h j j0 j1
  unfold fr
  omega
/-- who is of a ring, as the row tells it -/
def PA (c : List Int32) (r i p : Int) : Prop := ∀ j : Int, 0 ≤ j → j < i → 0 ≤ fr c (r + 3 + j) ∧ fr c (r + 3 + j) < p
def RP (c : List Int32) (at_ i p : Int) : Prop := ∀ j : Int, 0 ≤ j → j < i → 0 ≤ fr c (at_ + 4 + j) ∧ fr c (at_ + 4 + j) < p
theorem PA_step {c : List Int32} {r i p : Int} (h : PA c r i p) (h0 : 0 ≤ fr c (r + 3 + i)) (h1 : fr c (r + 3 + i) < p) : PA c r (i + 1) p := by
  intro j j0 j1
  by_cases e : j = i
  · rw [e]
    exact ⟨h0, h1⟩
  · exact h j j0 (by omega)
theorem RP_step {c : List Int32} {r i p : Int} {v : Int32} (h : RP c r i p) (r0 : 0 ≤ r) (i0 : 0 ≤ i) (hl : r + 4 + i < c.length) (h0 : 0 ≤ v.toInt) (h1 : v.toInt < p) : RP (c.set (r + 4 + i).toNat v) r (i + 1) p := by
  intro j j0 j1
  by_cases e : j = i
  · rw [e, fr_eq (by omega) hl]
    exact ⟨h0, h1⟩
  · rw [fr_ne (by omega) (by omega) (by omega)]
    exact h j j0 (by omega)
theorem mpeo {f : Nat → Int32} {A : Nat → List Int32} {v : Int} (hI : MI f A) (hv : 610 ≤ v ∧ v ≤ 742 ∧ (v - 610) % 132 = 0) : 0 ≤ fr (A 148) v ∧ fr (A 148) v ≤ 9 := MT_people (mt_148 hI rfl (by omega)) (by omega)
def RQ (c' c : List Int32) (n : Int) : Prop := ∀ j : Int, 0 ≤ j → j < n → fr c' j = fr c j
theorem RQ_set {c' c : List Int32} {n i : Int} {v : Int32} (h : RQ c' c n) (hi : n ≤ i) (i0 : 0 ≤ i) : RQ (c'.set i.toNat v) c n := by
  intro j j0 j1
  rw [fr_ne i0 j0 (by omega)]
  exact h j j0 j1
theorem RQ_refl {c : List Int32} {n : Int} : RQ c c n := fun _ _ _ => rfl
/-- a ring that has begun: how much, and how many, stand where they should -/
theorem ring_new {c c' : List Int32} {a b m o : Int32} {g : Int} (h : RG c g) (g0 : 0 ≤ g) (g1 : 10 * g + 9 < c.length) (hb : 0 ≤ b.toInt) (q : RQ c' ((((c.set (10 * g).toNat a).set (10 * g + 1).toNat b).set (10 * g + 2).toNat m).set (10 * g + 3).toNat o) (10 * g + 4)) : RG c' (g + 1) ∧ fr c' (10 * g) = a.toInt := by
  refine ⟨RG_more h (fun r r0 r1 => ?_) ?_, ?_⟩
  · rw [q (10 * r + 1) (by omega) (by omega), fr_ne (by omega) (by omega) (by omega), fr_ne (by omega) (by omega) (by omega), fr_ne (by omega) (by omega) (by omega), fr_ne (by omega) (by omega) (by omega)]
  · rw [q (10 * g + 1) (by omega) (by omega), fr_ne (by omega) (by omega) (by omega), fr_ne (by omega) (by omega) (by omega), fr_eq (by omega) (by rw [List.length_set]; omega)]
    exact hb
  · rw [q (10 * g) (by omega) (by omega), fr_ne (by omega) (by omega) (by omega), fr_ne (by omega) (by omega) (by omega), fr_ne (by omega) (by omega) (by omega), fr_eq (by omega) (by omega)]
theorem DI_up {a c : List Int32} {p m n : Int} (h : DI a c p m) (hn : m ≤ n) : DI a c p n := by
  intro j j0 j1
  have h1 := h j j0 j1
  omega
theorem DI_w {a c : List Int32} {q p m n : Int} (h : DI a c q m) (hq : q ≤ p) (hn : m ≤ n) : DI a c p n := by
  intro j j0 j1
  have h1 := h j j0 j1
  omega
theorem DI_le {a c : List Int32} {p m : Int} (h : DI a c p m) : ∀ j : Int, 0 ≤ j → j < 81 → 0 ≤ fr a j ∧ fr a j ≤ fr c j + m := fun j j0 j1 => ⟨(h j j0 j1).1, (h j j0 j1).2.1⟩
