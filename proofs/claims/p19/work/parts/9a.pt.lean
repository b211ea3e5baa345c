/-! ===== debts parted into rings: rows, columns, sums ===== -/
def rowS (c : List Int32) (q : Int) : Nat → Int
  | 0 => 0
  | n + 1 => rowS c q n + fr c (9 * q + (n : Int))
def colS (c : List Int32) (q : Int) : Nat → Int
  | 0 => 0
  | n + 1 => colS c q n + fr c (9 * (n : Int) + q)
def sumT (c : List Int32) : Nat → Int
  | 0 => 0
  | n + 1 => sumT c n + fr c (n : Int)
def BA (c : List Int32) : Prop := ∀ q : Int, 0 ≤ q → q < 9 → rowS c q 9 = colS c q 9
theorem rowS_set {c : List Int32} {a b : Int} {v : Int32} (hl : c.length = 81) (a0 : 0 ≤ a) (a1 : a < 9) (b0 : 0 ≤ b) (b1 : b < 9) {q : Int} (q0 : 0 ≤ q) (q1 : q < 9) : ∀ n : Nat, n ≤ 9 → rowS (c.set (9 * a + b).toNat v) q n = rowS c q n + (if q = a ∧ b < n then v.toInt - fr c (9 * a + b) else 0) := by
  intro n
  induction n with
  | zero =>
    intro _
    rw [if_neg (by omega)]
    rfl
  | succ n ih =>
    intro hn
    have h := ih (by omega)
    show rowS _ q n + fr _ (9 * q + (n : Int)) = rowS c q n + fr c (9 * q + (n : Int)) + _
    rw [h]
    by_cases e : 9 * a + b = 9 * q + (n : Int)
    · have e1 : q = a := by omega
      have e2 : b = (n : Int) := by omega
      rw [← e, fr_eq (by omega) (by omega), if_neg (by omega), if_pos (by omega)]
      omega
    · rw [fr_ne (by omega) (by omega) e]
      by_cases p : q = a ∧ b < (n : Int)
      · rw [if_pos p, if_pos (by omega)]
        omega
      · rw [if_neg p, if_neg (by omega)]
        omega
theorem colS_set {c : List Int32} {a b : Int} {v : Int32} (hl : c.length = 81) (a0 : 0 ≤ a) (a1 : a < 9) (b0 : 0 ≤ b) (b1 : b < 9) {q : Int} (q0 : 0 ≤ q) (q1 : q < 9) : ∀ n : Nat, n ≤ 9 → colS (c.set (9 * a + b).toNat v) q n = colS c q n + (if q = b ∧ a < n then v.toInt - fr c (9 * a + b) else 0) := by
  intro n
  induction n with
  | zero =>
    intro _
    rw [if_neg (by omega)]
    rfl
  | succ n ih =>
    intro hn
    have h := ih (by omega)
    show colS _ q n + fr _ (9 * (n : Int) + q) = colS c q n + fr c (9 * (n : Int) + q) + _
    rw [h]
    by_cases e : 9 * a + b = 9 * (n : Int) + q
    · have e1 : q = b := by omega
      have e2 : a = (n : Int) := by omega
      rw [← e, fr_eq (by omega) (by omega), if_neg (by omega), if_pos (by omega)]
      omega
    · rw [fr_ne (by omega) (by omega) e]
      by_cases p : q = b ∧ a < (n : Int)
      · rw [if_pos p, if_pos (by omega)]
        omega
      · rw [if_neg p, if_neg (by omega)]
        omega
theorem sumT_set {c : List Int32} {i : Int} {v : Int32} (i0 : 0 ≤ i) (hl : i < c.length) : ∀ n : Nat, sumT (c.set i.toNat v) n = sumT c n + (if i < n then v.toInt - fr c i else 0) := by
  intro n
  induction n with
  | zero =>
    rw [if_neg (by omega)]
    rfl
  | succ n ih =>
    show sumT _ n + fr _ (n : Int) = sumT c n + fr c (n : Int) + _
    rw [ih]
    by_cases e : i = (n : Int)
    · rw [← e, fr_eq i0 hl, if_neg (by omega), if_pos (by omega)]
      omega
    · rw [fr_ne i0 (by omega) e]
      by_cases p : i < (n : Int)
      · rw [if_pos p, if_pos (by omega)]
        omega
      · rw [if_neg p, if_neg (by omega)]
        omega
theorem colS_ge {c : List Int32} {q a : Int} (h : N0 c) (q0 : 0 ≤ q) (q1 : q < 9) (a0 : 0 ≤ a) : ∀ n : Nat, n ≤ 9 → a < n → fr c (9 * a + q) ≤ colS c q n ∧ 0 ≤ colS c q n := by
  have z : ∀ n : Nat, n ≤ 9 → 0 ≤ colS c q n := by
    intro n
    induction n with
    | zero => intro _; exact Int.le_refl 0
    | succ n ih =>
      intro hn
      have h1 := ih (by omega)
      have h2 := h (9 * (n : Int) + q) (by omega) (by omega)
      show 0 ≤ colS c q n + fr c (9 * (n : Int) + q)
      omega
  intro n
  induction n with
  | zero => intro _ h1; omega
  | succ n ih =>
    intro hn ha
    have h1 := z n (by omega)
    have h2 := h (9 * (n : Int) + q) (by omega) (by omega)
    show fr c (9 * a + q) ≤ colS c q n + fr c (9 * (n : Int) + q) ∧ 0 ≤ colS c q n + fr c (9 * (n : Int) + q)
    by_cases e : a = (n : Int)
    · rw [e]
      omega
    · have h3 := ih (by omega) (by omega)
      omega
theorem rowS_le {c : List Int32} {q : Int} (h : ∀ j : Int, 0 ≤ j → j < 81 → j / 9 = q → fr c j ≤ 0) (q0 : 0 ≤ q) (q1 : q < 9) : ∀ n : Nat, n ≤ 9 → rowS c q n ≤ 0 := by
  intro n
  induction n with
  | zero => intro _; exact Int.le_refl 0
  | succ n ih =>
    intro hn
    have h1 := ih (by omega)
    have h2 := h (9 * q + (n : Int)) (by omega) (by omega) (by omega)
    show rowS c q n + fr c (9 * q + (n : Int)) ≤ 0
    omega
/-- who is owed owes -/
theorem owes_too {c : List Int32} {a b : Int} (h : BA c) (g : N0 c) (a0 : 0 ≤ a) (a1 : a < 9) (b0 : 0 ≤ b) (b1 : b < 9) (hp : 0 < fr c (9 * a + b)) (hn : ∀ j : Int, 0 ≤ j → j < 81 → j / 9 = b → fr c j ≤ 0) : False := by
  have h1 := (colS_ge (a := a) g b0 b1 a0 9 (by decide) (by omega)).1
  have h2 := rowS_le hn b0 b1 9 (by decide)
  have h3 := h b b0 b1
  omega
theorem sumT_le {c : List Int32} (h : ∀ j : Int, 0 ≤ j → j < 81 → fr c j ≤ 0) : ∀ n : Nat, n ≤ 81 → sumT c n ≤ 0 := by
  intro n
  induction n with
  | zero => intro _; exact Int.le_refl 0
  | succ n ih =>
    intro hn
    have h1 := ih (by omega)
    have h2 := h (n : Int) (by omega) (by omega)
    show sumT c n + fr c (n : Int) ≤ 0
    omega
theorem sumT_nn {c : List Int32} (h : N0 c) : ∀ n : Nat, n ≤ 81 → 0 ≤ sumT c n ∧ sumT c n ≤ 20000 * n := by
  intro n
  induction n with
  | zero => intro _; exact ⟨Int.le_refl 0, Int.le_refl 0⟩
  | succ n ih =>
    intro hn
    have h1 := ih (by omega)
    have h2 := h (n : Int) (by omega) (by omega)
    show 0 ≤ sumT c n + fr c (n : Int) ∧ sumT c n + fr c (n : Int) ≤ _
    omega
/-- balanced within the village: balanced -/
theorem BA_of {c : List Int32} {p B : Int} (h : DF c p B) (p0 : 0 ≤ p) (p1 : p ≤ 9) (hb : ∀ q : Int, 0 ≤ q → q < p → rowS c q p.toNat = colS c q p.toNat) : BA c := by
  have hr : ∀ q : Int, 0 ≤ q → q < 9 → ∀ n : Nat, p.toNat ≤ n → n ≤ 9 → rowS c q n = rowS c q p.toNat := by
    intro q q0 q1 n
    induction n with
    | zero => intro hn _; rw [show p.toNat = 0 by omega]
    | succ n ih =>
      intro hn h9
      by_cases e : p.toNat = n + 1
      · rw [e]
      · have h1 := ih (by omega) (by omega)
        have h2 := (h (9 * q + (n : Int)) (by omega) (by omega)).2.2 (by omega)
        show rowS c q n + fr c (9 * q + (n : Int)) = _
        omega
  have hc : ∀ q : Int, 0 ≤ q → q < 9 → ∀ n : Nat, p.toNat ≤ n → n ≤ 9 → colS c q n = colS c q p.toNat := by
    intro q q0 q1 n
    induction n with
    | zero => intro hn _; rw [show p.toNat = 0 by omega]
    | succ n ih =>
      intro hn h9
      by_cases e : p.toNat = n + 1
      · rw [e]
      · have h1 := ih (by omega) (by omega)
        have h2 := (h (9 * (n : Int) + q) (by omega) (by omega)).2.2 (by omega)
        show colS c q n + fr c (9 * (n : Int) + q) = _
        omega
  have zr : ∀ q : Int, p ≤ q → q < 9 → ∀ n : Nat, n ≤ 9 → rowS c q n = 0 ∧ colS c q n = 0 := by
    intro q q0 q1 n
    induction n with
    | zero => intro _; exact ⟨rfl, rfl⟩
    | succ n ih =>
      intro hn
      have h1 := ih (by omega)
      have h2 := (h (9 * q + (n : Int)) (by omega) (by omega)).2.2 (by omega)
      have h3 := (h (9 * (n : Int) + q) (by omega) (by omega)).2.2 (by omega)
      show rowS c q n + fr c (9 * q + (n : Int)) = 0 ∧ colS c q n + fr c (9 * (n : Int) + q) = 0
      omega
  intro q q0 q1
  by_cases e : q < p
  · rw [hr q q0 q1 9 (by omega) (by omega), hc q q0 q1 9 (by omega) (by omega)]
    exact hb q q0 e
  · have z := zr q (by omega) q1 9 (by omega)
    rw [z.1, z.2]
def FO (c : List Int32) (x k : Int) : Prop := ∀ j : Int, 0 ≤ j → j < k → (x < 0 ∨ j / 9 = x) → fr c j ≤ 0
def FR (c : List Int32) (x r : Int) : Prop := (x < 0 → ∃ j : Int, 0 ≤ j ∧ j < 81 ∧ j / 9 = r ∧ 0 < fr c j) ∧ (0 ≤ x → 0 < fr c (9 * x + r))
theorem FO_step {c : List Int32} {x k : Int} (h : FO c x k) (hk : (x < 0 ∨ k / 9 = x) → fr c k ≤ 0) : FO c x (k + 1) := by
  intro j j0 j1 hj
  by_cases e : j = k
  · rw [e] at hj ⊢
    exact hk hj
  · exact h j j0 (by omega) hj
/-- the way through debts: met one by one -/
def WY (w o c : List Int32) (n p : Int) : Prop := (∀ k : Int, 0 ≤ k → k < n → 0 ≤ fr w k ∧ fr w k ≤ 8 ∧ fr o (fr w k) = k) ∧ (∀ q : Int, 0 ≤ q → q < 9 → fr o q = -1 ∨ (0 ≤ fr o q ∧ fr o q < n ∧ fr w (fr o q) = q)) ∧ (∀ k : Int, 0 ≤ k → k + 1 < n → 0 < fr c (9 * fr w k + fr w (k + 1))) ∧ (0 < n → 0 < fr c (9 * fr w (n - 1) + p)) ∧ ((cnn o : Nat) : Int) = n
def CY (w c : List Int32) (s n : Int) : Prop := (∀ k : Int, s ≤ k → k ≤ n → 0 ≤ fr w k ∧ fr w k ≤ 8) ∧ (∀ k : Int, s ≤ k → k < n → 0 < fr c (9 * fr w k + fr w (k + 1))) ∧ fr w n = fr w s ∧ (∀ i j : Int, s ≤ i → i < j → j < n → fr w i ≠ fr w j) ∧ 0 ≤ s ∧ s < n ∧ n ≤ 9
theorem WY_step {w o c : List Int32} {n p q : Int} {x y : Int32} (h : WY w o c n p) (lw : w.length = 10) (lo : o.length = 9) (n0 : 0 ≤ n) (p0 : 0 ≤ p) (p1 : p ≤ 8) (ho : fr o p < 0) (q0 : 0 < fr c (9 * p + q)) (hx : x.toInt = n) (hy : y.toInt = p) : WY (w.set n.toNat y) (o.set p.toNat x) c (n + 1) q ∧ n ≤ 8 := by
  obtain ⟨h1, h2, h3, h4, h5⟩ := h
  have hcn := cnn_set0 (xs := o) (i := p) (v := x) p0 (by omega) ho (by omega)
  have hle := cnn_le (o.set p.toNat x)
  rw [List.length_set, lo] at hle
  have n8 : n ≤ 8 := by omega
  refine ⟨⟨fun k k0 k1 => ?_, fun t t0 t1 => ?_, fun k k0 k1 => ?_, fun _ => ?_, ?_⟩, n8⟩
  · by_cases e : n = k
    · rw [← e, fr_eq n0 (by omega), hy, fr_eq p0 (by omega), hx]
      omega
    · have g := h1 k k0 (by omega)
      rw [fr_ne n0 k0 e, fr_ne p0 g.1 (by intro e2; rw [← e2] at g; omega)]
      exact g
  · by_cases e : p = t
    · rw [← e, fr_eq p0 (by omega), hx, fr_eq n0 (by omega), hy]
      right
      omega
    · rw [fr_ne p0 t0 e]
      rcases h2 t t0 t1 with g | g
      · exact Or.inl g
      · right
        rw [fr_ne n0 g.1 (by omega)]
        omega
  · by_cases e : n = k + 1
    · rw [fr_ne n0 k0 (by omega), ← e, fr_eq n0 (by omega), hy]
      have g := h4 (by omega)
      rw [show n - 1 = k by omega] at g
      exact g
    · rw [fr_ne n0 k0 (by omega), fr_ne n0 (by omega) e]
      exact h3 k k0 (by omega)
  · rw [show n + 1 - 1 = n by omega, fr_eq n0 (by omega), hy]
    exact q0
  · rw [hcn]
    omega
theorem CY_of {w o c : List Int32} {n p : Int} {y : Int32} (h : WY w o c n p) (lw : w.length = 10) (lo : o.length = 9) (n0 : 0 ≤ n) (p0 : 0 ≤ p) (p1 : p ≤ 8) (ho : 0 ≤ fr o p) (hy : y.toInt = p) : CY (w.set n.toNat y) c (fr o p) n := by
  obtain ⟨h1, h2, h3, h4, h5⟩ := h
  have hle := cnn_le o
  rw [lo] at hle
  have n9 : n ≤ 9 := by omega
  have g : 0 ≤ fr o p ∧ fr o p < n ∧ fr w (fr o p) = p := by
    rcases h2 p p0 (by omega) with g | g
    · omega
    · exact g
  refine ⟨fun k k0 k1 => ?_, fun k k0 k1 => ?_, ?_, fun i j i0 i1 j1 => ?_, ho, g.2.1, n9⟩
  · by_cases e : n = k
    · rw [← e, fr_eq n0 (by omega), hy]
      omega
    · have q := h1 k (by omega) (by omega)
      rw [fr_ne n0 (by omega) e]
      omega
  · by_cases e : n = k + 1
    · rw [fr_ne n0 (by omega) (by omega), ← e, fr_eq n0 (by omega), hy]
      have q := h4 (by omega)
      rw [show n - 1 = k by omega] at q
      exact q
    · rw [fr_ne n0 (by omega) (by omega), fr_ne n0 (by omega) e]
      exact h3 k (by omega) (by omega)
  · rw [fr_eq n0 (by omega), hy, fr_ne n0 ho (by omega)]
    exact g.2.2.symm
  · rw [fr_ne n0 (by omega) (by omega), fr_ne n0 (by omega) (by omega)]
    intro e
    have a := (h1 i (by omega) (by omega)).2.2
    have b := (h1 j (by omega) (by omega)).2.2
    rw [e] at a
    omega
/-- behind some steps of taking l away along the ring -/
def SB (c' c w : List Int32) (s n k l : Int) : Prop := (∀ j : Int, k ≤ j → j < n → fr c' (9 * fr w j + fr w (j + 1)) = fr c (9 * fr w j + fr w (j + 1))) ∧ N0 c' ∧ (∀ q : Int, 0 ≤ q → q < 9 → rowS c' q 9 - colS c' q 9 = (if q = fr w k then l else 0) - (if q = fr w s then l else 0)) ∧ sumT c' 81 ≤ sumT c 81 ∧ (s < k → sumT c' 81 < sumT c 81)
theorem SB_zero {c w : List Int32} {s n l : Int} (g : N0 c) (b : BA c) : SB c c w s n s l := by
  refine ⟨fun _ _ _ => rfl, g, fun q q0 q1 => ?_, Int.le_refl _, fun h => absurd h (by omega)⟩
  have h := b q q0 q1
  omega
theorem SB_step {c' c w : List Int32} {s n k l : Int} {v : Int32} (h : SB c' c w s n k l) (y : CY w c s n) (lc : c'.length = 81) (k0 : s ≤ k) (k1 : k < n) (l1 : 1 ≤ l) (hl : l ≤ fr c (9 * fr w k + fr w (k + 1))) (hv : v.toInt = fr c' (9 * fr w k + fr w (k + 1)) - l) : SB (c'.set (9 * fr w k + fr w (k + 1)).toNat v) c w s n (k + 1) l := by
  obtain ⟨h1, h2, h3, h4, h5⟩ := h
  obtain ⟨y1, y2, y3, y4, y5, y6, y7⟩ := y
  have a := y1 k k0 (by omega)
  have b := y1 (k + 1) (by omega) (by omega)
  have e0 := h1 k (Int.le_refl k) k1
  have hs : sumT (c'.set (9 * fr w k + fr w (k + 1)).toNat v) 81 = sumT c' 81 - l := by
    rw [sumT_set (by omega) (by omega), if_pos (by omega), hv]
    omega
  refine ⟨fun j j0 j1 => ?_, fun j j0 j1 => ?_, fun q q0 q1 => ?_, ?_, fun _ => ?_⟩
  · have aj := y1 j (by omega) (by omega)
    have bj := y1 (j + 1) (by omega) (by omega)
    have ne := y4 k j k0 (by omega) j1
    rw [fr_ne (by omega) (by omega) (by omega)]
    exact h1 j (by omega) j1
  · have g := h2 j j0 j1
    by_cases e : 9 * fr w k + fr w (k + 1) = j
    · rw [← e, fr_eq (by omega) (by omega), hv]
      rw [← e] at g
      omega
    · rw [fr_ne (by omega) j0 e]
      exact g
  · have g := h3 q q0 q1
    rw [rowS_set lc a.1 (by omega) b.1 (by omega) q0 q1 9 (by omega), colS_set lc a.1 (by omega) b.1 (by omega) q0 q1 9 (by omega), hv]
    by_cases e1 : q = fr w k
    · rw [if_pos e1] at g
      rw [if_pos (by omega)]
      by_cases e2 : q = fr w (k + 1)
      · rw [if_pos (by omega), if_pos e2]
        omega
      · rw [if_neg (by omega), if_neg e2]
        omega
    · rw [if_neg e1] at g
      rw [if_neg (by omega)]
      by_cases e2 : q = fr w (k + 1)
      · rw [if_pos (by omega), if_pos e2]
        omega
      · rw [if_neg (by omega), if_neg e2]
        omega
  · rw [hs]
    omega
  · rw [hs]
    omega
theorem SB_end {c' c w : List Int32} {s n k l : Int} (h : SB c' c w s n k l) (y : CY w c s n) (hk : k = n) : N0 c' ∧ BA c' ∧ sumT c' 81 < sumT c 81 := by
  subst hk
  refine ⟨h.2.1, fun q q0 q1 => ?_, h.2.2.2.2 y.2.2.2.2.2.1⟩
  have g := h.2.2.1 q q0 q1
  rw [y.2.2.1] at g
  omega
theorem cnn_none {xs : List Int32} (h : ∀ j : Nat, j < xs.length → (xs.getD j 0).toInt < 0) : cnn xs = 0 := by
  induction xs with
  | nil => rfl
  | cons x xs ih =>
    have h0 : x.toInt < 0 := h 0 (by rw [List.length_cons]; omega)
    have h1 := ih (fun j hj => h (j + 1) (by rw [List.length_cons]; omega))
    unfold cnn
    rw [if_neg (by omega), h1]
theorem WY_zero {w o c : List Int32} {n p : Int} (hn : n = 0) (lo : o.length = 9) (h : ∀ j : Int, 0 ≤ j → j < 9 → (-1) ≤ (o.getD j.toNat 0).toInt ∧ (o.getD j.toNat 0).toInt ≤ (-1)) : WY w o c n p := by
  subst hn
  refine ⟨fun k k0 k1 => absurd k1 (by omega), fun q q0 q1 => ?_, fun k k0 k1 => absurd k1 (by omega), fun h => absurd h (by omega), ?_⟩
  · have g := h q q0 q1
    left
    unfold fr
    omega
  · rw [cnn_none (fun j hj => ?_)]
    · rfl
    · have g := h (j : Int) (by omega) (by omega)
      rw [show (j : Int).toNat = j by omega] at g
      omega
theorem owes_ex {c : List Int32} {a b : Int} (h : BA c) (g : N0 c) (a0 : 0 ≤ a) (a1 : a < 9) (b0 : 0 ≤ b) (b1 : b < 9) (hp : 0 < fr c (9 * a + b)) : ∃ j : Int, 0 ≤ j ∧ j < 81 ∧ j / 9 = b ∧ 0 < fr c j := by
  refine Classical.byContradiction (fun hn => owes_too h g a0 a1 b0 b1 hp (fun j j0 j1 j2 => ?_))
  refine Classical.byContradiction (fun hj => hn ⟨j, j0, j1, j2, by omega⟩)
def LQ (c w : List Int32) (s k l : Int) : Prop := ∀ j : Int, s ≤ j → j < k → l ≤ fr c (9 * fr w j + fr w (j + 1))
theorem LQ_step {c w : List Int32} {s k l l' : Int} (h : LQ c w s k l) (hl : l' ≤ l) (hk : l' ≤ fr c (9 * fr w k + fr w (k + 1))) : LQ c w s (k + 1) l' := by
  intro j j0 j1
  by_cases e : j = k
  · rw [e]
    exact hk
  · have q := h j j0 (by omega)
    omega
