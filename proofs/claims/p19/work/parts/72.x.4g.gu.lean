section
/-! ===== what is told, asked: fault, village, word, want, act, count ===== -/
section GU
variable {X : pm_X} {k k2 : Nat} {w0 w w1 w2 w' : pm_W} {r r2 : Option Value} {p p1 p2 p3 p4 p5 f0 p0 f q x : Int32} {n i v j m s T L u V : Nat} {a : Nat → Int32}
/-- the ranges of what is told now -/
def MTn (w : pm_W) : Prop := ∀ i, i < 1690 → MT i (al w i).toInt
theorem isI_m (h0 : 0 ≤ x.toInt) (h1 : x.toInt ≤ 2000) : isI p 0 (x - 1) = decide (0 ≤ p.toInt ∧ p.toInt < x.toInt) := by
  unfold isI
  rw [z32, show (x - 1).toInt = x.toInt - 1 from zi_sub rfl o32 (by omega) (by omega)]
  by_cases c : 0 ≤ p.toInt ∧ p.toInt < x.toInt
  · rw [decide_eq_true c, decide_eq_true c.1, decide_eq_true (by omega)]; rfl
  · rw [decide_eq_false c]
    by_cases c1 : 0 ≤ p.toInt
    · rw [decide_eq_false (by omega : ¬ p.toInt ≤ x.toInt - 1), Bool.and_false]
    · rw [decide_eq_false c1]; rfl
theorem F60 (hS : SK w) (hV : (gI w 1 2).toInt = V) (hV2 : V ≤ 2) (h : PS X k 60 0 [.ref 1, .int p1] [] w r w') : w' = w ∧ ((r = some .null ∧ ¬ (0 ≤ p1.toInt ∧ p1.toInt < V)) ∨ (∃ u : Nat, p1.toInt = u ∧ u < V ∧ r = some (.ref (5 + 5 * u)))) := by
  cases k with
  | zero => exact (PS_0 h).elim
  | succ k =>
    have h := U60_0 hS h
    by_cases c : p1 < 0
    · rw [if_pos c] at h
      rw [Int32.lt_iff_toInt_lt, z32] at c
      exact ⟨h.2, Or.inl ⟨h.1, by omega⟩⟩
    · rw [if_neg c] at h
      rw [Int32.lt_iff_toInt_lt, z32] at c
      by_cases c2 : gI w 1 2 ≤ p1
      · rw [if_pos c2] at h
        rw [Int32.le_iff_toInt_le, hV] at c2
        exact ⟨h.2, Or.inl ⟨h.1, by omega⟩⟩
      · rw [if_neg c2] at h
        rw [Int32.le_iff_toInt_le, hV] at c2
        obtain ⟨_, h1, h2⟩ := h
        obtain ⟨u, hu⟩ : ∃ u : Nat, p1.toInt = u := ⟨p1.toInt.toNat, by omega⟩
        refine ⟨h2, Or.inr ⟨u, hu, by omega, ?_⟩⟩
        rw [h1]
        obtain ⟨e1, _, e3, _⟩ := q2e hS
        unfold qG
        rw [e1, e3, i_nat hu]
        have cu : u = 0 ∨ u = 1 := by omega
        rcases cu with rfl | rfl <;> rfl
theorem F67 (hS : SK w) (hV : (gI w 1 3).toInt = V) (hV2 : V ≤ 3) (h : PS X k 67 0 [.ref 1, .int p1] [] w r w') : w' = w ∧ ((r = some .null ∧ ¬ (0 ≤ p1.toInt ∧ p1.toInt < V)) ∨ (∃ u : Nat, p1.toInt = u ∧ u < V ∧ r = some (.ref (15 + 2 * u)))) := by
  cases k with
  | zero => exact (PS_0 h).elim
  | succ k =>
    have h := U67_0 hS h
    by_cases c : p1 < 0
    · rw [if_pos c] at h
      rw [Int32.lt_iff_toInt_lt, z32] at c
      exact ⟨h.2, Or.inl ⟨h.1, by omega⟩⟩
    · rw [if_neg c] at h
      rw [Int32.lt_iff_toInt_lt, z32] at c
      by_cases c2 : gI w 1 3 ≤ p1
      · rw [if_pos c2] at h
        rw [Int32.le_iff_toInt_le, hV] at c2
        exact ⟨h.2, Or.inl ⟨h.1, by omega⟩⟩
      · rw [if_neg c2] at h
        rw [Int32.le_iff_toInt_le, hV] at c2
        obtain ⟨_, h1, h2⟩ := h
        obtain ⟨u, hu⟩ : ∃ u : Nat, p1.toInt = u := ⟨p1.toInt.toNat, by omega⟩
        refine ⟨h2, Or.inr ⟨u, hu, by omega, ?_⟩⟩
        rw [h1]
        obtain ⟨_, e2, _, e4⟩ := q2e hS
        unfold qG
        rw [e2, e4, i_nat hu]
        have cu : u = 0 ∨ u = 1 ∨ u = 2 := by omega
        rcases cu with rfl | rfl | rfl <;> rfl
theorem F61 {P : Nat} (hS : SK w) (hP : (gI w v 0).toInt = P) (h : PS X k 61 0 [.ref v, .int p1] [] w r w') : r = some (.int (b2i (decide (0 ≤ p1.toInt ∧ p1.toInt < P)))) ∧ w' = w := by
  cases k with
  | zero => exact (PS_0 h).elim
  | succ k =>
    have h := U61_0 hS h
    by_cases c : p1 < 0
    · rw [if_pos c] at h
      rw [Int32.lt_iff_toInt_lt, z32] at c
      rw [decide_eq_false (by omega)]
      exact h
    · rw [if_neg c] at h
      rw [Int32.lt_iff_toInt_lt, z32] at c
      by_cases c2 : gI w v 0 ≤ p1
      · rw [if_pos c2] at h
        rw [Int32.le_iff_toInt_le, hP] at c2
        rw [decide_eq_false (by omega)]
        exact h
      · rw [if_neg c2] at h
        rw [Int32.le_iff_toInt_le, hP] at c2
        rw [decide_eq_true (by omega)]
        exact h
theorem F64 {P : Nat} (hS : SK w) (hP : (gI w v 2).toInt = P) (h : PS X k 64 0 [.ref v, .int p1] [] w r w') : r = some (.int (b2i (decide (0 ≤ p1.toInt ∧ p1.toInt < P)))) ∧ w' = w := by
  cases k with
  | zero => exact (PS_0 h).elim
  | succ k =>
    have h := U64_0 hS h
    by_cases c : p1 < 0
    · rw [if_pos c] at h
      rw [Int32.lt_iff_toInt_lt, z32] at c
      rw [decide_eq_false (by omega)]
      exact h
    · rw [if_neg c] at h
      rw [Int32.lt_iff_toInt_lt, z32] at c
      by_cases c2 : gI w v 2 ≤ p1
      · rw [if_pos c2] at h
        rw [Int32.le_iff_toInt_le, hP] at c2
        rw [decide_eq_false (by omega)]
        exact h
      · rw [if_neg c2] at h
        rw [Int32.le_iff_toInt_le, hP] at c2
        rw [decide_eq_true (by omega)]
        exact h
theorem F200n {L : Nat} (hS : SK w) (hp : p1.toInt = m) (hL : (al w m).toInt = L) (hL2 : L ≤ 2000) (h : PS X k 200 0 [.ref 147, .int p1, .int p2] [] w r w') : r = some (.int (b2i (decide (0 ≤ p2.toInt ∧ p2.toInt < L)))) ∧ w' = w := by
  cases k with
  | zero => exact (PS_0 h).elim
  | succ k =>
    obtain ⟨_, h⟩ := U200_0 hS h
    rw [aG_n (m := m) hp] at h
    have z := use_p hS h (fun _ _ z => F199 hS z)
    have e : (gA w 148).getD m 0 = al w m := rfl
    rw [e, isI_m (by omega) (by omega), hL] at z
    exact z
theorem F221n {L : Nat} (hS : SK w) (hp : p1.toInt = m) (hL : (al w m).toInt = L) (hL2 : L ≤ 2000) (h : PS X k 221 0 [.ref 147, .int p1, .int p2] [] w r w') : r = some (.int (b2i (decide (0 ≤ p2.toInt ∧ p2.toInt < L)))) ∧ w' = w := by
  cases k with
  | zero => exact (PS_0 h).elim
  | succ k =>
    obtain ⟨_, h⟩ := U221_0 hS h
    rw [aG_n (m := m) hp] at h
    have z := use_p hS h (fun _ _ z => F199 hS z)
    have e : (gA w 148).getD m 0 = al w m := rfl
    rw [e, isI_m (by omega) (by omega), hL] at z
    exact z
theorem F223n {L : Nat} (hS : SK w) (hp : p1.toInt = m) (hm : m ≤ 2000) (hL : (al w (m + 1)).toInt = L) (hL2 : L ≤ 2000) (h : PS X k 223 0 [.ref 147, .int p1, .int p2] [] w r w') : r = some (.int (b2i (decide (0 ≤ p2.toInt ∧ p2.toInt < L)))) ∧ w' = w := by
  cases k with
  | zero => exact (PS_0 h).elim
  | succ k =>
    obtain ⟨_, h⟩ := U223_0 hS h
    rw [aG_n (m := m + 1) (by rw [zi_add hp o32 (by omega) (by omega)]; rfl)] at h
    have z := use_p hS h (fun _ _ z => F199 hS z)
    have e : (gA w 148).getD (m + 1) 0 = al w (m + 1) := rfl
    rw [e, isI_m (by omega) (by omega), hL] at z
    exact z
theorem F217v (hS : SK w) (hu : p2.toInt = u) (hu2 : u ≤ 1) (h : PS X k 217 0 [.int 0, .int p2] [] w r w') : r = some (.int (610 + 132 * p2)) ∧ w' = w := by
  cases k with
  | zero => exact (PS_0 h).elim
  | succ k =>
    have h := U217_0 hS h
    rw [if_pos rfl] at h
    exact h
theorem F217r (hS : SK w) (h : PS X k 217 0 [.int 1, .int p2] [] w r w') : r = some (.int (874 + 272 * p2)) ∧ w' = w := by
  cases k with
  | zero => exact (PS_0 h).elim
  | succ k =>
    have h := U217_0 hS h
    rw [if_neg (by decide +kernel)] at h
    exact h
theorem plV (hu : p2.toInt = u) (hu2 : u ≤ 1) : (610 + 132 * p2).toInt = (610 + 132 * u : Nat) := by
  rw [zi_add (show (610 : Int32).toInt = 610 from by decide +kernel) (zi_mul (show (132 : Int32).toInt = 132 from by decide +kernel) hu (by omega) (by omega)) (by omega) (by omega)]
  omega
theorem plR (hu : p2.toInt = u) (hu2 : u ≤ 2) : (874 + 272 * p2).toInt = (874 + 272 * u : Nat) := by
  rw [zi_add (show (874 : Int32).toInt = 874 from by decide +kernel) (zi_mul (show (272 : Int32).toInt = 272 from by decide +kernel) hu (by omega) (by omega)) (by omega) (by omega)]
  omega
theorem okV_n (h : u ≤ 1) : okV (5 + 5 * u) = true := by
  have c : u = 0 ∨ u = 1 := by omega
  rcases c with rfl | rfl <;> decide +kernel
theorem okR_n (h : u ≤ 2) : okR (15 + 2 * u) = true := by
  have c : u = 0 ∨ u = 1 ∨ u = 2 := by omega
  rcases c with rfl | rfl | rfl <;> decide +kernel
/-- a village's parts, as its cells -/
theorem VG (hS : SK w) (ok : okV v = true) : gI w v 0 = vcl w v 0 ∧ gI w v 2 = vcl w v 1 ∧ gI w v 1 = vcl w v 2 ∧ (∀ q, q < 81 → (gA w (v + 1)).getD q 0 = vcl w v (3 + q)) ∧ (∀ q, q < 9 → (gA w (v + 2)).getD q 0 = vcl w v (84 + q)) ∧ (∀ q, q < 9 → (gA w (v + 3)).getD q 0 = vcl w v (93 + q)) ∧ (∀ q, q < 28 → (gA w (v + 4)).getD q 0 = vcl w v (102 + q)) := by
  refine ⟨?_, ?_, ?_, fun q hq => ?_, fun q hq => ?_, fun q hq => ?_, fun q hq => ?_⟩
  · rw [vcl_ok hS ok, if_pos rfl]
  · rw [vcl_ok hS ok, if_neg (by decide), if_pos rfl]
  · rw [vcl_ok hS ok, if_neg (by decide), if_neg (by decide), if_pos rfl]
  · rw [vcl_ok hS ok, if_neg (by omega), if_neg (by omega), if_neg (by omega), if_pos (by omega), show 3 + q - 3 = q by omega]
  · rw [vcl_ok hS ok, if_neg (by omega), if_neg (by omega), if_neg (by omega), if_neg (by omega), if_pos (by omega), show 84 + q - 84 = q by omega]
  · rw [vcl_ok hS ok, if_neg (by omega), if_neg (by omega), if_neg (by omega), if_neg (by omega), if_neg (by omega), if_pos (by omega), show 93 + q - 93 = q by omega]
  · rw [vcl_ok hS ok, if_neg (by omega), if_neg (by omega), if_neg (by omega), if_neg (by omega), if_neg (by omega), if_neg (by omega), if_pos (by omega), show 102 + q - 102 = q by omega]
/-- a village told now: its parts are the reference's cells -/
theorem VT (hS : SK w) (hT : TE w 1 (al w)) (hu : u < (al w 0).toInt.toNat) : u ≤ 1 ∧ gI w (5 + 5 * u) 0 = al w (610 + 132 * u) ∧ gI w (5 + 5 * u) 2 = al w (611 + 132 * u) ∧ gI w (5 + 5 * u) 1 = al w (612 + 132 * u) ∧ (∀ q, q < 81 → (gA w (6 + 5 * u)).getD q 0 = al w (613 + 132 * u + q)) ∧ (∀ q, q < 9 → (gA w (7 + 5 * u)).getD q 0 = al w (694 + 132 * u + q)) ∧ (∀ q, q < 9 → (gA w (8 + 5 * u)).getD q 0 = al w (703 + 132 * u + q)) ∧ (∀ q, q < 28 → (gA w (9 + 5 * u)).getD q 0 = al w (712 + 132 * u + q)) := by
  obtain ⟨⟨r1, r2, _⟩, t1, t2, t3, t4, t5, t6, t7, t8⟩ := hT
  have h1 : u ≤ 1 := by omega
  obtain ⟨g0, g1, g2, g3, g4, g5, g6⟩ := VG hS (okV_n h1)
  have t : ∀ k, k < 130 → vcl w (5 + 5 * u) k = al w (610 + 132 * u + k) := fun k hk => t7 u hu k hk
  refine ⟨h1, ?_, ?_, ?_, fun q hq => ?_, fun q hq => ?_, fun q hq => ?_, fun q hq => ?_⟩
  · rw [g0, t 0 (by decide)]; rfl
  · rw [g1, t 1 (by decide), show 610 + 132 * u + 1 = 611 + 132 * u by omega]
  · rw [g2, t 2 (by decide), show 610 + 132 * u + 2 = 612 + 132 * u by omega]
  · rw [show 6 + 5 * u = 5 + 5 * u + 1 by omega, g3 q hq, t _ (by omega), show 610 + 132 * u + (3 + q) = 613 + 132 * u + q by omega]
  · rw [show 7 + 5 * u = 5 + 5 * u + 2 by omega, g4 q hq, t _ (by omega), show 610 + 132 * u + (84 + q) = 694 + 132 * u + q by omega]
  · rw [show 8 + 5 * u = 5 + 5 * u + 3 by omega, g5 q hq, t _ (by omega), show 610 + 132 * u + (93 + q) = 703 + 132 * u + q by omega]
  · rw [show 9 + 5 * u = 5 + 5 * u + 4 by omega, g6 q hq, t _ (by omega), show 610 + 132 * u + (102 + q) = 712 + 132 * u + q by omega]
theorem VR (hS : SK w) (hu : u ≤ 1) : gR w (5 + 5 * u) 3 = 6 + 5 * u ∧ gR w (5 + 5 * u) 4 = 7 + 5 * u ∧ gR w (5 + 5 * u) 5 = 8 + 5 * u ∧ gR w (5 + 5 * u) 6 = 9 + 5 * u := by
  obtain ⟨h1, h2, h3, h4, _⟩ := okV_r hS (okV_n hu)
  exact ⟨by rw [h1]; omega, by rw [h2]; omega, by rw [h3]; omega, by rw [h4]; omega⟩
theorem isI_t {lo hi : Int32} {l hh : Int} (hl : lo.toInt = l) (h : hi.toInt = hh) : b2i (isI p lo hi) = b2i (decide (l ≤ p.toInt ∧ p.toInt ≤ hh)) := by
  unfold isI
  rw [hl, h]
  by_cases c : l ≤ p.toInt ∧ p.toInt ≤ hh
  · rw [decide_eq_true c, decide_eq_true c.1, decide_eq_true c.2]; rfl
  · rw [decide_eq_false c]
    by_cases c1 : l ≤ p.toInt
    · rw [decide_eq_false (fun y => c ⟨c1, y⟩), Bool.and_false]
    · rw [decide_eq_false c1]; rfl
theorem ifb_t {A B : Prop} {P : Prop} [Decidable P] (hP : P) (h : if b2i (decide P) = 0 then A else B) : B := by
  rw [decide_eq_true hP, if_neg (by decide +kernel)] at h
  exact h
theorem ifb_f {A B : Prop} {P : Prop} [Decidable P] (hP : ¬ P) (h : if b2i (decide P) = 0 then A else B) : A := by
  rw [decide_eq_false hP, if_pos (by decide +kernel)] at h
  exact h
theorem F65 (hS : SK w) (hv : gR w v 6 = m) (h : PS X k 65 0 [.ref v, .int p1, .int p2] [] w r w') : r = some (.int (aG w m (p1 * 4 + p2))) ∧ w' = w := by
  cases k with
  | zero => exact (PS_0 h).elim
  | succ k =>
    have h := U65_0 hS h
    rw [hv] at h
    exact h.2
theorem F224 (hS : SK w) (h : PS X k 224 0 [.ref 147, .int p1, .int p2, .int p3] [] w r w') : r = some (.int (aG w 148 (((p1 + 102) + (4 * p2)) + p3))) ∧ w' = w := by
  cases k with
  | zero => exact (PS_0 h).elim
  | succ k => exact (U224_0 hS h).2
theorem F68 (hS : SK w) (hv : gR w v 1 = m) (h : PS X k 68 0 [.ref v, .int p1, .int p2] [] w r w') : r = some (.int (aG w m (p1 * 9 + p2))) ∧ w' = w := by
  cases k with
  | zero => exact (PS_0 h).elim
  | succ k =>
    have h := U68_0 hS h
    rw [hv] at h
    exact h.2
end GU
end
section
/-! ===== what is told is valid ===== -/
section GVL
variable {X : pm_X} {k k2 : Nat} {w0 w w1 w2 w' : pm_W} {r r2 : Option Value} {p p1 p2 p3 f0 p0 f q x : Int32} {bs : Nat → Int32} {n i v j m s T L u V : Nat} {b : Bool} {c : Nat → Int32} {g : Int} {a : Nat → Int32}
/-- a village's cells are valid; those who want are g at most -/
def VLv (c : Nat → Int32) (g : Int) : Prop := (2 ≤ (c 0).toInt ∧ (c 0).toInt ≤ 9) ∧ (0 ≤ (c 1).toInt ∧ (c 1).toInt ≤ 7) ∧ (0 ≤ (c 2).toInt ∧ (c 2).toInt ≤ 9) ∧ (∀ q, q < 81 → 0 ≤ (c (3 + q)).toInt ∧ (c (3 + q)).toInt ≤ 99) ∧ (∀ q, q < 9 → 0 ≤ (c (84 + q)).toInt ∧ (c (84 + q)).toInt ≤ 99) ∧ (∀ q, q < 9 → 0 ≤ (c (93 + q)).toInt ∧ (c (93 + q)).toInt ≤ 100) ∧ (∀ k, k < (c 1).toInt.toNat → 0 ≤ (c (102 + 4 * k)).toInt ∧ (c (102 + 4 * k)).toInt ≤ g ∧ 0 ≤ (c (103 + 4 * k)).toInt ∧ (c (103 + 4 * k)).toInt ≤ g ∧ (c (102 + 4 * k)).toInt ≠ (c (103 + 4 * k)).toInt ∧ 1 ≤ (c (104 + 4 * k)).toInt ∧ (c (104 + 4 * k)).toInt ≤ 99 ∧ 0 ≤ (c (105 + 4 * k)).toInt ∧ (c (105 + 4 * k)).toInt ≤ 99)
/-- an act's cells are valid -/
def VAc (y : Nat → Int32) : Prop := ((y 0 = 0 ∨ y 0 = 1) ∧ 0 ≤ (y 1).toInt ∧ (y 1).toInt ≤ 8 ∧ 0 ≤ (y 2).toInt ∧ (y 2).toInt ≤ 8 ∧ (y 1).toInt ≠ (y 2).toInt ∧ 1 ≤ (y 3).toInt ∧ (y 3).toInt ≤ 99) ∨ (y 0 = 2 ∧ 1 ≤ (y 1).toInt ∧ (y 1).toInt ≤ 99 ∧ 0 ≤ (y 2).toInt ∧ (y 2).toInt ≤ 99 ∧ ∃ m, 2 ≤ m ∧ m ≤ 6 ∧ (∀ t, t < m → 0 ≤ (y (3 + t)).toInt ∧ (y (3 + t)).toInt ≤ 8) ∧ (∀ t s, t < s → s < m → (y (3 + t)).toInt ≠ (y (3 + s)).toInt) ∧ ∀ t, m ≤ t → t < 6 → y (3 + t) = -1) ∨ (y 0 = 3 ∧ 0 ≤ (y 1).toInt ∧ (y 1).toInt ≤ 29) ∨ (y 0 = 4 ∧ 0 ≤ (y 1).toInt ∧ (y 1).toInt ≤ 8) ∨ y 0 = 5
def VLr (c : Nat → Int32) : Prop := ∀ i, i < (c 0).toInt.toNat → VAc (fun t => c (1 + 9 * i + t))
def VLD (b : Bool) (c : Nat → Int32) (g : Int) : Prop := if b = true then VLv c g else 0 ≤ (c 0).toInt ∧ (c 0).toInt ≤ 30 ∧ VLr c
theorem e8_i {t : Nat} (h : t < m) (h1 : -1000 ≤ nv bs n i t) (h2 : nv bs n i t ≤ 1000) : (e8 bs n i m t).toInt = nv bs n i t := by
  rw [e8_ns h]
  exact ns32_i (by omega) (by omega)
theorem lw_v : lwL 6 0 = 2 ∧ lwH 6 0 = 9 ∧ lwL 7 0 = 0 ∧ lwH 7 0 = 8 ∧ lwL 7 1 = 0 ∧ lwH 7 1 = 8 ∧ lwL 7 2 = 0 ∧ lwH 7 2 = 99 ∧ lwL 8 0 = 0 ∧ lwH 8 0 = 99 ∧ lwL 9 0 = 0 ∧ lwH 9 0 = 8 ∧ lwL 9 1 = 0 ∧ lwH 9 1 = 99 ∧ lwL 10 0 = 0 ∧ lwH 10 0 = 8 ∧ lwL 10 1 = 0 ∧ lwH 10 1 = 100 ∧ lwL 11 0 = 0 ∧ lwH 11 0 = 9 := by decide +kernel
theorem lw_w : lwL 12 0 = 0 ∧ lwH 12 0 = 8 ∧ lwL 12 1 = 0 ∧ lwH 12 1 = 8 ∧ lwL 12 2 = 1 ∧ lwH 12 2 = 99 ∧ lwL 12 3 = 0 ∧ lwH 12 3 = 99 := by decide +kernel
theorem lw_r : lwL 0 0 = 0 ∧ lwH 0 0 = 8 ∧ lwL 0 1 = 0 ∧ lwH 0 1 = 8 ∧ lwL 0 2 = 1 ∧ lwH 0 2 = 99 ∧ lwL 1 0 = 0 ∧ lwH 1 0 = 8 ∧ lwL 1 1 = 0 ∧ lwH 1 1 = 8 ∧ lwL 1 2 = 1 ∧ lwH 1 2 = 99 ∧ lwL 2 0 = 1 ∧ lwH 2 0 = 99 ∧ lwL 2 1 = 0 ∧ lwH 2 1 = 99 ∧ lwL 3 0 = 0 ∧ lwH 3 0 = 29 ∧ lwL 4 0 = 0 ∧ lwH 4 0 = 8 := by decide +kernel
/-- the number t of a sentence without a fault -/
theorem e8_rg (hz : (fJ bs n i v f0 p0 m).1 = 0) {t : Nat} (ht : t < m) {lo hi : Int} (hl : lwL v t = lo) (hh : lwH v t = hi) (h1 : -1000 ≤ lo) (h2 : hi ≤ 1000) : lo ≤ (e8 bs n i m t).toInt ∧ (e8 bs n i m t).toInt ≤ hi := by
  have r := fJ_rg hz ht
  rw [hl, hh] at r
  rw [e8_i ht (by omega) (by omega)]
  exact r
theorem e8_tw (hz : (fJ bs n i v f0 p0 m).1 = 0) (hm : 1 < m) (hv : v = 0 ∨ v = 1 ∨ v = 7 ∨ v = 12) : (e8 bs n i m 0).toInt ≠ (e8 bs n i m 1).toInt := by
  have nb := fJ_ok m hz 1 hm
  have r0 := fJ_rg hz (l := 0) (by omega)
  have r1 := fJ_rg hz (l := 1) hm
  have lw : lwL v 0 = 0 ∧ lwH v 0 = 8 ∧ lwL v 1 = 0 ∧ lwH v 1 = 8 := by rcases hv with rfl | rfl | rfl | rfl <;> decide +kernel
  rw [lw.1, lw.2.1] at r0
  rw [lw.2.2.1, lw.2.2.2] at r1
  rw [e8_i (by omega) (by omega) (by omega), e8_i hm (by omega) (by omega)]
  intro e
  exact nb (Or.inr (Or.inr (Or.inl ⟨hv, rfl, e.symm⟩)))
theorem VLv_cell {c' : Nat → Int32} (h : VLv c g) (h0 : 2 ≤ (c' 0).toInt ∧ (c' 0).toInt ≤ 9) (h1 : c' 1 = c 1) (h2 : 0 ≤ (c' 2).toInt ∧ (c' 2).toInt ≤ 9) (h3 : ∀ q, q < 81 → 0 ≤ (c' (3 + q)).toInt ∧ (c' (3 + q)).toInt ≤ 99) (h4 : ∀ q, q < 9 → 0 ≤ (c' (84 + q)).toInt ∧ (c' (84 + q)).toInt ≤ 99) (h5 : ∀ q, q < 9 → 0 ≤ (c' (93 + q)).toInt ∧ (c' (93 + q)).toInt ≤ 100) (h6 : ∀ q, 102 ≤ q → c' q = c q) {g' : Int} (hg : g ≤ g') : VLv c' g' := by
  obtain ⟨_, a1, _, _, _, _, a6⟩ := h
  refine ⟨h0, by rw [h1]; exact a1, h2, h3, h4, h5, fun k hk => ?_⟩
  rw [h1] at hk
  have z := a6 k hk
  rw [h6 _ (by omega), h6 _ (by omega), h6 _ (by omega), h6 _ (by omega)]
  omega
theorem VLv_step (h : VLv c g) (hv : vbT true bs n i = v) (ho : OK bs n i v m) (hz : (fD true bs n i f p c v m).1 = 0) : VLv (kS v c (e8 bs n i m)) (gS v g (e8 bs n i m)) := by
  obtain ⟨h6, h12⟩ := vbT_t hv
  have ht := (fD_0 hz).2
  have hz : (fJ bs n i v (ntF (tmC true c v) 3 f) (ntP (tmC true c v) (pl bs n i) f p) m).1 = 0 := hz
  have hm : m = dueN v := ho.2.1 (by omega)
  obtain ⟨l1, l2, l3, l4, l5, l6, l7, l8, l9, l10, l11, l12, l13, l14, l15, l16, l17, l18, l19, l20⟩ := lw_v
  obtain ⟨k1, k2, k3, k4, k5, k6, k7, k8⟩ := lw_w
  obtain ⟨e, he⟩ : ∃ e, e = e8 bs n i m := ⟨_, rfl⟩
  have hh := h
  obtain ⟨a0, a1, a2, a3, a4, a5, a6⟩ := h
  have cv : v = 6 ∨ v = 7 ∨ v = 8 ∨ v = 9 ∨ v = 10 ∨ v = 11 ∨ v = 12 := by omega
  rcases cv with rfl | rfl | rfl | rfl | rfl | rfl | rfl
  · have hm : m = 1 := hm.trans (by decide +kernel)
    have r0 := e8_rg hz (t := 0) (by omega) l1 l2 (by decide) (by decide)
    rw [← he] at r0 ⊢
    have hc : ∀ j, kS 6 c e j = if j = 0 then e 0 else c j := fun j => rfl
    refine VLv_cell hh (by rw [hc, if_pos rfl]; exact r0) (by rw [hc, if_neg (by omega)]) (by rw [hc, if_neg (by omega)]; exact a2) (fun q hq => by rw [hc, if_neg (by omega)]; exact a3 q hq) (fun q hq => by rw [hc, if_neg (by omega)]; exact a4 q hq) (fun q hq => by rw [hc, if_neg (by omega)]; exact a5 q hq) (fun q hq => by rw [hc, if_neg (by omega)]) (Int.le_refl g)
  · have hm : m = 3 := hm.trans (by decide +kernel)
    have r0 := e8_rg hz (t := 0) (by omega) l3 l4 (by decide) (by decide)
    have r1 := e8_rg hz (t := 1) (by omega) l5 l6 (by decide) (by decide)
    have r2 := e8_rg hz (t := 2) (by omega) l7 l8 (by decide) (by decide)
    rw [← he] at r0 r1 r2 ⊢
    have hc : ∀ j, kS 7 c e j = if j = 3 + (9 * (e 0).toInt.toNat + (e 1).toInt.toNat) then e 2 else c j := fun j => rfl
    refine VLv_cell hh (by rw [hc, if_neg (by omega)]; exact a0) (by rw [hc, if_neg (by omega)]) (by rw [hc, if_neg (by omega)]; exact a2) (fun q hq => ?_) (fun q hq => by rw [hc, if_neg (by omega)]; exact a4 q hq) (fun q hq => by rw [hc, if_neg (by omega)]; exact a5 q hq) (fun q hq => by rw [hc, if_neg (by omega)]) (by show g ≤ max g (max (e 0).toInt (e 1).toInt); omega)
    rw [hc]
    by_cases y : 3 + q = 3 + (9 * (e 0).toInt.toNat + (e 1).toInt.toNat)
    · rw [if_pos y]; exact r2
    · rw [if_neg y]; exact a3 q hq
  · have hm : m = 1 := hm.trans (by decide +kernel)
    have r0 := e8_rg hz (t := 0) (by omega) l9 l10 (by decide) (by decide)
    rw [← he] at r0 ⊢
    have hc : ∀ j, kS 8 c e j = if 3 ≤ j ∧ j < 84 then (if (j - 3) % 10 = 0 then 0 else e 0) else c j := fun j => rfl
    refine VLv_cell hh (by rw [hc, if_neg (by omega)]; exact a0) (by rw [hc, if_neg (by omega)]) (by rw [hc, if_neg (by omega)]; exact a2) (fun q hq => ?_) (fun q hq => by rw [hc, if_neg (by omega)]; exact a4 q hq) (fun q hq => by rw [hc, if_neg (by omega)]; exact a5 q hq) (fun q hq => by rw [hc, if_neg (by omega)]) (Int.le_refl g)
    rw [hc, if_pos (by omega)]
    by_cases y : (3 + q - 3) % 10 = 0
    · rw [if_pos y]; decide
    · rw [if_neg y]; exact r0
  · have hm : m = 2 := hm.trans (by decide +kernel)
    have r0 := e8_rg hz (t := 0) (by omega) l11 l12 (by decide) (by decide)
    have r1 := e8_rg hz (t := 1) (by omega) l13 l14 (by decide) (by decide)
    rw [← he] at r0 r1 ⊢
    have hc : ∀ j, kS 9 c e j = if j = 84 + (e 0).toInt.toNat then e 1 else c j := fun j => rfl
    refine VLv_cell hh (by rw [hc, if_neg (by omega)]; exact a0) (by rw [hc, if_neg (by omega)]) (by rw [hc, if_neg (by omega)]; exact a2) (fun q hq => by rw [hc, if_neg (by omega)]; exact a3 q hq) (fun q hq => ?_) (fun q hq => by rw [hc, if_neg (by omega)]; exact a5 q hq) (fun q hq => by rw [hc, if_neg (by omega)]) (by show g ≤ max g (e 0).toInt; omega)
    rw [hc]
    by_cases y : 84 + q = 84 + (e 0).toInt.toNat
    · rw [if_pos y]; exact r1
    · rw [if_neg y]; exact a4 q hq
  · have hm : m = 2 := hm.trans (by decide +kernel)
    have r0 := e8_rg hz (t := 0) (by omega) l15 l16 (by decide) (by decide)
    have r1 := e8_rg hz (t := 1) (by omega) l17 l18 (by decide) (by decide)
    rw [← he] at r0 r1 ⊢
    have hc : ∀ j, kS 10 c e j = if j = 93 + (e 0).toInt.toNat then e 1 else c j := fun j => rfl
    refine VLv_cell hh (by rw [hc, if_neg (by omega)]; exact a0) (by rw [hc, if_neg (by omega)]) (by rw [hc, if_neg (by omega)]; exact a2) (fun q hq => by rw [hc, if_neg (by omega)]; exact a3 q hq) (fun q hq => by rw [hc, if_neg (by omega)]; exact a4 q hq) (fun q hq => ?_) (fun q hq => by rw [hc, if_neg (by omega)]) (by show g ≤ max g (e 0).toInt; omega)
    rw [hc]
    by_cases y : 93 + q = 93 + (e 0).toInt.toNat
    · rw [if_pos y]; exact r1
    · rw [if_neg y]; exact a5 q hq
  · have hm : m = 1 := hm.trans (by decide +kernel)
    have r0 := e8_rg hz (t := 0) (by omega) l19 l20 (by decide) (by decide)
    rw [← he] at r0 ⊢
    have hc : ∀ j, kS 11 c e j = if j = 2 then e 0 else c j := fun j => rfl
    refine VLv_cell hh (by rw [hc, if_neg (by omega)]; exact a0) (by rw [hc, if_neg (by omega)]) (by rw [hc, if_pos rfl]; exact r0) (fun q hq => by rw [hc, if_neg (by omega)]; exact a3 q hq) (fun q hq => by rw [hc, if_neg (by omega)]; exact a4 q hq) (fun q hq => by rw [hc, if_neg (by omega)]; exact a5 q hq) (fun q hq => by rw [hc, if_neg (by omega)]) (Int.le_refl g)
  · have hm : m = 4 := hm.trans (by decide +kernel)
    have r0 := e8_rg hz (t := 0) (by omega) k1 k2 (by decide) (by decide)
    have r1 := e8_rg hz (t := 1) (by omega) k3 k4 (by decide) (by decide)
    have r2 := e8_rg hz (t := 2) (by omega) k5 k6 (by decide) (by decide)
    have r3 := e8_rg hz (t := 3) (by omega) k7 k8 (by decide) (by decide)
    have tw := e8_tw hz (by omega) (Or.inr (Or.inr (Or.inr rfl)))
    rw [← he] at r0 r1 r2 r3 tw ⊢
    have ht : (if (12 : Nat) = 12 then decide (7 ≤ (c 1).toInt) else false) = false := ht
    rw [if_pos rfl] at ht
    have ht := of_decide_eq_false ht
    obtain ⟨W, hW⟩ : ∃ W, W = (c 1).toInt.toNat := ⟨_, rfl⟩
    have hc : ∀ j, kS 12 c e j = if j = 1 then c 1 + 1 else if 102 + 4 * W ≤ j ∧ j < 106 + 4 * W then e (j - (102 + 4 * W)) else c j := fun j => by rw [hW]; rfl
    have e1 : (c 1 + 1).toInt = (c 1).toInt + 1 := zi_add rfl o32 (by omega) (by omega)
    have eg : gS 12 g e = max g (max (e 0).toInt (e 1).toInt) := rfl
    rw [eg]
    refine ⟨by rw [hc, if_neg (by omega), if_neg (by omega)]; exact a0, by rw [hc, if_pos rfl, e1]; omega, by rw [hc, if_neg (by omega), if_neg (by omega)]; exact a2, fun q hq => by rw [hc, if_neg (by omega), if_neg (by omega)]; exact a3 q hq, fun q hq => by rw [hc, if_neg (by omega), if_neg (by omega)]; exact a4 q hq, fun q hq => by rw [hc, if_neg (by omega), if_neg (by omega)]; exact a5 q hq, fun k hk => ?_⟩
    rw [hc 1, if_pos rfl, e1] at hk
    by_cases y : k = W
    · subst y
      rw [hc, if_neg (by omega), if_pos (by omega), hc, if_neg (by omega), if_pos (by omega), hc, if_neg (by omega), if_pos (by omega), hc, if_neg (by omega), if_pos (by omega), show 102 + 4 * k - (102 + 4 * k) = 0 by omega, show 103 + 4 * k - (102 + 4 * k) = 1 by omega, show 104 + 4 * k - (102 + 4 * k) = 2 by omega, show 105 + 4 * k - (102 + 4 * k) = 3 by omega]
      omega
    · have z := a6 k (by omega)
      rw [hc, if_neg (by omega), if_neg (by omega), hc, if_neg (by omega), if_neg (by omega), hc, if_neg (by omega), if_neg (by omega), hc, if_neg (by omega), if_neg (by omega)]
      omega
theorem VLr_step (hr : 0 ≤ (c 0).toInt ∧ (c 0).toInt ≤ 30 ∧ VLr c) (hv : vbT false bs n i = v) (ho : OK bs n i v m) (hz : (fD false bs n i f p c v m).1 = 0) : 0 ≤ (rowR c (Int32.ofNat v) (e8 bs n i m) 0).toInt ∧ (rowR c (Int32.ofNat v) (e8 bs n i m) 0).toInt ≤ 30 ∧ VLr (rowR c (Int32.ofNat v) (e8 bs n i m)) := by
  have h5 := vbT_f hv
  have ht := (fD_0 hz).2
  have ht : decide (30 ≤ (c 0).toInt) = false := ht
  have ht := of_decide_eq_false ht
  have hz : (fJ bs n i v (ntF (tmC false c v) 3 f) (ntP (tmC false c v) (pl bs n i) f p) m).1 = 0 := hz
  obtain ⟨l1, l2, l3, l4, l5, l6, l7, l8, l9, l10, l11, l12, l13, l14, l15, l16, l17, l18, l19, l20⟩ := lw_r
  obtain ⟨e, he⟩ : ∃ e, e = e8 bs n i m := ⟨_, rfl⟩
  obtain ⟨c0, c30, hr⟩ := hr
  have m8 := fJ_8 m hz
  have e0 : rowR c (Int32.ofNat v) e 0 = c 0 + 1 := by unfold rowR; rw [if_pos rfl]
  have e1 : (c 0 + 1).toInt = (c 0).toInt + 1 := zi_add rfl o32 (by omega) (by omega)
  rw [← he, e0, e1]
  refine ⟨by omega, by omega, fun k hk => ?_⟩
  rw [e0, e1] at hk
  obtain ⟨a, ha⟩ : ∃ a, a = (c 0).toInt.toNat := ⟨_, rfl⟩
  by_cases y : k = a
  · -- the new act
    subst y
    have cell : ∀ t, t < 9 → rowR c (Int32.ofNat v) e (1 + 9 * k + t) = if t = 0 then Int32.ofNat v else e (t - 1) := by
      intro t ht9
      unfold rowR
      rw [← ha, if_neg (by omega)]
      by_cases t0 : t = 0
      · rw [if_pos (by omega), if_pos t0]
      · rw [if_neg (by omega), if_pos (by omega), if_neg t0, show 1 + 9 * k + t - (2 + 9 * k) = t - 1 by omega]
    have c0' : rowR c (Int32.ofNat v) e (1 + 9 * k + 0) = Int32.ofNat v := by rw [cell 0 (by decide), if_pos rfl]
    have c1' : rowR c (Int32.ofNat v) e (1 + 9 * k + 1) = e 0 := by rw [cell 1 (by decide), if_neg (by decide)]
    have c2' : rowR c (Int32.ofNat v) e (1 + 9 * k + 2) = e 1 := by rw [cell 2 (by decide), if_neg (by decide)]
    have c3' : rowR c (Int32.ofNat v) e (1 + 9 * k + 3) = e 2 := by rw [cell 3 (by decide), if_neg (by decide)]
    unfold VAc
    dsimp only
    rw [c0', c1', c2', c3']
    have cv : v = 0 ∨ v = 1 ∨ v = 2 ∨ v = 3 ∨ v = 4 ∨ v = 5 := by omega
    rcases cv with rfl | rfl | rfl | rfl | rfl | rfl
    · have hm : m = 3 := (ho.2.1 (by decide)).trans (by decide +kernel)
      have r0 := e8_rg hz (t := 0) (by omega) l1 l2 (by decide) (by decide)
      have r1 := e8_rg hz (t := 1) (by omega) l3 l4 (by decide) (by decide)
      have r2 := e8_rg hz (t := 2) (by omega) l5 l6 (by decide) (by decide)
      have tw := e8_tw hz (by omega) (Or.inl rfl)
      rw [← he] at r0 r1 r2 tw
      exact Or.inl ⟨Or.inl rfl, r0.1, r0.2, r1.1, r1.2, tw, r2.1, r2.2⟩
    · have hm : m = 3 := (ho.2.1 (by decide)).trans (by decide +kernel)
      have r0 := e8_rg hz (t := 0) (by omega) l7 l8 (by decide) (by decide)
      have r1 := e8_rg hz (t := 1) (by omega) l9 l10 (by decide) (by decide)
      have r2 := e8_rg hz (t := 2) (by omega) l11 l12 (by decide) (by decide)
      have tw := e8_tw hz (by omega) (Or.inr (Or.inl rfl))
      rw [← he] at r0 r1 r2 tw
      exact Or.inl ⟨Or.inr rfl, r0.1, r0.2, r1.1, r1.2, tw, r2.1, r2.2⟩
    · have hm4 : 4 ≤ m := ho.2.2.1 rfl
      have r0 := e8_rg hz (t := 0) (by omega) l13 l14 (by decide) (by decide)
      have r1 := e8_rg hz (t := 1) (by omega) l15 l16 (by decide) (by decide)
      rw [← he] at r0 r1
      have rt : ∀ t, 2 ≤ t → t < m → 0 ≤ nv bs n i t ∧ nv bs n i t ≤ 8 := by
        intro t t2 tm
        have r := fJ_rg hz tm
        rw [(ring_lw t2).1, (ring_lw t2).2] at r
        exact r
      have et : ∀ t, t < m - 2 → (rowR c (Int32.ofNat 2) e (1 + 9 * k + (3 + t))).toInt = nv bs n i (2 + t) := by
        intro t htm
        have r := rt (2 + t) (by omega) (by omega)
        rw [cell (3 + t) (by omega), if_neg (by omega), show 3 + t - 1 = 2 + t by omega, he, e8_i (by omega) (by omega) (by omega)]
      refine Or.inr (Or.inl ⟨rfl, r0.1, r0.2, r1.1, r1.2, m - 2, by omega, by omega, fun t htm => ?_, fun t s hts hsm => ?_, fun t htm ht6 => ?_⟩)
      · rw [et t htm]
        exact rt (2 + t) (by omega) (by omega)
      · rw [et t (by omega), et s hsm]
        intro q
        exact fJ_ok m hz (2 + s) (by omega) (Or.inr (Or.inr (Or.inr ⟨rfl, 2 + t, by omega, by omega, by omega, q.symm⟩)))
      · rw [cell (3 + t) (by omega), if_neg (by omega), show 3 + t - 1 = 2 + t by omega, he]
        unfold e8
        rw [if_neg (by omega)]
    · have hm : m = 1 := (ho.2.1 (by decide)).trans (by decide +kernel)
      have r0 := e8_rg hz (t := 0) (by omega) l17 l18 (by decide) (by decide)
      rw [← he] at r0
      exact Or.inr (Or.inr (Or.inl ⟨rfl, r0.1, r0.2⟩))
    · have hm : m = 1 := (ho.2.1 (by decide)).trans (by decide +kernel)
      have r0 := e8_rg hz (t := 0) (by omega) l19 l20 (by decide) (by decide)
      rw [← he] at r0
      exact Or.inr (Or.inr (Or.inr (Or.inl ⟨rfl, r0.1, r0.2⟩)))
    · exact Or.inr (Or.inr (Or.inr (Or.inr rfl)))
  · have cell : ∀ t, t < 9 → rowR c (Int32.ofNat v) e (1 + 9 * k + t) = c (1 + 9 * k + t) := by
      intro t ht9
      unfold rowR
      rw [← ha, if_neg (by omega), if_neg (by omega), if_neg (by omega)]
    have z := hr k (by omega)
    unfold VAc at z ⊢
    dsimp only
    rw [cell 0 (by decide), cell 1 (by decide), cell 2 (by decide), cell 3 (by decide)]
    rcases z with z | ⟨z1, z2, z3, z4, z5, m', z6, z7, z8, z9, z10⟩ | z | z | z
    · exact Or.inl z
    · refine Or.inr (Or.inl ⟨z1, z2, z3, z4, z5, m', z6, z7, fun t ht => ?_, fun t s hts hsm => ?_, fun t h1 h2 => ?_⟩)
      · rw [cell _ (by omega)]; exact z8 t ht
      · rw [cell _ (by omega), cell _ (by omega)]; exact z9 t s hts hsm
      · rw [cell _ (by omega)]; exact z10 t h1 h2
    · exact Or.inr (Or.inr (Or.inl z))
    · exact Or.inr (Or.inr (Or.inr (Or.inl z)))
    · exact Or.inr (Or.inr (Or.inr (Or.inr z)))
theorem RD_VLD : ∀ (N : Nat) {i : Nat} {f p : Int32} {c : Nat → Int32} {g : Int} {o : OC}, RDq b bs n N i f p c g o → (f = 0 → VLD b c g) → o.2.1 = 0 → VLD b o.2.2.2.1 o.2.2.2.2
  | 0, _, _, _, _, _, _, q, _, _ => q.elim
  | N + 1, i, f, p, c, g, o, q, hp, ho => by
    rcases q with ⟨h1, e⟩ | ⟨h1, h2, e⟩ | ⟨v, m, h1, h2, e⟩ | ⟨v, m, h1, h2, h3⟩
    · rw [e] at ho ⊢
      exact hp ho
    · rw [e] at ho
      exact absurd (show (1 : Int32) = 0 from ho) (by decide +kernel)
    · rw [e] at ho
      exact absurd (show (1 : Int32) = 0 from ho) (by decide +kernel)
    · refine RD_VLD N h3 (fun hz => ?_) ho
      have hv := hp (fD_0 hz).1
      unfold cD gD
      rw [if_pos hz, if_pos hz]
      unfold VLD at hv ⊢
      cases b with
      | true =>
        rw [if_pos rfl] at hv ⊢
        exact VLv_step hv h1 h2 hz
      | false =>
        rw [if_neg Bool.false_ne_true] at hv ⊢
        exact VLr_step hv h1 h2 hz
theorem VLD_0 : VLD b (i0 b) 0 := by
  unfold VLD
  cases b with
  | true =>
    rw [if_pos rfl]
    have e : ∀ q, q ≠ 0 → i0 true q = 0 := fun q hq => if_neg hq
    refine ⟨by decide +kernel, by decide +kernel, by decide +kernel, fun q _ => ?_, fun q _ => ?_, fun q _ => ?_, fun k hk => ?_⟩
    · rw [e _ (by omega)]; decide
    · rw [e _ (by omega)]; decide
    · rw [e _ (by omega)]; decide
    · rw [e 1 (by decide)] at hk
      exact absurd hk (by show ¬ k < 0; omega)
  | false =>
    rw [if_neg Bool.false_ne_true]
    exact ⟨by decide +kernel, by decide +kernel, fun i hi => absurd hi (by show ¬ i < 0; omega)⟩
/-- all that is told is valid -/
def VAa (a : Nat → Int32) : Prop := (∀ u, u < (a 0).toInt.toNat → ∃ g : Int, g < (a (610 + 132 * u)).toInt ∧ VLv (fun k => a (610 + 132 * u + k)) g) ∧ ∀ u, u < (a 1).toInt.toNat → VLr (fun k => a (874 + 272 * u + k))
theorem VLv_cg {c c' : Nat → Int32} (h : VLv c g) (e : ∀ k, k < 130 → c' k = c k) : VLv c' g := by
  obtain ⟨a0, a1, a2, a3, a4, a5, a6⟩ := h
  have e1 := e 1 (by decide)
  refine ⟨by rw [e 0 (by decide)]; exact a0, by rw [e1]; exact a1, by rw [e 2 (by decide)]; exact a2, fun q hq => by rw [e _ (by omega)]; exact a3 q hq, fun q hq => by rw [e _ (by omega)]; exact a4 q hq, fun q hq => by rw [e _ (by omega)]; exact a5 q hq, fun k hk => ?_⟩
  rw [e1] at hk
  rw [e _ (by omega), e _ (by omega), e _ (by omega), e _ (by omega)]
  exact a6 k hk
theorem VAc_cg {y y' : Nat → Int32} (h : VAc y) (e : ∀ t, t < 9 → y' t = y t) : VAc y' := by
  unfold VAc at h ⊢
  rw [e 0 (by decide), e 1 (by decide), e 2 (by decide), e 3 (by decide)]
  rcases h with z | ⟨z1, z2, z3, z4, z5, m', z6, z7, z8, z9, z10⟩ | z | z | z
  · exact Or.inl z
  · refine Or.inr (Or.inl ⟨z1, z2, z3, z4, z5, m', z6, z7, fun t ht => ?_, fun t s hts hsm => ?_, fun t h1 h2 => ?_⟩)
    · rw [e _ (by omega)]; exact z8 t ht
    · rw [e _ (by omega), e _ (by omega)]; exact z9 t s hts hsm
    · rw [e _ (by omega)]; exact z10 t h1 h2
  · exact Or.inr (Or.inr (Or.inl z))
  · exact Or.inr (Or.inr (Or.inr (Or.inl z)))
  · exact Or.inr (Or.inr (Or.inr (Or.inr z)))
theorem VLr_cg {c c' : Nat → Int32} (h : VLr c) (h30 : (c 0).toInt ≤ 30) (e : ∀ k, k < 272 → c' k = c k) : VLr c' := by
  intro i hi
  rw [e 0 (by decide)] at hi
  exact VAc_cg (h i hi) (fun t ht => e _ (by omega))
theorem VAa_cg {a a' : Nat → Int32} (h : VAa a) (hr : RA a) (e : ∀ q, q < 1690 → q = 0 ∨ q = 1 ∨ 610 ≤ q → a' q = a q) : VAa a' := by
  obtain ⟨h1, h2⟩ := h
  obtain ⟨r1, r2, r3, r4, r5, r6, r7⟩ := hr
  have e0 := e 0 (by decide) (by decide)
  have e1 := e 1 (by decide) (by decide)
  refine ⟨fun u hu => ?_, fun u hu => ?_⟩
  · rw [e0] at hu
    obtain ⟨g, g1, g2⟩ := h1 u hu
    exact ⟨g, by rw [e _ (by omega) (by omega)]; exact g1, VLv_cg g2 (fun k hk => e _ (by omega) (by omega))⟩
  · rw [e1] at hu
    exact VLr_cg (h2 u hu) (by have := (r7 u hu).2; exact this) (fun k hk => e _ (by omega) (by omega))
/-- a text keeps what is told valid -/
theorem VA_text {κ s0 : Nat} {C : Nat → Int32} {cnt cnt' : Int32} {G : Int} {a' : Nat → Int32} (h : VAa a) (hr : RA a) (hC : VLD b C G) (hG : b = true → G < (C 0).toInt) (hs : (b = true ∧ s0 = 0 ∧ κ ≤ 1) ∨ (b = false ∧ s0 = 1 ∧ κ ≤ 2)) (hcnt : cnt = a s0) (hc2 : cnt'.toInt ≤ max cnt.toInt (κ + 1)) (hc3 : cnt'.toInt ≤ s0 + 2) (hal : ∀ q, a' q = tlN b κ C a cnt' s0 q) (hkc : (κ : Int) ≤ cnt.toInt) : VAa a' := by
  obtain ⟨h1, h2⟩ := h
  obtain ⟨r1, r2, r3, r4, r5, r6, r7⟩ := hr
  rcases hs with ⟨rfl, rfl, hk⟩ | ⟨rfl, rfl, hk⟩
  · have hal : ∀ q, a' q = if q = 2 then 0 else if q = 3 then 0 else if q = 4 then -1 else if q = 0 then cnt' else if 610 + 132 * κ ≤ q ∧ q < 610 + 132 * κ + 132 then C (q - (610 + 132 * κ)) else a q := hal
    have lo : ∀ q, q ≠ 2 → q ≠ 3 → q ≠ 4 → q ≠ 0 → ¬ (610 + 132 * κ ≤ q ∧ q < 610 + 132 * κ + 132) → a' q = a q := fun q h2 h3 h4 h0 hx => by rw [hal, if_neg h2, if_neg h3, if_neg h4, if_neg h0, if_neg hx]
    have eK : ∀ x, x < 132 → a' (610 + 132 * κ + x) = C x := fun x hx => by
      rw [hal, if_neg (by omega), if_neg (by omega), if_neg (by omega), if_neg (by omega), if_pos (by omega), show 610 + 132 * κ + x - (610 + 132 * κ) = x by omega]
    have e0 : a' 0 = cnt' := by rw [hal]; rfl
    have e1 : a' 1 = a 1 := lo 1 (by decide) (by decide) (by decide) (by decide) (by omega)
    unfold VLD at hC
    rw [if_pos rfl] at hC
    refine ⟨fun u hu => ?_, fun u hu => ?_⟩
    · rw [e0] at hu
      by_cases y : u = κ
      · subst y
        refine ⟨G, ?_, VLv_cg hC (fun k hk => eK k (by omega))⟩
        have z := eK 0 (by decide)
        rw [Nat.add_zero] at z
        rw [z]
        exact hG rfl
      · rw [hcnt] at hc2 hkc
        obtain ⟨g, g1, g2⟩ := h1 u (by omega)
        exact ⟨g, by rw [lo _ (by omega) (by omega) (by omega) (by omega) (by omega)]; exact g1, VLv_cg g2 (fun k hk => lo _ (by omega) (by omega) (by omega) (by omega) (by omega))⟩
    · rw [e1] at hu
      exact VLr_cg (h2 u hu) (r7 u hu).2 (fun k hk => lo _ (by omega) (by omega) (by omega) (by omega) (by omega))
  · have hal : ∀ q, a' q = if q = 2 then 0 else if q = 3 then 0 else if q = 4 then -1 else if q = 1 then cnt' else if 874 + 272 * κ ≤ q ∧ q < 874 + 272 * κ + 272 then C (q - (874 + 272 * κ)) else a q := hal
    have lo : ∀ q, q ≠ 2 → q ≠ 3 → q ≠ 4 → q ≠ 1 → ¬ (874 + 272 * κ ≤ q ∧ q < 874 + 272 * κ + 272) → a' q = a q := fun q h2 h3 h4 h0 hx => by rw [hal, if_neg h2, if_neg h3, if_neg h4, if_neg h0, if_neg hx]
    have eK : ∀ x, x < 272 → a' (874 + 272 * κ + x) = C x := fun x hx => by
      rw [hal, if_neg (by omega), if_neg (by omega), if_neg (by omega), if_neg (by omega), if_pos (by omega), show 874 + 272 * κ + x - (874 + 272 * κ) = x by omega]
    have e1 : a' 1 = cnt' := by rw [hal]; rfl
    have e0 : a' 0 = a 0 := lo 0 (by decide) (by decide) (by decide) (by decide) (by omega)
    unfold VLD at hC
    rw [if_neg Bool.false_ne_true] at hC
    refine ⟨fun u hu => ?_, fun u hu => ?_⟩
    · rw [e0] at hu
      obtain ⟨g, g1, g2⟩ := h1 u hu
      exact ⟨g, by rw [lo _ (by omega) (by omega) (by omega) (by omega) (by omega)]; exact g1, VLv_cg g2 (fun k hk => lo _ (by omega) (by omega) (by omega) (by omega) (by omega))⟩
    · rw [e1] at hu
      by_cases y : u = κ
      · subst y
        exact VLr_cg hC.2.2 hC.2.1 (fun k hk => eK k hk)
      · rw [hcnt] at hc2 hkc
        exact VLr_cg (h2 u (by omega)) (r7 u (by omega)).2 (fun k hk => lo _ (by omega) (by omega) (by omega) (by omega) (by omega))
end GVL
end
section
/-! ===== states: what acts do, for both sides; the class's states ===== -/
section GW
variable {X : pm_X} {k k2 : Nat} {w0 w w1 w2 w' : pm_W} {r r2 : Option Value} {p p1 p2 p3 p4 p5 f0 p0 f q x y : Int32} {n i v j m s T L u V a N K P t : Nat} {D D' G G1 G2 : Nat → Int32} {b : Bool}
/-- of ring k: how many, who is in it, the cell of the debt of its i-th -/
def rMy (G : Nat → Int32) (k : Nat) : Nat := (G (10 * k)).toInt.toNat
def rWho (G : Nat → Int32) (k i : Nat) : Nat := (G (10 * k + 4 + i)).toInt.toNat
def rNx (G : Nat → Int32) (k i : Nat) : Nat := rWho G k (if i + 1 < rMy G k then i + 1 else 0)
def rCl (G : Nat → Int32) (k i : Nat) : Nat := 9 * rWho G k i + rNx G k i
def subZ (x n : Int32) : Int32 := if x.toInt < n.toInt then 0 else x - n
/-- the debts behind the first i of ring k's are struck -/
def stD (G : Nat → Int32) (k : Nat) : Nat → (Nat → Int32) → (Nat → Int32)
  | 0, D => D
  | i + 1, D => updc (stD G k i D) (rCl G k i) (subZ (stD G k i D (rCl G k i)) (G (10 * k + 1)))
def stG (G : Nat → Int32) (k : Nat) : Nat → Int32 := updc G (10 * k + 3) 0
def opn (G : Nat → Int32) (k : Nat) : Bool := decide (G (10 * k + 3) = 1)
def inR (G : Nat → Int32) (k : Nat) (p : Nat) : Nat → Bool
  | 0 => false
  | i + 1 => inR G k p i || decide (rWho G k i = p)
/-- a ring as it may be -/
def WRg (P : Nat) (G : Nat → Int32) (k : Nat) : Prop := 2 ≤ (G (10 * k)).toInt ∧ (G (10 * k)).toInt ≤ 6 ∧ 0 ≤ (G (10 * k + 1)).toInt ∧ (G (10 * k + 1)).toInt ≤ 99 ∧ 0 ≤ (G (10 * k + 2)).toInt ∧ (G (10 * k + 2)).toInt ≤ 99 ∧ (G (10 * k + 3) = 0 ∨ G (10 * k + 3) = 1) ∧ (∀ i, i < rMy G k → 0 ≤ (G (10 * k + 4 + i)).toInt ∧ (G (10 * k + 4 + i)).toInt < P) ∧ ∀ i j, i < j → j < rMy G k → rWho G k i ≠ rWho G k j
def WD (P : Nat) (D : Nat → Int32) : Prop := (∀ q, 0 ≤ (D q).toInt ∧ (D q).toInt ≤ 99) ∧ ∀ x y, x < 9 → y < 9 → (P ≤ x ∨ P ≤ y) → D (9 * x + y) = 0
/-- rings below N are alike -/
def RG2 (N : Nat) (G1 G2 : Nat → Int32) : Prop := ∀ k, k < N → ∀ i, i < 4 + rMy G1 k → G2 (10 * k + i) = G1 (10 * k + i)
theorem RG2_my (h : RG2 N G1 G2) (hk : k < N) : rMy G2 k = rMy G1 k := by
  unfold rMy
  have z := h k hk 0 (by omega)
  rw [Nat.add_zero] at z
  rw [z]
theorem RG2_who (h : RG2 N G1 G2) (hk : k < N) (hi : i < rMy G1 k) : rWho G2 k i = rWho G1 k i := by
  unfold rWho
  rw [show 10 * k + 4 + i = 10 * k + (4 + i) by omega, h k hk (4 + i) (by omega)]
theorem RG2_cl (h : RG2 N G1 G2) (hk : k < N) (hi : i < rMy G1 k) : rCl G2 k i = rCl G1 k i := by
  unfold rCl rNx
  rw [RG2_my h hk, RG2_who h hk hi]
  by_cases c : i + 1 < rMy G1 k
  · rw [if_pos c, RG2_who h hk c]
  · rw [if_neg c, RG2_who h hk (by omega)]
theorem RG2_stD (h : RG2 N G1 G2) (hk : k < N) (hm : 1 ≤ rMy G1 k) : ∀ i, i ≤ rMy G1 k → stD G2 k i D = stD G1 k i D
  | 0, _ => rfl
  | i + 1, hi => by
    show updc (stD G2 k i D) (rCl G2 k i) (subZ (stD G2 k i D (rCl G2 k i)) (G2 (10 * k + 1))) = updc (stD G1 k i D) (rCl G1 k i) (subZ (stD G1 k i D (rCl G1 k i)) (G1 (10 * k + 1)))
    rw [RG2_stD h hk hm i (by omega), RG2_cl h hk (by omega), h k hk 1 (by omega)]
theorem rMy_st : rMy (stG G k) m = rMy G m := by
  unfold rMy stG updc
  rw [if_neg (by omega)]
theorem RG2_stG (h : RG2 N G1 G2) : RG2 N (stG G1 k) (stG G2 k) := by
  intro m hm i hi
  rw [rMy_st] at hi
  unfold stG updc
  rw [h m hm i hi]
theorem opn_RG (h : RG2 N G1 G2) (hk : k < N) : opn G2 k = opn G1 k := by
  unfold opn
  rw [h k hk 3 (by omega)]
theorem inR_RG (h : RG2 N G1 G2) (hk : k < N) : ∀ i, i ≤ rMy G1 k → inR G2 k m i = inR G1 k m i
  | 0, _ => rfl
  | i + 1, hi => by
    show (inR G2 k m i || decide (rWho G2 k i = m)) = (inR G1 k m i || decide (rWho G1 k i = m))
    rw [inR_RG h hk i (by omega), RG2_who h hk (by omega)]
theorem subZ_b (hx : 0 ≤ x.toInt ∧ x.toInt ≤ 99) (hn : 0 ≤ y.toInt ∧ y.toInt ≤ 99) : 0 ≤ (subZ x y).toInt ∧ (subZ x y).toInt ≤ 99 := by
  unfold subZ
  by_cases c : x.toInt < y.toInt
  · rw [if_pos c]; decide
  · rw [if_neg c, show (x - y).toInt = x.toInt - y.toInt from zi_sub rfl rfl (by omega) (by omega)]
    omega
theorem WR_who (h : WRg P G k) (hi : i < rMy G k) : rWho G k i < P := by
  have z := h.2.2.2.2.2.2.2.1 i hi
  unfold rWho
  omega
theorem WR_nx (h : WRg P G k) (hi : i < rMy G k) : rNx G k i < P := by
  unfold rNx
  by_cases c : i + 1 < rMy G k
  · rw [if_pos c]; exact WR_who h c
  · rw [if_neg c]; exact WR_who h (by omega)
theorem WD_stD (hP : P ≤ 9) (hR : WRg P G k) (hD : WD P D) : ∀ i, i ≤ rMy G k → WD P (stD G k i D)
  | 0, _ => hD
  | i + 1, hi => by
    have z := WD_stD hP hR hD i (by omega)
    have hw := WR_who hR (i := i) (by omega)
    have hx := WR_nx hR (i := i) (by omega)
    refine ⟨fun q => ?_, fun x y hx9 hy9 hxy => ?_⟩
    · show 0 ≤ ((if q = rCl G k i then subZ (stD G k i D (rCl G k i)) (G (10 * k + 1)) else stD G k i D q)).toInt ∧ _
      by_cases c : q = rCl G k i
      · show 0 ≤ ((if q = rCl G k i then subZ (stD G k i D (rCl G k i)) (G (10 * k + 1)) else stD G k i D q)).toInt ∧ ((if q = rCl G k i then subZ (stD G k i D (rCl G k i)) (G (10 * k + 1)) else stD G k i D q)).toInt ≤ 99
        rw [if_pos c]
        exact subZ_b (z.1 _) ⟨hR.2.2.1, hR.2.2.2.1⟩
      · show 0 ≤ ((if q = rCl G k i then subZ (stD G k i D (rCl G k i)) (G (10 * k + 1)) else stD G k i D q)).toInt ∧ ((if q = rCl G k i then subZ (stD G k i D (rCl G k i)) (G (10 * k + 1)) else stD G k i D q)).toInt ≤ 99
        rw [if_neg c]
        exact z.1 q
    · show (if 9 * x + y = rCl G k i then subZ (stD G k i D (rCl G k i)) (G (10 * k + 1)) else stD G k i D (9 * x + y)) = 0
      have ne : 9 * x + y ≠ rCl G k i := by
        unfold rCl
        omega
      rw [if_neg ne]
      exact z.2 x y hx9 hy9 hxy
theorem WR_st (h : WRg P G m) : WRg P (stG G k) m := by
  obtain ⟨h1, h2, h3, h4, h5, h6, h7, h8, h9⟩ := h
  have e : ∀ i, i ≠ 3 → i < 10 → stG G k (10 * m + i) = G (10 * m + i) := fun i hi hi10 => by
    unfold stG updc
    rw [if_neg (by omega)]
  have e4 : ∀ i, i < 6 → stG G k (10 * m + 4 + i) = G (10 * m + 4 + i) := fun i hi => by
    have z := e (4 + i) (by omega) (by omega)
    rw [← Nat.add_assoc] at z
    exact z
  have e0 := e 0 (by decide) (by decide)
  rw [Nat.add_zero] at e0
  have m6 : rMy G m ≤ 6 := by unfold rMy; omega
  refine ⟨by rw [e0]; exact h1, by rw [e0]; exact h2, by rw [e 1 (by decide) (by decide)]; exact h3, by rw [e 1 (by decide) (by decide)]; exact h4, by rw [e 2 (by decide) (by decide)]; exact h5, by rw [e 2 (by decide) (by decide)]; exact h6, ?_, fun i hi => ?_, fun i j hij hj => ?_⟩
  · unfold stG updc
    by_cases c : 10 * m + 3 = 10 * k + 3
    · rw [if_pos c]; exact Or.inl rfl
    · rw [if_neg c]; exact h7
  · rw [rMy_st] at hi
    rw [e4 i (by omega)]
    exact h8 i hi
  · rw [rMy_st] at hj
    unfold rWho
    rw [e4 i (by omega), e4 j (by omega)]
    exact h9 i j hij hj
/-! the class's states -/
def okS (a : Nat) : Bool := Nat.beq (sk_r a 3) (a + 6) && Nat.beq (sk_r a 4) (a + 7) && Nat.beq (sk_r a 5) (a + 8) && sk_i a 1 && sk_i a 2 && sk_a (a + 6) && sk_a (a + 7) && sk_a (a + 8) && Nat.beq (sk_l (a + 6)) 81 && Nat.beq (sk_l (a + 7)) 370 && Nat.beq (sk_l (a + 8)) 6 && sk_rf a 0
theorem okS_r (hS : SK w) (h : okS a = true) : gR w a 3 = a + 6 ∧ gR w a 4 = a + 7 ∧ gR w a 5 = a + 8 ∧ isF w a 1 ∧ isF w a 2 ∧ isA w (a + 6) ∧ isA w (a + 7) ∧ isA w (a + 8) ∧ (gA w (a + 6)).length = 81 ∧ (gA w (a + 7)).length = 370 ∧ (gA w (a + 8)).length = 6 ∧ sk_rf a 0 = true := by
  unfold okS at h
  simp only [Bool.and_eq_true] at h
  obtain ⟨⟨⟨⟨⟨⟨⟨⟨⟨⟨⟨h1, h2⟩, h3⟩, h4⟩, h5⟩, h6⟩, h7⟩, h8⟩, h9⟩, h10⟩, h11⟩, h12⟩ := h
  exact ⟨sk_fix hS (Nat.eq_of_beq_eq_true h1) (by omega), sk_fix hS (Nat.eq_of_beq_eq_true h2) (by omega), sk_fix hS (Nat.eq_of_beq_eq_true h3) (by omega), SK_isF hS h4, SK_isF hS h5, SK_isA hS h6, SK_isA hS h7, SK_isA hS h8, SK_len hS (Nat.eq_of_beq_eq_true h9) (by decide), SK_len hS (Nat.eq_of_beq_eq_true h10) (by decide), SK_len hS (Nat.eq_of_beq_eq_true h11) (by decide), h12⟩
/-- debts, rings' parts of the state at a -/
def dA (w : pm_W) (a q : Nat) : Int32 := (gA w (a + 6)).getD q 0
def gAr (w : pm_W) (a q : Nat) : Int32 := (gA w (a + 7)).getD q 0
theorem dA_aS (hS : SK w) (ok : okS a = true) (hj : x.toInt = j) (h : j < 81) : dA (aS w (a + 6) x y) a = updc (dA w a) j y := by
  funext q
  unfold dA updc
  obtain ⟨_, _, _, _, _, i6, _, _, l6, _⟩ := okS_r hS ok
  rw [gA_aS i6, i_nat hj, getD_set (by omega)]
theorem gAr_aS (hS : SK w) (ok : okS a = true) (hj : x.toInt = j) (h : j < 370) : gAr (aS w (a + 7) x y) a = updc (gAr w a) j y := by
  funext q
  unfold gAr updc
  obtain ⟨_, _, _, _, _, _, i7, _, _, l7, _⟩ := okS_r hS ok
  rw [gA_aS i7, i_nat hj, getD_set (by omega)]
theorem dA_ne {c : Nat} (h : c ≠ a + 6) : dA (aS w c x y) a = dA w a := by
  funext q
  unfold dA
  rw [gA_aS_ne h]
theorem gAr_ne {c : Nat} (h : c ≠ a + 7) : gAr (aS w c x y) a = gAr w a := by
  funext q
  unfold gAr
  rw [gA_aS_ne h]
theorem e10i : (10 : Int32).toInt = 10 := ten32
theorem nine32 : (9 : Int32).toInt = 9 := by decide +kernel
theorem F84 (hS : SK w) (ok : okS a = true) (hk : p1.toInt = K) (hj : p2.toInt = j) (hK : K ≤ 36) (hj10 : j < 10) (h : PS X k 84 0 [.ref a, .int p1, .int p2] [] w r w') : r = some (.int (gAr w a (10 * K + j))) ∧ w' = w := by
  cases k with
  | zero => exact (PS_0 h).elim
  | succ k =>
    obtain ⟨_, h1, h2⟩ := U84_0 hS h
    rw [(okS_r hS ok).2.1, aG_n (m := 10 * K + j) (by rw [zi_add (zi_mul hk e10i (by omega) (by omega)) hj (by omega) (by omega)]; omega)] at h1
    exact ⟨h1, h2⟩
theorem F83 (hS : SK w) (ok : okS a = true) (hk : p1.toInt = K) (hK : K ≤ 36) (h : PS X k 83 0 [.ref a, .int p1] [] w r w') : r = some (.int (b2i (opn (gAr w a) K))) ∧ w' = w := by
  cases k with
  | zero => exact (PS_0 h).elim
  | succ k =>
    have h := use_p hS (U83_0 hS h) (fun _ _ z => F84 (j := 3) hS ok hk three32 hK (by decide) z)
    unfold opn
    by_cases c : gAr w a (10 * K + 3) = 1
    · rw [if_pos c] at h
      rw [decide_eq_true c]
      exact h
    · rw [if_neg c] at h
      rw [decide_eq_false c]
      exact h
theorem F52n {x y : Nat} (hS : SK w) (h1 : p1.toInt = x) (h2 : p2.toInt = y) (hx : x < 9) (hy : y < 9) (h : PS X k 52 0 [.int p1, .int p2] [] w r w') : ∃ z : Int32, z.toInt = (9 * x + y : Nat) ∧ r = some (.int z) ∧ w' = w := by
  obtain ⟨a1, a2⟩ := F52 hS h
  exact ⟨_, by rw [zi_add (zi_mul h1 nine32 (by omega) (by omega)) h2 (by omega) (by omega)]; omega, a1, a2⟩
theorem mx0 {d : Int32} : (if 0 < d then d else 0) = if 0 < d.toInt then d else 0 := by
  by_cases c : 0 < d
  · rw [if_pos c]
    rw [Int32.lt_iff_toInt_lt, z32] at c
    rw [if_pos c]
  · rw [if_neg c]
    rw [Int32.lt_iff_toInt_lt, z32] at c
    rw [if_neg c]
theorem subZ_c (hx : 0 ≤ x.toInt ∧ x.toInt ≤ 99) (hn : 0 ≤ y.toInt ∧ y.toInt ≤ 99) : (if 0 < x - y then x - y else 0) = subZ x y := by
  have e : (x - y).toInt = x.toInt - y.toInt := zi_sub rfl rfl (by omega) (by omega)
  rw [mx0, e]
  unfold subZ
  by_cases c : x.toInt < y.toInt
  · rw [if_pos c, if_neg (by omega)]
  · rw [if_neg c]
    by_cases c2 : 0 < x.toInt - y.toInt
    · rw [if_pos c2]
    · rw [if_neg c2]
      exact Int32.toInt_inj.mp (by rw [e, z32]; omega)
/-- use of a call that answers a number of which something is known, and changes nothing -/
theorem use_z {mi : Nat} {ls : List Value} {C : Int32 → pm_W → Prop} {E : Int32 → Prop} (hS : SK w) (h : ∃ (r1 : Option Value) (w2 : pm_W), PS X k mi 0 ls [] w r1 w2 ∧ (∀ x3 : Int32, r1 = some (.int x3) → SK w2 → C x3 w2)) (F : ∀ r1 w2, PS X k mi 0 ls [] w r1 w2 → ∃ z : Int32, E z ∧ r1 = some (.int z) ∧ w2 = w) : ∃ z, E z ∧ C z w := by
  obtain ⟨r1, w2, h1, h2⟩ := h
  obtain ⟨z, e, q1, q2⟩ := F _ _ h1
  subst q2
  exact ⟨z, e, h2 z q1 hS⟩
theorem F85_17 (ok : okS a = true) {i1 i3 : Int32} {P : Nat} (hP : P ≤ 9) (hk : i1.toInt = K) (hK : K ≤ 36) (h3 : i3 = gAr w0 a (10 * K + 1)) (hR : WRg P (gAr w0 a) K) (hD : WD P (dA w0 a)) : ∀ (k : Nat) (w : pm_W) (t : Nat) (i2 i4 : Int32) (u5 u6 : Value), FM [] [a + 6] w0 w → SK w0 → i2.toInt = (rMy (gAr w0 a) K : Nat) → i4.toInt = t → t ≤ rMy (gAr w0 a) K → dA w a = stD (gAr w0 a) K t (dA w0 a) → PS X k 85 17 [.ref a, .int i1, .int i2, .int i3, .int i4, u5, u6] [] w r w' → r = none ∧ FM [] [a + 6, a + 7] w0 w' ∧ dA w' a = stD (gAr w0 a) K (rMy (gAr w0 a) K) (dA w0 a) ∧ gAr w' a = stG (gAr w0 a) K := by
  intro k
  induction k with
  | zero => intro w t i2 i4 u5 u6 f0 hS0 h2 h4 ht hd h; exact (PS_0 h).elim
  | succ k ih =>
    intro w t i2 i4 u5 u6 f0 hS0 h2 h4 ht hd h
    have hS := f0.2.2.2
    have h := U85_17 hS h
    obtain ⟨r3, r4, _⟩ := okS_r hS ok
    have m6 : rMy (gAr w0 a) K ≤ 6 := by have := hR.2.1; unfold rMy; omega
    have eg : gAr w a = gAr w0 a := by funext q; unfold gAr; rw [FM_a f0 (by simp)]
    by_cases c : i2 ≤ i4
    · rw [if_pos c] at h
      rw [Int32.le_iff_toInt_le, h2, h4] at c
      have et : t = rMy (gAr w0 a) K := by omega
      obtain ⟨_, h⟩ := h
      obtain ⟨a1, a2⟩ := h _ rfl
      rw [r4] at a2
      have ej : (i1 * 10 + 3).toInt = (10 * K + 3 : Nat) := by rw [zi_add (zi_mul hk e10i (by omega) (by omega)) three32 (by omega) (by omega)]; omega
      refine ⟨a1, FM_trans (FM_mono f0 (by simp) (by simp)) (by rw [a2]; exact FM_aS hS (by simp)), ?_, ?_⟩
      · rw [a2, dA_ne (by omega), hd, et]
      · rw [a2, gAr_aS hS ok ej (by omega), eg]
        rfl
    · rw [if_neg c] at h
      rw [Int32.le_iff_toInt_le, h2, h4] at c
      have h := use_p hS h (fun _ _ z => F84 (j := 4 + t) hS ok hk (by rw [zi_add four32 h4 (by omega) (by omega)]; rfl) hK (by omega) z)
      rw [eg] at h
      have who : (gAr w0 a (10 * K + (4 + t))).toInt = (rWho (gAr w0 a) K t : Nat) := by
        have z := hR.2.2.2.2.2.2.2.1 t (by omega)
        unfold rWho
        rw [show 10 * K + (4 + t) = 10 * K + 4 + t by omega]
        omega
      have wP := WR_who hR (i := t) (by omega)
      have nP := WR_nx hR (i := t) (by omega)
      have hDt := WD_stD hP hR hD t (by omega)
      have i41 : (i4 + 1).toInt = (t + 1 : Nat) := by rw [zi_inc (n := 10) (by omega) (by omega), h4]; rfl
      -- from the next one on
      have go : ∀ (x7 : Int32), x7.toInt = (rNx (gAr w0 a) K t : Nat) → (∃ (r8 : Option Value) (w9 : pm_W), PS X k 52 0 [.int (gAr w0 a (10 * K + (4 + t))), .int x7] [] w r8 w9 ∧ (∀ x10 : Int32, r8 = some (.int x10) → SK w9 → (∃ (r11 : Option Value) (w12 : pm_W), PS X k 52 0 [.int (gAr w0 a (10 * K + (4 + t))), .int x7] [] w9 r11 w12 ∧ (∀ x13 : Int32, r11 = some (.int x13) → SK w12 → (aI w12 (gR w9 a 3) x13 ∧ (aI w12 (gR w a 3) x10 ∧ (∀ w14 : pm_W, w14 = aS w12 (gR w a 3) x10 (if 0 < ((aG w12 (gR w9 a 3) x13) - i3) then ((aG w12 (gR w9 a 3) x13) - i3) else 0) → (PS X k 85 17 [.ref a, .int i1, .int i2, .int i3, .int (i4 + 1), .int (gAr w0 a (10 * K + (4 + t))), .int x7] [] w14 r w')))))))) → r = none ∧ FM [] [a + 6, a + 7] w0 w' ∧ dA w' a = stD (gAr w0 a) K (rMy (gAr w0 a) K) (dA w0 a) ∧ gAr w' a = stG (gAr w0 a) K := by
        intro x7 h7 z
        obtain ⟨c1, hc1, z⟩ := use_z hS z (fun _ _ y => F52n hS who h7 (by omega) (by omega) y)
        obtain ⟨c2, hc2, z⟩ := use_z hS z (fun _ _ y => F52n hS who h7 (by omega) (by omega) y)
        obtain ⟨_, _, z⟩ := z
        have z := z _ rfl
        have ec : (9 * rWho (gAr w0 a) K t + rNx (gAr w0 a) K t) = rCl (gAr w0 a) K t := rfl
        rw [ec] at hc1 hc2
        have c81 : rCl (gAr w0 a) K t < 81 := by rw [← ec]; omega
        have ed : aG w (gR w a 3) c2 = stD (gAr w0 a) K t (dA w0 a) (rCl (gAr w0 a) K t) := by
          rw [r3, aG_n (m := rCl (gAr w0 a) K t) hc2, ← hd]
          rfl
        rw [ed, r3, h3, subZ_c (hDt.1 _) ⟨hR.2.2.1, hR.2.2.2.1⟩] at z
        refine ih _ (t + 1) i2 (i4 + 1) _ _ (FM_trans f0 (FM_aS hS (List.mem_singleton_self _))) hS0 h2 i41 (by omega) ?_ (by rw [h3]; exact z)
        rw [dA_aS hS ok hc1 c81, hd]
        rfl
      by_cases c1 : i2 ≤ i4 + 1
      · rw [if_pos c1] at h
        rw [Int32.le_iff_toInt_le, h2, i41] at c1
        have h := use_p hS h (fun _ _ z => F84 (j := 4) hS ok hk (by decide +kernel) hK (by decide) z)
        rw [eg] at h
        refine go _ ?_ h
        have z := hR.2.2.2.2.2.2.2.1 0 (by omega)
        unfold rNx
        rw [if_neg (by omega)]
        unfold rWho
        rw [Nat.add_zero] at z ⊢
        omega
      · rw [if_neg c1] at h
        rw [Int32.le_iff_toInt_le, h2, i41] at c1
        have h := use_p hS h (fun _ _ z => F84 (j := 4 + (t + 1)) hS ok hk (by rw [zi_add four32 i41 (by omega) (by omega)]; rfl) hK (by omega) z)
        rw [eg] at h
        refine go _ ?_ h
        have z := hR.2.2.2.2.2.2.2.1 (t + 1) (by omega)
        unfold rNx
        rw [if_pos (by omega)]
        unfold rWho
        rw [show 10 * K + (4 + (t + 1)) = 10 * K + 4 + (t + 1) by omega]
        omega
theorem F85 (hS : SK w) (ok : okS a = true) (hP : P ≤ 9) (hk : p1.toInt = K) (hK : K ≤ 36) (hR : WRg P (gAr w a) K) (hD : WD P (dA w a)) (h : PS X k 85 0 [.ref a, .int p1, pm_dead, pm_dead, pm_dead, pm_dead, pm_dead] [] w r w') : r = none ∧ FM [] [a + 6, a + 7] w w' ∧ dA w' a = stD (gAr w a) K (rMy (gAr w a) K) (dA w a) ∧ gAr w' a = stG (gAr w a) K := by
  cases k with
  | zero => exact (PS_0 h).elim
  | succ k =>
    have h := use_p hS (U85_0 hS h) (fun _ _ z => F84 (j := 0) hS ok hk z32 hK (by decide) z)
    have h := use_p hS h (fun _ _ z => F84 (j := 1) hS ok hk o32 hK (by decide) z)
    refine F85_17 ok hP hk hK rfl hR hD _ w 0 _ _ _ _ (FM_refl hS) hS ?_ z32 (Nat.zero_le _) rfl h
    rw [Nat.add_zero]
    have := hR.1
    unfold rMy
    omega
end GW
end
section
/-! ===== the reference's states ===== -/
section GX
variable {X : pm_X} {k k2 : Nat} {w0 w w1 w2 w' : pm_W} {r r2 : Option Value} {p p1 p2 p3 p4 p5 f0 p0 f q x y : Int32} {n i v j m s T L u V a N K P t : Nat} {D D' G G1 G2 : Nat → Int32} {b : Bool}
def dR (w : pm_W) (q : Nat) : Int32 := (gA w 152).getD q 0
def gRr (w : pm_W) (q : Nat) : Int32 := (gA w 153).getD q 0
theorem dR_aS (hS : SK w) (hj : x.toInt = j) (h : j < 81) : dR (aS w 152 x y) = updc (dR w) j y := by
  funext q
  unfold dR updc
  rw [gA_aS (SK_isA hS (by decide +kernel)), i_nat hj, getD_set (by rw [SK_len hS (a := 152) (n := 81) (by decide +kernel) (by decide)]; exact h)]
theorem gRr_aS (hS : SK w) (hj : x.toInt = j) (h : j < 400) : gRr (aS w 153 x y) = updc (gRr w) j y := by
  funext q
  unfold gRr updc
  rw [gA_aS (SK_isA hS (by decide +kernel)), i_nat hj, getD_set (by rw [SK_len hS (a := 153) (n := 400) (by decide +kernel) (by decide)]; exact h)]
theorem dR_ne {c : Nat} (h : c ≠ 152) : dR (aS w c x y) = dR w := by
  funext q
  unfold dR
  rw [gA_aS_ne h]
theorem gRr_ne {c : Nat} (h : c ≠ 153) : gRr (aS w c x y) = gRr w := by
  funext q
  unfold gRr
  rw [gA_aS_ne h]
theorem F234 (hS : SK w) (hk : p1.toInt = K) (hj : p2.toInt = j) (hK : K ≤ 38) (hj6 : j < 6) (h : PS X k 234 0 [.ref 147, .int p1, .int p2] [] w r w') : r = some (.int (gRr w (10 * K + 4 + j))) ∧ w' = w := by
  cases k with
  | zero => exact (PS_0 h).elim
  | succ k =>
    obtain ⟨_, h1, h2⟩ := U234_0 hS h
    rw [aG_n (m := 10 * K + 4 + j) (by rw [zi_add (zi_add (zi_mul e10i hk (by omega) (by omega)) four32 (by omega) (by omega)) hj (by omega) (by omega)]; omega)] at h1
    exact ⟨h1, h2⟩
theorem F236 (hS : SK w) (hk : p1.toInt = K) (hK : K ≤ 38) (h : PS X k 236 0 [.ref 147, .int p1] [] w r w') : r = some (.int (b2i (opn (gRr w) K))) ∧ w' = w := by
  cases k with
  | zero => exact (PS_0 h).elim
  | succ k =>
    obtain ⟨_, h⟩ := U236_0 hS h
    rw [aG_n (m := 10 * K + 3) (by rw [zi_add (zi_mul e10i hk (by omega) (by omega)) three32 (by omega) (by omega)]; omega)] at h
    unfold opn
    by_cases c : gRr w (10 * K + 3) = 1
    · rw [if_pos (show (gA w 153).getD (10 * K + 3) 0 = 1 from c)] at h
      rw [decide_eq_true c]
      exact h
    · rw [if_neg (show ¬ (gA w 153).getD (10 * K + 3) 0 = 1 from c)] at h
      rw [decide_eq_false c]
      exact h
theorem rk10 (hk : p1.toInt = K) (hK : K ≤ 38) : (10 * p1).toInt = (10 * K : Nat) := by
  rw [zi_mul e10i hk (by omega) (by omega)]
  omega
theorem F235 (hS : SK w) (hk : p1.toInt = K) (hj : p2.toInt = j) (hK : K ≤ 38) (hR : WRg P (gRr w) K) (hj6 : j < rMy (gRr w) K) (h : PS X k 235 0 [.ref 147, .int p1, .int p2] [] w r w') : ∃ z : Int32, z.toInt = (rNx (gRr w) K j : Nat) ∧ r = some (.int z) ∧ w' = w := by
  have m6 : rMy (gRr w) K ≤ 6 := by have := hR.2.1; unfold rMy; omega
  have hm : (gRr w (10 * K)).toInt = (rMy (gRr w) K : Nat) := by have := hR.1; unfold rMy; omega
  cases k with
  | zero => exact (PS_0 h).elim
  | succ k =>
    obtain ⟨_, h⟩ := U235_0 hS h
    have e1 : (p2 + 1).toInt = (j + 1 : Nat) := by rw [zi_add hj o32 (by omega) (by omega)]; rfl
    rw [aG_n (m := 10 * K) (rk10 hk hK)] at h
    have em : (gA w 153).getD (10 * K) 0 = gRr w (10 * K) := rfl
    rw [em] at h
    unfold rNx
    by_cases c : p2 + 1 = gRr w (10 * K)
    · rw [if_pos c] at h
      have c := congrArg Int32.toInt c
      rw [e1, hm] at c
      have h := use_p hS h (fun _ _ z => F234 (j := 0) hS hk z32 hK (by decide) z)
      have z := hR.2.2.2.2.2.2.2.1 0 (by omega)
      refine ⟨_, ?_, h.1, h.2⟩
      rw [if_neg (by omega)]
      unfold rWho
      omega
    · rw [if_neg c] at h
      have c : (j + 1 : Nat) ≠ rMy (gRr w) K := fun z => c (Int32.toInt_inj.mp (by rw [e1, hm, z]))
      have h := use_p hS h (fun _ _ z => F234 (j := j + 1) hS hk e1 hK (by omega) z)
      have z := hR.2.2.2.2.2.2.2.1 (j + 1) (by omega)
      refine ⟨_, ?_, h.1, h.2⟩
      rw [if_pos (by omega)]
      unfold rWho
      omega
theorem F237_2 {i1 : Int32} {P : Nat} (hP : P ≤ 9) (hk : i1.toInt = K) (hK : K ≤ 38) (hR : WRg P (gRr w0) K) (hD : WD P (dR w0)) : ∀ (k : Nat) (w : pm_W) (t : Nat) (i2 : Int32) (u3 : Value), FM [] [152] w0 w → SK w0 → i2.toInt = t → t ≤ rMy (gRr w0) K → dR w = stD (gRr w0) K t (dR w0) → PS X k 237 2 [.ref 147, .int i1, .int i2, u3] [] w r w' → r = none ∧ FM [] [152, 153] w0 w' ∧ dR w' = stD (gRr w0) K (rMy (gRr w0) K) (dR w0) ∧ gRr w' = stG (gRr w0) K := by
  intro k
  induction k with
  | zero => intro w t i2 u3 f0 hS0 h2 ht hd h; exact (PS_0 h).elim
  | succ k ih =>
    intro w t i2 u3 f0 hS0 h2 ht hd h
    have hS := f0.2.2.2
    obtain ⟨_, h⟩ := U237_2 hS h
    have m6 : rMy (gRr w0) K ≤ 6 := by have := hR.2.1; unfold rMy; omega
    have hm : (gRr w0 (10 * K)).toInt = (rMy (gRr w0) K : Nat) := by have := hR.1; unfold rMy; omega
    have eg : gRr w = gRr w0 := by funext q; unfold gRr; rw [FM_a f0 (by decide)]
    have em : aG w 153 (10 * i1) = gRr w0 (10 * K) := by rw [aG_n (m := 10 * K) (rk10 hk hK), ← eg]; rfl
    have en : aG w 153 (10 * i1 + 1) = gRr w0 (10 * K + 1) := by rw [aG_n (m := 10 * K + 1) (by rw [zi_add (rk10 hk hK) o32 (by omega) (by omega)]; rfl), ← eg]; rfl
    rw [em] at h
    by_cases c : gRr w0 (10 * K) ≤ i2
    · rw [if_pos c] at h
      rw [Int32.le_iff_toInt_le, hm, h2] at c
      have et : t = rMy (gRr w0) K := by omega
      obtain ⟨_, h⟩ := h
      obtain ⟨a1, a2⟩ := h _ rfl
      have ej : (10 * i1 + 3).toInt = (10 * K + 3 : Nat) := by rw [zi_add (rk10 hk hK) three32 (by omega) (by omega)]; rfl
      refine ⟨a1, FM_trans (FM_mono f0 (by decide) (by decide)) (by rw [a2]; exact FM_aS hS (by decide)), ?_, ?_⟩
      · rw [a2, dR_ne (by decide), hd, et]
      · rw [a2, gRr_aS hS ej (by omega), eg]
        rfl
    · rw [if_neg c] at h
      rw [Int32.le_iff_toInt_le, hm, h2] at c
      have h := use_p hS h (fun _ _ z => F234 (j := t) hS hk h2 hK (by omega) z)
      rw [eg] at h
      have who : (gRr w0 (10 * K + 4 + t)).toInt = (rWho (gRr w0) K t : Nat) := by
        have z := hR.2.2.2.2.2.2.2.1 t (by omega)
        unfold rWho
        omega
      have wP := WR_who hR (i := t) (by omega)
      have nP := WR_nx hR (i := t) (by omega)
      have hDt := WD_stD hP hR hD t (by omega)
      have i21 : (i2 + 1).toInt = (t + 1 : Nat) := by rw [zi_inc (n := 10) (by omega) (by omega), h2]; rfl
      obtain ⟨x7, h7, h⟩ := use_z hS h (fun _ _ z => F235 hS hk h2 hK (by rw [eg]; exact hR) (by rw [eg]; omega) z)
      rw [eg] at h7
      obtain ⟨_, _, h⟩ := h
      have ei : (9 * gRr w0 (10 * K + 4 + t) + x7).toInt = (rCl (gRr w0) K t : Nat) := by
        rw [zi_add (zi_mul nine32 who (by omega) (by omega)) h7 (by omega) (by omega)]
        unfold rCl
        omega
      have c81 : rCl (gRr w0) K t < 81 := by unfold rCl; omega
      have ed : aG w 152 (9 * gRr w0 (10 * K + 4 + t) + x7) = stD (gRr w0) K t (dR w0) (rCl (gRr w0) K t) := by
        rw [aG_n (m := rCl (gRr w0) K t) ei, ← hd]
        rfl
      rw [ed, en] at h
      by_cases c2 : gRr w0 (10 * K + 1) ≤ stD (gRr w0) K t (dR w0) (rCl (gRr w0) K t)
      · rw [if_pos c2] at h
        rw [Int32.le_iff_toInt_le] at c2
        obtain ⟨_, _, _, h⟩ := h
        have h := h _ rfl
        refine ih _ (t + 1) (i2 + 1) _ (FM_trans f0 (FM_aS hS (by decide))) hS0 i21 (by omega) ?_ h
        rw [dR_aS hS ei c81, hd]
        show _ = updc (stD (gRr w0) K t (dR w0)) (rCl (gRr w0) K t) (subZ (stD (gRr w0) K t (dR w0) (rCl (gRr w0) K t)) (gRr w0 (10 * K + 1)))
        unfold subZ
        rw [if_neg (by omega)]
      · rw [if_neg c2] at h
        rw [Int32.le_iff_toInt_le] at c2
        obtain ⟨_, h⟩ := h
        have h := h _ rfl
        refine ih _ (t + 1) (i2 + 1) _ (FM_trans f0 (FM_aS hS (by decide))) hS0 i21 (by omega) ?_ h
        rw [dR_aS hS ei c81, hd]
        show _ = updc (stD (gRr w0) K t (dR w0)) (rCl (gRr w0) K t) (subZ (stD (gRr w0) K t (dR w0) (rCl (gRr w0) K t)) (gRr w0 (10 * K + 1)))
        unfold subZ
        rw [if_pos (by omega)]
theorem F237 (hS : SK w) (hP : P ≤ 9) (hk : p1.toInt = K) (hK : K ≤ 38) (hR : WRg P (gRr w) K) (hD : WD P (dR w)) (h : PS X k 237 0 [.ref 147, .int p1, pm_dead, pm_dead] [] w r w') : r = none ∧ FM [] [152, 153] w w' ∧ dR w' = stD (gRr w) K (rMy (gRr w) K) (dR w) ∧ gRr w' = stG (gRr w) K := by
  cases k with
  | zero => exact (PS_0 h).elim
  | succ k => exact F237_2 hP hk hK hR hD _ w 0 _ _ (FM_refl hS) hS z32 (Nat.zero_le _) rfl (U237_0 hS h)
end GX
end
section
/-! ===== rings struck one by one: who fails, months ===== -/
section GY
variable {X : pm_X} {k k2 : Nat} {w0 w w1 w2 w' : pm_W} {r r2 : Option Value} {p p1 p2 p3 p4 p5 f0 p0 f q x y M : Int32} {n i v j m T L u V a N K P t : Nat} {D D' G G1 G2 : Nat → Int32} {b : Bool}
def strk (k : Nat) (s : (Nat → Int32) × (Nat → Int32)) : (Nat → Int32) × (Nat → Int32) := (stD s.2 k (rMy s.2 k) s.1, stG s.2 k)
def flS (c : (Nat → Int32) → Nat → Bool) : Nat → (Nat → Int32) × (Nat → Int32) → (Nat → Int32) × (Nat → Int32)
  | 0, s => s
  | k + 1, s => cond (c (flS c k s).2 k) (strk k (flS c k s)) (flS c k s)
def cF (p : Nat) (G : Nat → Int32) (k : Nat) : Bool := opn G k && inR G k p (rMy G k)
def cM (M : Int32) (G : Nat → Int32) (k : Nat) : Bool := opn G k && decide ((G (10 * k + 2)).toInt < M.toInt)
def WS (P N : Nat) (s : (Nat → Int32) × (Nat → Int32)) : Prop := WD P s.1 ∧ ∀ k, k < N → WRg P s.2 k
theorem WS_strk {s : (Nat → Int32) × (Nat → Int32)} (hP : P ≤ 9) (h : WS P N s) (hk : k < N) : WS P N (strk k s) := ⟨WD_stD hP (h.2 k hk) h.1 _ (Nat.le_refl _), fun m hm => WR_st (h.2 m hm)⟩
theorem WS_flS {c : (Nat → Int32) → Nat → Bool} {s : (Nat → Int32) × (Nat → Int32)} (hP : P ≤ 9) (h : WS P N s) : ∀ n, n ≤ N → WS P N (flS c n s)
  | 0, _ => h
  | n + 1, hn => by
    have z := WS_flS (c := c) hP h n (by omega)
    show WS P N (cond (c (flS c n s).2 n) (strk n (flS c n s)) (flS c n s))
    cases c (flS c n s).2 n with
    | true => exact WS_strk hP z (by omega)
    | false => exact z
theorem flS_RG {c : (Nat → Int32) → Nat → Bool} (hP : P ≤ 9) (h : RG2 N G1 G2) (hW : WS P N (D, G1)) (hc : ∀ G1 G2, RG2 N G1 G2 → ∀ k, k < N → c G2 k = c G1 k) : ∀ n, n ≤ N → (flS c n (D, G2)).1 = (flS c n (D, G1)).1 ∧ RG2 N (flS c n (D, G1)).2 (flS c n (D, G2)).2
  | 0, _ => ⟨rfl, h⟩
  | n + 1, hn => by
    obtain ⟨z1, z2⟩ := flS_RG hP h hW hc n (by omega)
    have hw := WS_flS (c := c) hP hW n (by omega)
    show (cond (c (flS c n (D, G2)).2 n) (strk n (flS c n (D, G2))) (flS c n (D, G2))).1 = (cond (c (flS c n (D, G1)).2 n) (strk n (flS c n (D, G1))) (flS c n (D, G1))).1 ∧ RG2 N (cond (c (flS c n (D, G1)).2 n) (strk n (flS c n (D, G1))) (flS c n (D, G1))).2 (cond (c (flS c n (D, G2)).2 n) (strk n (flS c n (D, G2))) (flS c n (D, G2))).2
    rw [hc _ _ z2 n (by omega)]
    have hR := hw.2 n (by omega)
    have h1 : 1 ≤ rMy (flS c n (D, G1)).2 n := by have := hR.1; unfold rMy; omega
    cases c (flS c n (D, G1)).2 n with
    | true =>
      refine ⟨?_, RG2_stG z2⟩
      show stD (flS c n (D, G2)).2 n (rMy (flS c n (D, G2)).2 n) (flS c n (D, G2)).1 = stD (flS c n (D, G1)).2 n (rMy (flS c n (D, G1)).2 n) (flS c n (D, G1)).1
      rw [RG2_my z2 (by omega), RG2_stD z2 (by omega) h1 _ (Nat.le_refl _), z1]
    | false => exact ⟨z1, z2⟩
theorem cF_RG (h : RG2 N G1 G2) (hk : k < N) : cF m G2 k = cF m G1 k := by
  unfold cF
  rw [opn_RG h hk, RG2_my h hk, inR_RG h hk _ (Nat.le_refl _)]
theorem cM_RG (h : RG2 N G1 G2) (hk : k < N) : cM M G2 k = cM M G1 k := by
  unfold cM
  rw [opn_RG h hk, h k hk 2 (by omega)]
/-- all that one owes or is owed, to the first n -/
def zrL (p : Nat) : Nat → (Nat → Int32) → (Nat → Int32)
  | 0, D => D
  | o + 1, D => updc (updc (zrL p o D) (9 * p + o) 0) (9 * o + p) 0
theorem zrL_q (hm : m < 9) : ∀ n, n ≤ 9 → ∀ q, zrL m n D q = if (q / 9 = m ∧ q % 9 < n) ∨ (q % 9 = m ∧ q / 9 < n) then 0 else D q
  | 0, _, q => by rw [if_neg (by omega)]; rfl
  | n + 1, hn, q => by
    show (if q = 9 * n + m then 0 else (if q = 9 * m + n then 0 else zrL m n D q)) = _
    rw [zrL_q hm n (by omega) q]
    by_cases c1 : q = 9 * n + m
    · rw [if_pos c1, if_pos (by omega)]
    rw [if_neg c1]
    by_cases c2 : q = 9 * m + n
    · rw [if_pos c2, if_pos (by omega)]
    rw [if_neg c2]
    by_cases c3 : (q / 9 = m ∧ q % 9 < n) ∨ (q % 9 = m ∧ q / 9 < n)
    · rw [if_pos c3, if_pos (by omega)]
    · rw [if_neg c3, if_neg (by omega)]
theorem zrL_9 (hP : P ≤ 9) (hm : m < P) (hD : WD P D) (h81 : ∀ q, 81 ≤ q → D q = 0) : zrL m 9 D = zrL m P D := by
  funext q
  rw [zrL_q (by omega) 9 (by omega), zrL_q (by omega) P hP]
  by_cases c1 : (q / 9 = m ∧ q % 9 < P) ∨ (q % 9 = m ∧ q / 9 < P)
  · rw [if_pos c1, if_pos (by omega)]
  · rw [if_neg c1]
    by_cases c2 : (q / 9 = m ∧ q % 9 < 9) ∨ (q % 9 = m ∧ q / 9 < 9)
    · rw [if_pos c2]
      by_cases c3 : q < 81
      · have z := hD.2 (q / 9) (q % 9) (by omega) (by omega) (by omega)
        rw [show 9 * (q / 9) + q % 9 = q by omega] at z
        exact z.symm
      · exact (h81 q (by omega)).symm
    · rw [if_neg c2]
theorem WD_zrL (hm : m < 9) (hD : WD P D) (hn : n ≤ 9) : WD P (zrL m n D) := by
  refine ⟨fun q => ?_, fun x y hx hy hxy => ?_⟩
  · rw [zrL_q hm n hn]
    split
    · decide
    · exact hD.1 q
  · rw [zrL_q hm n hn]
    split
    · rfl
    · exact hD.2 x y hx hy hxy
/-! the class -/
theorem bit_z {S b : Nat} {x y : Int32} (hx : x.toInt = S) (hy : y.toInt = b) (hS : S < 512) (hb : b < 9) : ((x >>> (y &&& 31)) &&& 1) = 0 ↔ S.testBit b = false := by
  have ex := i32_of hx (by omega)
  have ey := i32_of hy (by omega)
  have h : (List.range 512).all (fun S => (List.range 9).all (fun b => decide (((Int32.ofNat S >>> (Int32.ofNat b &&& 31)) &&& 1) = 0) == !S.testBit b)) = true := by decide +kernel
  have h1 := List.all_eq_true.mp h S (List.mem_range.mpr hS)
  have h2 := List.all_eq_true.mp h1 b (List.mem_range.mpr hb)
  have h3 := eq_of_beq h2
  rw [← ex, ← ey] at h3
  cases hh : S.testBit b with
  | true =>
    rw [hh] at h3
    exact ⟨fun z => absurd z (of_decide_eq_false h3), fun z => Bool.noConfusion z⟩
  | false =>
    rw [hh] at h3
    exact ⟨fun _ => rfl, fun _ => of_decide_eq_true h3⟩
theorem F88_4 (ok : okS a = true) (hP : P ≤ 9) (hS : SK w) (hk : p1.toInt = K) (hK : K ≤ 36) (hR : WRg P (gAr w a) K) : ∀ (k t S : Nat) (i2 i3 : Int32), i2.toInt = S → S < 512 → i3.toInt = t → t ≤ rMy (gAr w a) K → (∀ b, b < 9 → S.testBit b = inR (gAr w a) K b t) → PS X k 88 4 [.ref a, .int p1, .int i2, .int i3] [] w r w' → ∃ (z : Int32) (S' : Nat), (z.toInt = S' ∧ S' < 512 ∧ ∀ b, b < 9 → S'.testBit b = inR (gAr w a) K b (rMy (gAr w a) K)) ∧ r = some (.int z) ∧ w' = w := by
  intro k
  have m6 : rMy (gAr w a) K ≤ 6 := by have := hR.2.1; unfold rMy; omega
  have hm : (gAr w a (10 * K)).toInt = (rMy (gAr w a) K : Nat) := by have := hR.1; unfold rMy; omega
  induction k with
  | zero => intro t S i2 i3 h2 hS5 h3 ht hb h; exact (PS_0 h).elim
  | succ k ih =>
    intro t S i2 i3 h2 hS5 h3 ht hb h
    have h := use_p hS (U88_4 hS h) (fun _ _ z => F84 (j := 0) hS ok hk z32 hK (by decide) z)
    rw [Nat.add_zero] at h
    by_cases c : gAr w a (10 * K) ≤ i3
    · rw [if_pos c] at h
      rw [Int32.le_iff_toInt_le, hm, h3] at c
      have et : t = rMy (gAr w a) K := by omega
      rw [et] at hb
      exact ⟨i2, S, ⟨h2, hS5, hb⟩, h.1, h.2⟩
    · rw [if_neg c] at h
      rw [Int32.le_iff_toInt_le, hm, h3] at c
      have h := use_p hS h (fun _ _ z => F84 (j := 4 + t) hS ok hk (by rw [zi_add four32 h3 (by omega) (by omega)]; rfl) hK (by omega) z)
      have who : (gAr w a (10 * K + (4 + t))).toInt = (rWho (gAr w a) K t : Nat) := by
        have z := hR.2.2.2.2.2.2.2.1 t (by omega)
        unfold rWho
        rw [show 10 * K + (4 + t) = 10 * K + 4 + t by omega]
        omega
      have wP := WR_who hR (i := t) (by omega)
      obtain ⟨o1, o2⟩ := bit_o h2 who hS5 (by omega)
      refine ih (t + 1) (S ||| 2 ^ rWho (gAr w a) K t) _ _ o1 o2 (by rw [zi_inc (n := 10) (by omega) (by omega), h3]; rfl) (by omega) (fun b hb9 => ?_) h
      rw [bit_r, hb b hb9]
      rfl
theorem F88 (ok : okS a = true) (hP : P ≤ 9) (hS : SK w) (hk : p1.toInt = K) (hK : K ≤ 36) (hR : WRg P (gAr w a) K) (h : PS X k 88 0 [.ref a, .int p1, pm_dead, pm_dead] [] w r w') : ∃ (z : Int32), (∃ S : Nat, z.toInt = S ∧ S < 512 ∧ ∀ b, b < 9 → S.testBit b = inR (gAr w a) K b (rMy (gAr w a) K)) ∧ r = some (.int z) ∧ w' = w := by
  cases k with
  | zero => exact (PS_0 h).elim
  | succ k =>
    obtain ⟨z, S, z1, z2, z3⟩ := F88_4 ok hP hS hk hK hR _ 0 0 _ _ z32 (by decide) z32 (Nat.zero_le _) (fun b _ => by rw [Nat.zero_testBit]; rfl) (U88_0 hS h)
    exact ⟨z, ⟨S, z1⟩, z2, z3⟩
theorem F89 {S b : Nat} (hS : SK w) (hx : p1.toInt = S) (hy : p2.toInt = b) (hS5 : S < 512) (hb : b < 9) (h : PS X k 89 0 [.int p1, .int p2] [] w r w') : r = some (.int (b2i (S.testBit b))) ∧ w' = w := by
  cases k with
  | zero => exact (PS_0 h).elim
  | succ k =>
    have h := U89_0 hS h
    by_cases c : ((p1 >>> (p2 &&& 31)) &&& 1) = 0
    · rw [if_pos c] at h
      rw [(bit_z hx hy hS5 hb).mp c]
      exact h
    · rw [if_neg c] at h
      have e : S.testBit b = true := by
        cases hh : S.testBit b with
        | true => rfl
        | false => exact absurd ((bit_z hx hy hS5 hb).mpr hh) c
      rw [e]
      exact h
theorem F87 (ok : okS a = true) (hP : P ≤ 9) (hS : SK w) (hk : p1.toInt = K) (hK : K ≤ 36) (hR : WRg P (gAr w a) K) (hm : p2.toInt = m) (hm9 : m < 9) (h : PS X k 87 0 [.ref a, .int p1, .int p2] [] w r w') : r = some (.int (b2i (cF m (gAr w a) K))) ∧ w' = w := by
  cases k with
  | zero => exact (PS_0 h).elim
  | succ k =>
    have h := use_p hS (U87_0 hS h) (fun _ _ z => F83 hS ok hk hK z)
    unfold cF
    cases ho : opn (gAr w a) K with
    | false =>
      rw [ho, if_pos (by decide +kernel)] at h
      exact h
    | true =>
      rw [ho, if_neg (by decide +kernel)] at h
      obtain ⟨z, ⟨S, s1, s2, s3⟩, h⟩ := use_z hS h (fun _ _ z => F88 ok hP hS hk hK hR z)
      have h := use_p hS h (fun _ _ z => F89 hS s1 hm s2 hm9 z)
      rw [s3 m hm9] at h
      show r = some (.int (b2i (true && inR (gAr w a) K m (rMy (gAr w a) K)))) ∧ w' = w
      rw [Bool.true_and]
      cases hi : inR (gAr w a) K m (rMy (gAr w a) K) with
      | false => rw [hi, if_pos (by decide +kernel)] at h; exact h
      | true => rw [hi, if_neg (by decide +kernel)] at h; exact h
/-- the state at a, as functions -/
def sAg (w : pm_W) (a : Nat) : (Nat → Int32) × (Nat → Int32) := (dA w a, gAr w a)
theorem F85s (hS : SK w) (ok : okS a = true) (hP : P ≤ 9) (hk : p1.toInt = K) (hK : K ≤ 36) (hKN : K < N) (hW : WS P N (sAg w a)) (h : PS X k 85 0 [.ref a, .int p1, pm_dead, pm_dead, pm_dead, pm_dead, pm_dead] [] w r w') : r = none ∧ FM [] [a + 6, a + 7] w w' ∧ sAg w' a = strk K (sAg w a) := by
  obtain ⟨z1, z2, z3, z4⟩ := F85 hS ok hP hk hK (hW.2 K hKN) hW.1 h
  refine ⟨z1, z2, ?_⟩
  unfold sAg strk
  rw [z3, z4]
theorem F86_15 (ok : okS a = true) (hP : P ≤ 9) (hN : N ≤ 37) (hW : WS P N (sAg w0 a)) (hm : p1.toInt = m) (hm9 : m < 9) : ∀ (k : Nat) (w : pm_W) (t : Nat) (i2 : Int32), FM [] [a + 6, a + 7] w0 w → (gI w a 2).toInt = N → i2.toInt = t → t ≤ N → sAg w a = flS (cF m) t (sAg w0 a) → PS X k 86 15 [.ref a, .int p1, .int i2] [] w r w' → ∃ (w1 : pm_W) (k' : Nat), FM [] [a + 6, a + 7] w0 w1 ∧ sAg w1 a = flS (cF m) N (sAg w0 a) ∧ PS X k' 86 45 [.ref a, .int p1, .int 0] [] w1 r w' := by
  intro k
  induction k with
  | zero => intro w t i2 f0 g2 h2 ht hs h; exact (PS_0 h).elim
  | succ k ih =>
    intro w t i2 f0 g2 h2 ht hs h
    have hS := f0.2.2.2
    have h := U86_15 hS h
    by_cases c : gI w a 2 ≤ i2
    · rw [if_pos c] at h
      rw [Int32.le_iff_toInt_le, g2, h2] at c
      have et : t = N := by omega
      rw [et] at hs
      exact ⟨w, k, f0, hs, h⟩
    · rw [if_neg c] at h
      rw [Int32.le_iff_toInt_le, g2, h2] at c
      have hWt : WS P N (sAg w a) := by rw [hs]; exact WS_flS hP hW t ht
      have h := use_p hS h (fun _ _ z => F87 ok hP hS h2 (by omega) (hWt.2 t (by omega)) hm hm9 z)
      have i21 : (i2 + 1).toInt = (t + 1 : Nat) := by rw [zi_inc (n := 37) (by omega) (by omega), h2]; rfl
      have eg : cF m (gAr w a) t = cF m (flS (cF m) t (sAg w0 a)).2 t := by rw [← hs]; rfl
      have e1 : flS (cF m) (t + 1) (sAg w0 a) = cond (cF m (gAr w a) t) (strk t (flS (cF m) t (sAg w0 a))) (flS (cF m) t (sAg w0 a)) := by rw [eg]; rfl
      cases hc : cF m (gAr w a) t with
      | false =>
        rw [hc] at e1
        rw [hc, if_pos (by decide +kernel)] at h
        exact ih w (t + 1) (i2 + 1) f0 g2 i21 (by omega) (hs.trans e1.symm) h
      | true =>
        rw [hc] at e1
        rw [hc, if_neg (by decide +kernel)] at h
        obtain ⟨r4, w5, q1, q2⟩ := h
        obtain ⟨a1, a2, a3⟩ := F85s hS ok hP h2 (by omega) (by omega) hWt q1
        refine ih w5 (t + 1) (i2 + 1) (FM_trans f0 a2) (by rw [FM_i a2 (by intro z; cases z)]; exact g2) i21 (by omega) ?_ (q2 a1 a2.2.2.2)
        rw [a3, hs]
        exact e1.symm
theorem F86_45 (ok : okS a = true) (hP : P ≤ 9) (hm : p1.toInt = m) (hmP : m < P) : ∀ (k : Nat) (w : pm_W) (t : Nat) (i2 : Int32), FM [] [a + 6, a + 7] w0 w → (gI w (gR w a 0) 0).toInt = P → i2.toInt = t → t ≤ P → dA w a = zrL m t (dA w0 a) → gAr w a = gAr w0 a → PS X k 86 45 [.ref a, .int p1, .int i2] [] w r w' → r = some (.int 1) ∧ FM [] [a + 6, a + 7] w0 w' ∧ dA w' a = zrL m P (dA w0 a) ∧ gAr w' a = gAr w0 a := by
  intro k
  induction k with
  | zero => intro w t i2 f0 gp h2 ht hd hg h; exact (PS_0 h).elim
  | succ k ih =>
    intro w t i2 f0 gp h2 ht hd hg h
    have hS := f0.2.2.2
    obtain ⟨r3, r4, _⟩ := okS_r hS ok
    have h := U86_45 hS h
    by_cases c : gI w (gR w a 0) 0 ≤ i2
    · rw [if_pos c] at h
      rw [Int32.le_iff_toInt_le, gp, h2] at c
      obtain ⟨h1, h2'⟩ := h
      subst w'
      have et : t = P := by omega
      rw [et] at hd
      exact ⟨h1, f0, hd, hg⟩
    · rw [if_neg c] at h
      rw [Int32.le_iff_toInt_le, gp, h2] at c
      obtain ⟨c1, hc1, h⟩ := use_z hS h (fun _ _ y => F52n hS hm h2 (by omega) (by omega) y)
      obtain ⟨_, h⟩ := h
      have h := h _ rfl
      rw [r3] at h
      obtain ⟨w4, e4⟩ : ∃ w4, w4 = aS w (a + 6) c1 0 := ⟨_, rfl⟩
      rw [← e4] at h
      have f4 : FM [] [a + 6, a + 7] w w4 := by rw [e4]; exact FM_aS hS (by simp)
      have S4 := f4.2.2.2
      have d4 : dA w4 a = updc (dA w a) (9 * m + t) 0 := by rw [e4]; exact dA_aS hS ok hc1 (by omega)
      have g4 : gAr w4 a = gAr w a := by rw [e4]; exact gAr_ne (by omega)
      obtain ⟨c2, hc2, h⟩ := use_z S4 h (fun _ _ y => F52n S4 h2 hm (by omega) (by omega) y)
      obtain ⟨_, h⟩ := h
      have h := h _ rfl
      rw [(okS_r S4 ok).1] at h
      have f8 : FM [] [a + 6, a + 7] w4 (aS w4 (a + 6) c2 0) := FM_aS S4 (by simp)
      refine ih _ (t + 1) (i2 + 1) (FM_trans f0 (FM_trans f4 f8)) ?_ (by rw [zi_inc (n := 37) (by omega) (by omega), h2]; rfl) (by omega) ?_ ?_ h
      · rw [FM_r f8 (by intro z; cases z), FM_r f4 (by intro z; cases z), FM_i f8 (by intro z; cases z), FM_i f4 (by intro z; cases z)]
        exact gp
      · rw [dA_aS S4 ok hc2 (by omega), d4, hd]
        rfl
      · rw [gAr_ne (by omega), g4]
        exact hg
/-- one fails -/
theorem F86 (hS : SK w) (ok : okS a = true) (hP : P ≤ 9) (hN : N ≤ 37) (hW : WS P N (sAg w a)) (hP0 : (gI w (gR w a 0) 0).toInt = P) (hN0 : (gI w a 2).toInt = N) (hm : p1.toInt = m) (h : PS X k 86 0 [.ref a, .int p1, pm_dead] [] w r w') : FM [] [a + 6, a + 7] w w' ∧ ((P ≤ m ∧ r = some (.int 0) ∧ w' = w) ∨ (m < P ∧ r = some (.int 1) ∧ dA w' a = zrL m P (flS (cF m) N (sAg w a)).1 ∧ gAr w' a = (flS (cF m) N (sAg w a)).2)) := by
  cases k with
  | zero => exact (PS_0 h).elim
  | succ k =>
    have h := use_p hS (U86_0 hS h) (fun _ _ z => F61 hS hP0 z)
    by_cases c : 0 ≤ p1.toInt ∧ p1.toInt < P
    · have h := ifb_t c h
      obtain ⟨w1, k', a1, a2, h⟩ := F86_15 ok hP hN hW hm (by omega) _ w 0 0 (FM_refl hS) hN0 z32 (Nat.zero_le _) rfl h
      obtain ⟨b1, b2, b3, b4⟩ := F86_45 (w0 := w1) ok hP hm (by omega) _ w1 0 0 (FM_refl a1.2.2.2) (by rw [FM_r a1 (by intro z; cases z), FM_i a1 (by intro z; cases z)]; exact hP0) z32 (Nat.zero_le _) rfl rfl h
      refine ⟨FM_trans a1 b2, Or.inr ⟨by omega, b1, ?_, ?_⟩⟩
      · rw [b3, ← a2]
        rfl
      · rw [b4, ← a2]
        rfl
    · have h := ifb_f c h
      obtain ⟨h1, h2⟩ := h
      subst w'
      exact ⟨FM_refl hS, Or.inl ⟨by omega, h1, rfl⟩⟩
theorem F90_12 (ok : okS a = true) (hP : P ≤ 9) (hN : N ≤ 37) (hW : WS P N (sAg w0 a)) (hM0 : gI w0 a 1 = M) : ∀ (k : Nat) (w : pm_W) (t : Nat) (i2 : Int32), FM [] [a + 6, a + 7] w0 w → (gI w a 2).toInt = N → i2.toInt = t → t ≤ N → sAg w a = flS (cM M) t (sAg w0 a) → PS X k 90 12 [.ref a, .int i2] [] w r w' → r = some (.int 1) ∧ FM [] [a + 6, a + 7] w0 w' ∧ sAg w' a = flS (cM M) N (sAg w0 a) := by
  intro k
  induction k with
  | zero => intro w t i2 f0 g2 h2 ht hs h; exact (PS_0 h).elim
  | succ k ih =>
    intro w t i2 f0 g2 h2 ht hs h
    have hS := f0.2.2.2
    have h := U90_12 hS h
    by_cases c : gI w a 2 ≤ i2
    · rw [if_pos c] at h
      rw [Int32.le_iff_toInt_le, g2, h2] at c
      obtain ⟨h1, h2'⟩ := h
      subst w'
      have et : t = N := by omega
      rw [et] at hs
      exact ⟨h1, f0, hs⟩
    · rw [if_neg c] at h
      rw [Int32.le_iff_toInt_le, g2, h2] at c
      have hWt : WS P N (sAg w a) := by rw [hs]; exact WS_flS hP hW t ht
      have h := use_p hS h (fun _ _ z => F83 hS ok h2 (by omega) z)
      have i21 : (i2 + 1).toInt = (t + 1 : Nat) := by rw [zi_inc (n := 37) (by omega) (by omega), h2]; rfl
      have eg : cM M (gAr w a) t = cM M (flS (cM M) t (sAg w0 a)).2 t := by rw [← hs]; rfl
      have e1 : flS (cM M) (t + 1) (sAg w0 a) = cond (cM M (gAr w a) t) (strk t (flS (cM M) t (sAg w0 a))) (flS (cM M) t (sAg w0 a)) := by rw [eg]; rfl
      have ec : cM M (gAr w a) t = (opn (gAr w a) t && decide ((gAr w a (10 * t + 2)).toInt < M.toInt)) := rfl
      cases ho : opn (gAr w a) t with
      | false =>
        rw [ho] at ec
        rw [ec] at e1
        rw [ho, if_pos (by decide +kernel)] at h
        exact ih w (t + 1) (i2 + 1) f0 g2 i21 (by omega) (hs.trans e1.symm) h
      | true =>
        rw [ho, Bool.true_and] at ec
        rw [ho, if_neg (by decide +kernel)] at h
        have h := use_p hS h (fun _ _ z => F84 (j := 2) hS ok h2 two32 (by omega) (by decide) z)
        have gm : gI w a 1 = M := by rw [FM_i f0 (by intro z; cases z)]; exact hM0
        rw [gm] at h
        by_cases c2 : M ≤ gAr w a (10 * t + 2)
        · rw [if_pos c2] at h
          rw [Int32.le_iff_toInt_le] at c2
          rw [ec, decide_eq_false (by omega)] at e1
          exact ih w (t + 1) (i2 + 1) f0 g2 i21 (by omega) (hs.trans e1.symm) h
        · rw [if_neg c2] at h
          rw [Int32.le_iff_toInt_le] at c2
          rw [ec, decide_eq_true (by omega)] at e1
          obtain ⟨r4, w5, q1, q2⟩ := h
          obtain ⟨a1, a2, a3⟩ := F85s hS ok hP h2 (by omega) (by omega) hWt q1
          refine ih w5 (t + 1) (i2 + 1) (FM_trans f0 a2) (by rw [FM_i a2 (by intro z; cases z)]; exact g2) i21 (by omega) ?_ (q2 a1 a2.2.2.2)
          rw [a3, hs]
          exact e1.symm
/-- a month goes by -/
theorem F90 (hS : SK w) (ok : okS a = true) (hP : P ≤ 9) (hN : N ≤ 37) (hW : WS P N (sAg w a)) (hN0 : (gI w a 2).toInt = N) (h : PS X k 90 0 [.ref a, pm_dead] [] w r w') : r = some (.int 1) ∧ FM [(a, 1)] [a + 6, a + 7] w w' ∧ gI w' a 1 = gI w a 1 + 1 ∧ sAg w' a = flS (cM (gI w a 1 + 1)) N (sAg w a) := by
  cases k with
  | zero => exact (PS_0 h).elim
  | succ k =>
    have h := U90_0 hS h _ rfl
    obtain ⟨_, _, _, i1, i2, _⟩ := okS_r hS ok
    obtain ⟨w1, e1⟩ : ∃ w1, w1 = sI w a 1 (gI w a 1 + 1) := ⟨_, rfl⟩
    rw [← e1] at h
    have f1 : FM [(a, 1)] [] w w1 := by rw [e1]; exact FM_sI hS (by simp)
    have g1 : gI w1 a 1 = gI w a 1 + 1 := by rw [e1, gI_sI i1]
    have s1 : sAg w1 a = sAg w a := by
      unfold sAg dA gAr
      rw [e1, gA_sI, gA_sI]
    obtain ⟨z1, z2, z3⟩ := F90_12 (w0 := w1) ok hP hN (by rw [s1]; exact hW) g1 _ w1 0 0 (FM_refl f1.2.2.2) (by rw [FM_i f1 (by simp)]; exact hN0) z32 (Nat.zero_le _) rfl h
    refine ⟨z1, FM_trans (FM_mono f1 (by simp) (by intro x hx; cases hx)) (FM_mono z2 (by intro x hx; cases hx) (by simp)), ?_, ?_⟩
    · rw [FM_i z2 (by intro z; cases z)]; exact g1
    · rw [z3, s1]
/-! the reference -/
def sR2 (w : pm_W) : (Nat → Int32) × (Nat → Int32) := (dR w, gRr w)
theorem F237s (hS : SK w) (hP : P ≤ 9) (hk : p1.toInt = K) (hK : K ≤ 38) (hKN : K < N) (hW : WS P N (sR2 w)) (h : PS X k 237 0 [.ref 147, .int p1, pm_dead, pm_dead] [] w r w') : r = none ∧ FM [] [152, 153] w w' ∧ sR2 w' = strk K (sR2 w) := by
  obtain ⟨z1, z2, z3, z4⟩ := F237 hS hP hk hK (hW.2 K hKN) hW.1 h
  refine ⟨z1, z2, ?_⟩
  unfold sR2 strk
  rw [z3, z4]
theorem F239_5 (hS : SK w) (hP : P ≤ 9) (hk : p1.toInt = K) (hK : K ≤ 38) (hR : WRg P (gRr w) K) (hm : p2.toInt = m) : ∀ (k t : Nat) (i3 i4 : Int32), i3 = b2i (inR (gRr w) K m t) → i4.toInt = t → t ≤ rMy (gRr w) K → PS X k 239 5 [.ref 147, .int p1, .int p2, .int i3, .int i4] [] w r w' → r = some (.int (b2i (inR (gRr w) K m (rMy (gRr w) K)))) ∧ w' = w := by
  intro k
  have m6 : rMy (gRr w) K ≤ 6 := by have := hR.2.1; unfold rMy; omega
  have hmm : (gRr w (10 * K)).toInt = (rMy (gRr w) K : Nat) := by have := hR.1; unfold rMy; omega
  induction k with
  | zero => intro t i3 i4 h3 h4 ht h; exact (PS_0 h).elim
  | succ k ih =>
    intro t i3 i4 h3 h4 ht h
    obtain ⟨_, h⟩ := U239_5 hS h
    have em : aG w 153 (10 * p1) = gRr w (10 * K) := aG_n (m := 10 * K) (rk10 hk hK)
    rw [em] at h
    by_cases c : gRr w (10 * K) ≤ i4
    · rw [if_pos c] at h
      rw [Int32.le_iff_toInt_le, hmm, h4] at c
      have et : t = rMy (gRr w) K := by omega
      rw [h3, et] at h
      exact h
    · rw [if_neg c] at h
      rw [Int32.le_iff_toInt_le, hmm, h4] at c
      have i41 : (i4 + 1).toInt = (t + 1 : Nat) := by rw [zi_inc (n := 37) (by omega) (by omega), h4]; rfl
      have en : inR (gRr w) K m (t + 1) = (inR (gRr w) K m t || decide (rWho (gRr w) K t = m)) := rfl
      cases hi : inR (gRr w) K m t with
      | true =>
        rw [h3, hi, if_neg (by decide +kernel)] at h
        rw [hi, Bool.true_or] at en
        exact ih (t + 1) 1 (i4 + 1) (by rw [en]; rfl) i41 (by omega) h
      | false =>
        rw [h3, hi, if_pos (by decide +kernel)] at h
        rw [hi, Bool.false_or] at en
        have h := use_p hS h (fun _ _ z => F234 (j := t) hS hk h4 hK (by omega) z)
        have who : (gRr w (10 * K + 4 + t)).toInt = (rWho (gRr w) K t : Nat) := by
          have z := hR.2.2.2.2.2.2.2.1 t (by omega)
          unfold rWho
          omega
        by_cases c2 : gRr w (10 * K + 4 + t) = p2
        · rw [if_pos c2] at h
          have e : rWho (gRr w) K t = m := by
            have z := congrArg Int32.toInt c2
            rw [who, hm] at z
            omega
          exact ih (t + 1) 1 (i4 + 1) (by rw [en, decide_eq_true e]; rfl) i41 (by omega) h
        · rw [if_neg c2] at h
          have e : rWho (gRr w) K t ≠ m := fun z => c2 (Int32.toInt_inj.mp (by rw [who, hm, z]))
          exact ih (t + 1) 0 (i4 + 1) (by rw [en, decide_eq_false e]; rfl) i41 (by omega) h
theorem F239 (hS : SK w) (hP : P ≤ 9) (hk : p1.toInt = K) (hK : K ≤ 38) (hR : WRg P (gRr w) K) (hm : p2.toInt = m) (h : PS X k 239 0 [.ref 147, .int p1, .int p2, pm_dead, pm_dead] [] w r w') : r = some (.int (b2i (inR (gRr w) K m (rMy (gRr w) K)))) ∧ w' = w := by
  cases k with
  | zero => exact (PS_0 h).elim
  | succ k => exact F239_5 hS hP hk hK hR hm _ 0 0 0 rfl z32 (Nat.zero_le _) (U239_0 hS h)
theorem F238_2 (hP : P ≤ 9) (hN : N ≤ 37) (hW : WS P N (sR2 w0)) (hm : p1.toInt = m) : ∀ (k : Nat) (w : pm_W) (t : Nat) (i2 : Int32), FM [] [152, 153] w0 w → (gI w 147 14).toInt = N → i2.toInt = t → t ≤ N → sR2 w = flS (cF m) t (sR2 w0) → PS X k 238 2 [.ref 147, .int p1, .int i2] [] w r w' → ∃ (w1 : pm_W) (k' : Nat), FM [] [152, 153] w0 w1 ∧ sR2 w1 = flS (cF m) N (sR2 w0) ∧ PS X k' 238 40 [.ref 147, .int p1, .int 0] [] w1 r w' := by
  intro k
  induction k with
  | zero => intro w t i2 f0 g2 h2 ht hs h; exact (PS_0 h).elim
  | succ k ih =>
    intro w t i2 f0 g2 h2 ht hs h
    have hS := f0.2.2.2
    have h := U238_2 hS h
    by_cases c : gI w 147 14 ≤ i2
    · rw [if_pos c] at h
      rw [Int32.le_iff_toInt_le, g2, h2] at c
      have et : t = N := by omega
      rw [et] at hs
      exact ⟨w, k, f0, hs, h⟩
    · rw [if_neg c] at h
      rw [Int32.le_iff_toInt_le, g2, h2] at c
      have hWt : WS P N (sR2 w) := by rw [hs]; exact WS_flS hP hW t ht
      have h := use_p hS h (fun _ _ z => F236 hS h2 (by omega) z)
      have i21 : (i2 + 1).toInt = (t + 1 : Nat) := by rw [zi_inc (n := 37) (by omega) (by omega), h2]; rfl
      have eg : cF m (gRr w) t = cF m (flS (cF m) t (sR2 w0)).2 t := by rw [← hs]; rfl
      have e1 : flS (cF m) (t + 1) (sR2 w0) = cond (cF m (gRr w) t) (strk t (flS (cF m) t (sR2 w0))) (flS (cF m) t (sR2 w0)) := by rw [eg]; rfl
      have ec : cF m (gRr w) t = (opn (gRr w) t && inR (gRr w) t m (rMy (gRr w) t)) := rfl
      cases ho : opn (gRr w) t with
      | false =>
        rw [ho] at ec
        rw [ec] at e1
        rw [ho, if_pos (by decide +kernel)] at h
        exact ih w (t + 1) (i2 + 1) f0 g2 i21 (by omega) (hs.trans e1.symm) h
      | true =>
        rw [ho, Bool.true_and] at ec
        rw [ho, if_neg (by decide +kernel)] at h
        have h := use_p hS h (fun _ _ z => F239 hS hP h2 (by omega) (hWt.2 t (by omega)) hm z)
        cases hi : inR (gRr w) t m (rMy (gRr w) t) with
        | false =>
          rw [hi] at ec
          rw [ec] at e1
          rw [hi, if_pos (by decide +kernel)] at h
          exact ih w (t + 1) (i2 + 1) f0 g2 i21 (by omega) (hs.trans e1.symm) h
        | true =>
          rw [hi] at ec
          rw [ec] at e1
          rw [hi, if_neg (by decide +kernel)] at h
          obtain ⟨r4, w5, q1, q2⟩ := h
          obtain ⟨a1, a2, a3⟩ := F237s hS hP h2 (by omega) (by omega) hWt q1
          refine ih w5 (t + 1) (i2 + 1) (FM_trans f0 a2) (by rw [FM_i a2 (by intro z; cases z)]; exact g2) i21 (by omega) ?_ (q2 a1 a2.2.2.2)
          rw [a3, hs]
          exact e1.symm
theorem F238_40 (hm : p1.toInt = m) (hm9 : m < 9) : ∀ (k : Nat) (w : pm_W) (t : Nat) (i2 : Int32), FM [] [152, 153] w0 w → i2.toInt = t → t ≤ 9 → dR w = zrL m t (dR w0) → gRr w = gRr w0 → PS X k 238 40 [.ref 147, .int p1, .int i2] [] w r w' → r = none ∧ FM [] [152, 153] w0 w' ∧ dR w' = zrL m 9 (dR w0) ∧ gRr w' = gRr w0 := by
  intro k
  induction k with
  | zero => intro w t i2 f0 h2 ht hd hg h; exact (PS_0 h).elim
  | succ k ih =>
    intro w t i2 f0 h2 ht hd hg h
    have hS := f0.2.2.2
    have h := U238_40 hS h
    by_cases c : 9 ≤ i2
    · rw [if_pos c] at h
      rw [Int32.le_iff_toInt_le, nine32, h2] at c
      obtain ⟨h1, h2'⟩ := h
      subst w'
      have et : t = 9 := by omega
      rw [et] at hd
      exact ⟨h1, f0, hd, hg⟩
    · rw [if_neg c] at h
      rw [Int32.le_iff_toInt_le, nine32, h2] at c
      obtain ⟨_, h⟩ := h
      obtain ⟨_, h⟩ := h _ rfl
      have h := h _ rfl
      have c1 : (9 * p1 + i2).toInt = (9 * m + t : Nat) := by rw [zi_add (zi_mul nine32 hm (by omega) (by omega)) h2 (by omega) (by omega)]; omega
      have c2 : (9 * i2 + p1).toInt = (9 * t + m : Nat) := by rw [zi_add (zi_mul nine32 h2 (by omega) (by omega)) hm (by omega) (by omega)]; omega
      have f4 : FM [] [152, 153] w (aS w 152 (9 * p1 + i2) 0) := FM_aS hS (by decide)
      have f8 : FM [] [152, 153] (aS w 152 (9 * p1 + i2) 0) (aS (aS w 152 (9 * p1 + i2) 0) 152 (9 * i2 + p1) 0) := FM_aS f4.2.2.2 (by decide)
      refine ih _ (t + 1) (i2 + 1) (FM_trans f0 (FM_trans f4 f8)) (by rw [zi_inc (n := 37) (by omega) (by omega), h2]; rfl) (by omega) ?_ ?_ h
      · rw [dR_aS f4.2.2.2 c2 (by omega), dR_aS hS c1 (by omega), hd]
        rfl
      · rw [gRr_ne (by decide), gRr_ne (by decide)]
        exact hg
theorem F238 (hS : SK w) (hP : P ≤ 9) (hN : N ≤ 37) (hW : WS P N (sR2 w)) (hN0 : (gI w 147 14).toInt = N) (hm : p1.toInt = m) (hm9 : m < 9) (h : PS X k 238 0 [.ref 147, .int p1, pm_dead] [] w r w') : r = none ∧ FM [] [152, 153] w w' ∧ dR w' = zrL m 9 (flS (cF m) N (sR2 w)).1 ∧ gRr w' = (flS (cF m) N (sR2 w)).2 := by
  cases k with
  | zero => exact (PS_0 h).elim
  | succ k =>
    obtain ⟨w1, k', a1, a2, h⟩ := F238_2 hP hN hW hm _ w 0 0 (FM_refl hS) hN0 z32 (Nat.zero_le _) rfl (U238_0 hS h)
    obtain ⟨b1, b2, b3, b4⟩ := F238_40 (w0 := w1) hm hm9 _ w1 0 0 (FM_refl a1.2.2.2) z32 (by decide) rfl rfl h
    refine ⟨b1, FM_trans a1 b2, ?_, ?_⟩
    · rw [b3, ← a2]
      rfl
    · rw [b4, ← a2]
      rfl
theorem F240_12 (hP : P ≤ 9) (hN : N ≤ 37) (hW : WS P N (sR2 w0)) (hM0 : gI w0 147 15 = M) : ∀ (k : Nat) (w : pm_W) (t : Nat) (i2 : Int32), FM [] [152, 153] w0 w → (gI w 147 14).toInt = N → i2.toInt = t → t ≤ N → sR2 w = flS (cM M) t (sR2 w0) → PS X k 240 12 [.ref 147, .int i2] [] w r w' → r = none ∧ FM [] [152, 153] w0 w' ∧ sR2 w' = flS (cM M) N (sR2 w0) := by
  intro k
  induction k with
  | zero => intro w t i2 f0 g2 h2 ht hs h; exact (PS_0 h).elim
  | succ k ih =>
    intro w t i2 f0 g2 h2 ht hs h
    have hS := f0.2.2.2
    have h := U240_12 hS h
    by_cases c : gI w 147 14 ≤ i2
    · rw [if_pos c] at h
      rw [Int32.le_iff_toInt_le, g2, h2] at c
      obtain ⟨h1, h2'⟩ := h
      subst w'
      have et : t = N := by omega
      rw [et] at hs
      exact ⟨h1, f0, hs⟩
    · rw [if_neg c] at h
      rw [Int32.le_iff_toInt_le, g2, h2] at c
      have hWt : WS P N (sR2 w) := by rw [hs]; exact WS_flS hP hW t ht
      have h := use_p hS h (fun _ _ z => F236 hS h2 (by omega) z)
      have i21 : (i2 + 1).toInt = (t + 1 : Nat) := by rw [zi_inc (n := 37) (by omega) (by omega), h2]; rfl
      have eg : cM M (gRr w) t = cM M (flS (cM M) t (sR2 w0)).2 t := by rw [← hs]; rfl
      have e1 : flS (cM M) (t + 1) (sR2 w0) = cond (cM M (gRr w) t) (strk t (flS (cM M) t (sR2 w0))) (flS (cM M) t (sR2 w0)) := by rw [eg]; rfl
      have ec : cM M (gRr w) t = (opn (gRr w) t && decide ((gRr w (10 * t + 2)).toInt < M.toInt)) := rfl
      cases ho : opn (gRr w) t with
      | false =>
        rw [ho] at ec
        rw [ec] at e1
        rw [ho, if_pos (by decide +kernel)] at h
        exact ih w (t + 1) (i2 + 1) f0 g2 i21 (by omega) (hs.trans e1.symm) h
      | true =>
        rw [ho, Bool.true_and] at ec
        rw [ho, if_neg (by decide +kernel)] at h
        have gm : gI w 147 15 = M := by rw [FM_i f0 (by intro z; cases z)]; exact hM0
        obtain ⟨_, h⟩ := h
        have et : aG w 153 (10 * i2 + 2) = gRr w (10 * t + 2) := aG_n (m := 10 * t + 2) (by rw [zi_add (rk10 h2 (by omega)) two32 (by omega) (by omega)]; rfl)
        rw [gm, et] at h
        by_cases c2 : M ≤ gRr w (10 * t + 2)
        · rw [if_pos c2] at h
          rw [Int32.le_iff_toInt_le] at c2
          rw [ec, decide_eq_false (by omega)] at e1
          exact ih w (t + 1) (i2 + 1) f0 g2 i21 (by omega) (hs.trans e1.symm) h
        · rw [if_neg c2] at h
          rw [Int32.le_iff_toInt_le] at c2
          rw [ec, decide_eq_true (by omega)] at e1
          obtain ⟨r4, w5, q1, q2⟩ := h
          obtain ⟨a1, a2, a3⟩ := F237s hS hP h2 (by omega) (by omega) hWt q1
          refine ih w5 (t + 1) (i2 + 1) (FM_trans f0 a2) (by rw [FM_i a2 (by intro z; cases z)]; exact g2) i21 (by omega) ?_ (q2 a1 a2.2.2.2)
          rw [a3, hs]
          exact e1.symm
theorem F240 (hS : SK w) (hP : P ≤ 9) (hN : N ≤ 37) (hW : WS P N (sR2 w)) (hN0 : (gI w 147 14).toInt = N) (h : PS X k 240 0 [.ref 147, pm_dead] [] w r w') : r = none ∧ FM [(147, 15)] [152, 153] w w' ∧ gI w' 147 15 = gI w 147 15 + 1 ∧ sR2 w' = flS (cM (gI w 147 15 + 1)) N (sR2 w) := by
  cases k with
  | zero => exact (PS_0 h).elim
  | succ k =>
    have h := U240_0 hS h _ rfl
    obtain ⟨w1, e1⟩ : ∃ w1, w1 = sI w 147 15 (gI w 147 15 + 1) := ⟨_, rfl⟩
    rw [← e1] at h
    have f1 : FM [(147, 15)] [] w w1 := by rw [e1]; exact FM_sI hS (by decide)
    have g1 : gI w1 147 15 = gI w 147 15 + 1 := by rw [e1, gI_sI (SK_isF hS (by decide +kernel))]
    have s1 : sR2 w1 = sR2 w := by
      unfold sR2 dR gRr
      rw [e1, gA_sI, gA_sI]
    obtain ⟨z1, z2, z3⟩ := F240_12 (w0 := w1) hP hN (by rw [s1]; exact hW) g1 _ w1 0 0 (FM_refl f1.2.2.2) (by rw [FM_i f1 (by decide)]; exact hN0) z32 (Nat.zero_le _) rfl h
    refine ⟨z1, FM_trans (FM_mono f1 (by decide) (by intro x hx; cases hx)) (FM_mono z2 (by intro x hx; cases hx) (by decide)), ?_, ?_⟩
    · rw [FM_i z2 (by intro z; cases z)]; exact g1
    · rw [z3, s1]
end GY
end
section
/-! ===== acts: what each does to a state (for both sides); room, owe, pay ===== -/
section GZ
variable {X : pm_X} {k k2 : Nat} {w0 w w1 w2 w' : pm_W} {r r2 : Option Value} {p p1 p2 p3 p4 p5 f0 p0 f q x y M nn : Int32} {n i v j m T L u a N K P t s : Nat} {D D' G G1 G2 V E : Nat → Int32} {b : Bool}
/-- the room of x to y -/
def rmI (V D : Nat → Int32) (x y : Nat) : Int32 := if x = y then 0 else if 0 < (V (3 + (9 * y + x)) - D (9 * x + y)).toInt then V (3 + (9 * y + x)) - D (9 * x + y) else 0
/-- of an act: who is in its ring, the debts' cells -/
def eWho (E : Nat → Int32) (i : Nat) : Nat := (E (3 + i)).toInt.toNat
def eNx (E : Nat → Int32) (m i : Nat) : Nat := eWho E (if i + 1 < m then i + 1 else 0)
def eCl (E : Nat → Int32) (m i : Nat) : Nat := 9 * eWho E i + eNx E m i
def adD (E : Nat → Int32) (m : Nat) (n : Int32) : Nat → (Nat → Int32) → (Nat → Int32)
  | 0, D => D
  | i + 1, D => updc (adD E m n i D) (eCl E m i) (adD E m n i D (eCl E m i) + n)
/-- the act's ring: m in it, each with room -/
def ERg (E : Nat → Int32) (m : Nat) : Prop := 2 ≤ m ∧ m ≤ 6 ∧ (∀ t, t < m → 0 ≤ (E (3 + t)).toInt ∧ (E (3 + t)).toInt ≤ 8) ∧ (∀ t s, t < s → s < m → (E (3 + t)).toInt ≠ (E (3 + s)).toInt) ∧ ∀ t, m ≤ t → t < 6 → E (3 + t) = -1
def fitO (P : Nat) (V D E : Nat → Int32) (m : Nat) (n : Int32) (i : Nat) : Prop := eWho E i < P ∧ eNx E m i < P ∧ n.toInt ≤ (rmI V D (eWho E i) (eNx E m i)).toInt
def fitS (P : Nat) (V D E : Nat → Int32) (m : Nat) (n : Int32) : Prop := ∀ i, i < m → fitO P V D E m n i
/-- words as they may be -/
def VW (V : Nat → Int32) : Prop := ∀ q, q < 81 → 0 ≤ (V (3 + q)).toInt ∧ (V (3 + q)).toInt ≤ 99
theorem F77n {x y : Nat} (hS : SK w) (ok : okS a = true) (okv : okV v = true) (hv : gR w a 0 = v) (h1 : p1.toInt = x) (h2 : p2.toInt = y) (hx : x < 9) (hy : y < 9) (h : PS X k 77 0 [.ref a, .int p1, .int p2] [] w r w') : r = some (.int (rmI (vcl w v) (dA w a) x y)) ∧ w' = w := by
  cases k with
  | zero => exact (PS_0 h).elim
  | succ k =>
    have h := U77_0 hS h
    unfold rmI
    by_cases c : p1 = p2
    · rw [if_pos c] at h
      have c := congrArg Int32.toInt c
      rw [h1, h2] at c
      rw [if_pos (by omega)]
      exact h
    · rw [if_neg c] at h
      have c : x ≠ y := fun z => c (Int32.toInt_inj.mp (by rw [h1, h2, z]))
      rw [if_neg c]
      obtain ⟨c1, hc1, h⟩ := use_z hS h (fun _ _ z => F52n hS h2 h1 hy hx z)
      obtain ⟨_, h⟩ := h
      obtain ⟨c2, hc2, h⟩ := use_z hS h (fun _ _ z => F52n hS h1 h2 hx hy z)
      obtain ⟨_, h⟩ := h
      obtain ⟨r3, _⟩ := okS_r hS ok
      obtain ⟨g3, _⟩ := okV_r hS okv
      have eV : aG w (gR w (gR w a 0) 3) c1 = vcl w v (3 + (9 * y + x)) := by
        rw [hv, g3, aG_n (m := 9 * y + x) hc1]
        exact (VG hS okv).2.2.2.1 _ (by omega)
      have eD : aG w (gR w a 3) c2 = dA w a (9 * x + y) := by
        rw [r3, aG_n (m := 9 * x + y) hc2]
        rfl
      rw [eV, eD, mx0] at h
      exact h
theorem F231n {x y u : Nat} (hS : SK w) (hp : p1.toInt = (610 + 132 * u : Nat)) (hu : u ≤ 1) (h1 : p2.toInt = x) (h2 : p3.toInt = y) (hx : x < 9) (hy : y < 9) (h : PS X k 231 0 [.ref 147, .int p1, .int p2, .int p3, pm_dead] [] w r w') : r = some (.int (rmI (fun k => al w (610 + 132 * u + k)) (dR w) x y)) ∧ w' = w := by
  cases k with
  | zero => exact (PS_0 h).elim
  | succ k =>
    have h := U231_0 hS h
    unfold rmI
    by_cases c : p2 = p3
    · rw [if_pos c] at h
      have c := congrArg Int32.toInt c
      rw [h1, h2] at c
      rw [if_pos (by omega)]
      exact h
    · rw [if_neg c] at h
      have c : x ≠ y := fun z => c (Int32.toInt_inj.mp (by rw [h1, h2, z]))
      rw [if_neg c]
      have F232 : ∀ r1 w2, PS X k 232 0 [.ref 147, .int p2, .int p3] [] w r1 w2 → r1 = some (.int (dR w (9 * x + y))) ∧ w2 = w := by
        intro r1 w2 z
        cases k with
        | zero => exact (PS_0 z).elim
        | succ k =>
          obtain ⟨_, z1, z2⟩ := U232_0 hS z
          rw [aG_n (m := 9 * x + y) (by rw [zi_add (zi_mul nine32 h1 (by omega) (by omega)) h2 (by omega) (by omega)]; omega)] at z1
          exact ⟨z1, z2⟩
      obtain ⟨_, h⟩ := h
      have h := use_p hS h F232
      have eV : aG w 148 (((p1 + 3) + (9 * p3)) + p2) = al w (610 + 132 * u + (3 + (9 * y + x))) := aG_n (m := 610 + 132 * u + (3 + (9 * y + x))) (by rw [zi_add (zi_add (zi_add hp three32 (by omega) (by omega)) (zi_mul nine32 h2 (by omega) (by omega)) (by omega) (by omega)) h1 (by omega) (by omega)]; omega)
      rw [eV] at h
      by_cases c2 : 0 ≤ al w (610 + 132 * u + (3 + (9 * y + x))) - dR w (9 * x + y)
      · rw [if_pos c2] at h
        rw [Int32.le_iff_toInt_le, z32] at c2
        by_cases c3 : 0 < (al w (610 + 132 * u + (3 + (9 * y + x))) - dR w (9 * x + y)).toInt
        · rw [if_pos c3]; exact h
        · rw [if_neg c3]
          have e : al w (610 + 132 * u + (3 + (9 * y + x))) - dR w (9 * x + y) = 0 := Int32.toInt_inj.mp (by rw [z32]; omega)
          rw [e] at h
          exact h
      · rw [if_neg c2] at h
        rw [Int32.le_iff_toInt_le, z32] at c2
        have c3 : ¬ 0 < (al w (610 + 132 * u + (3 + (9 * y + x))) - dR w (9 * x + y)).toInt := by omega
        rw [if_neg c3]
        exact h
theorem F76 {x y : Nat} (hS : SK w) (ok : okS a = true) (okv : okV v = true) (hv : gR w a 0 = v) (hP : (gI w v 0).toInt = P) (hP9 : P ≤ 9) (h1 : p1.toInt = x) (h2 : p2.toInt = y) (hx : x < 9) (hy : y < 9) (h : PS X k 76 0 [.ref a, .int p1, .int p2, .int p3] [] w r w') : ((x < P ∧ y < P ∧ p3.toInt ≤ (rmI (vcl w v) (dA w a) x y).toInt) ∧ r = some (.int 1) ∧ FM [] [a + 6, a + 7] w w' ∧ dA w' a = updc (dA w a) (9 * x + y) (dA w a (9 * x + y) + p3) ∧ gAr w' a = gAr w a) ∨ (¬ (x < P ∧ y < P ∧ p3.toInt ≤ (rmI (vcl w v) (dA w a) x y).toInt) ∧ r = some (.int 0) ∧ w' = w) := by
  cases k with
  | zero => exact (PS_0 h).elim
  | succ k =>
    obtain ⟨r3, _⟩ := okS_r hS ok
    have hP' : (gI w (gR w a 0) 0).toInt = P := by rw [hv]; exact hP
    have h := use_p hS (U76_0 hS h) (fun _ _ z => F61 hS hP' z)
    by_cases c1 : 0 ≤ p1.toInt ∧ p1.toInt < P
    · have h := ifb_t c1 h
      have h := use_p hS h (fun _ _ z => F61 hS hP' z)
      by_cases c2 : 0 ≤ p2.toInt ∧ p2.toInt < P
      · have h := ifb_t c2 h
        have h := use_p hS h (fun _ _ z => F77n hS ok okv hv h1 h2 hx hy z)
        by_cases c3 : p3 ≤ rmI (vcl w v) (dA w a) x y
        · rw [if_pos c3] at h
          rw [Int32.le_iff_toInt_le] at c3
          obtain ⟨c4, hc4, h⟩ := use_z hS h (fun _ _ z => F52n hS h1 h2 hx hy z)
          obtain ⟨_, _, h⟩ := h
          have h := h _ rfl
          rw [r3, aG_n (m := 9 * x + y) hc4] at h
          have ed : (gA w (a + 6)).getD (9 * x + y) 0 = dA w a (9 * x + y) := rfl
          rw [ed] at h
          refine Or.inl ⟨⟨by omega, by omega, c3⟩, h.1, by rw [h.2]; exact FM_aS hS (by simp), ?_, ?_⟩
          · rw [h.2]; exact dA_aS hS ok hc4 (by omega)
          · rw [h.2]; exact gAr_ne (by omega)
        · rw [if_neg c3] at h
          rw [Int32.le_iff_toInt_le] at c3
          exact Or.inr ⟨fun z => c3 z.2.2, h.1, h.2⟩
      · have h := ifb_f c2 h
        exact Or.inr ⟨fun z => by have := z.2.1; omega, h.1, h.2⟩
    · have h := ifb_f c1 h
      exact Or.inr ⟨fun z => by have := z.1; omega, h.1, h.2⟩
theorem F78 {x y : Nat} (hS : SK w) (ok : okS a = true) (okv : okV v = true) (hv : gR w a 0 = v) (hP : (gI w v 0).toInt = P) (hP9 : P ≤ 9) (h1 : p1.toInt = x) (h2 : p2.toInt = y) (hx : x < 9) (hy : y < 9) (h : PS X k 78 0 [.ref a, .int p1, .int p2, .int p3] [] w r w') : ((x < P ∧ y < P ∧ p3.toInt ≤ (dA w a (9 * x + y)).toInt) ∧ r = some (.int 1) ∧ FM [] [a + 6, a + 7] w w' ∧ dA w' a = updc (dA w a) (9 * x + y) (dA w a (9 * x + y) - p3) ∧ gAr w' a = gAr w a) ∨ (¬ (x < P ∧ y < P ∧ p3.toInt ≤ (dA w a (9 * x + y)).toInt) ∧ r = some (.int 0) ∧ w' = w) := by
  cases k with
  | zero => exact (PS_0 h).elim
  | succ k =>
    obtain ⟨r3, _⟩ := okS_r hS ok
    have hP' : (gI w (gR w a 0) 0).toInt = P := by rw [hv]; exact hP
    have h := use_p hS (U78_0 hS h) (fun _ _ z => F61 hS hP' z)
    by_cases c1 : 0 ≤ p1.toInt ∧ p1.toInt < P
    · have h := ifb_t c1 h
      have h := use_p hS h (fun _ _ z => F61 hS hP' z)
      by_cases c2 : 0 ≤ p2.toInt ∧ p2.toInt < P
      · have h := ifb_t c2 h
        obtain ⟨c5, hc5, h⟩ := use_z hS h (fun _ _ z => F52n hS h1 h2 hx hy z)
        have ed : (gA w (a + 6)).getD (9 * x + y) 0 = dA w a (9 * x + y) := rfl
        rw [r3, aG_n (m := 9 * x + y) hc5, ed] at h
        obtain ⟨_, h⟩ := h
        by_cases c3 : p3 ≤ dA w a (9 * x + y)
        · rw [if_pos c3] at h
          rw [Int32.le_iff_toInt_le] at c3
          obtain ⟨c4, hc4, h⟩ := use_z hS h (fun _ _ z => F52n hS h1 h2 hx hy z)
          obtain ⟨_, _, h⟩ := h
          have h := h _ rfl
          rw [aG_n (m := 9 * x + y) hc4, ed] at h
          refine Or.inl ⟨⟨by omega, by omega, c3⟩, h.1, by rw [h.2]; exact FM_aS hS (by simp), ?_, ?_⟩
          · rw [h.2]; exact dA_aS hS ok hc4 (by omega)
          · rw [h.2]; exact gAr_ne (by omega)
        · rw [if_neg c3] at h
          rw [Int32.le_iff_toInt_le] at c3
          exact Or.inr ⟨fun z => c3 z.2.2, h.1, h.2⟩
      · have h := ifb_f c2 h
        exact Or.inr ⟨fun z => by have := z.2.1; omega, h.1, h.2⟩
    · have h := ifb_f c1 h
      exact Or.inr ⟨fun z => by have := z.1; omega, h.1, h.2⟩
theorem F82 (hS : SK w) (ok : okS a = true) (hP : P ≤ 9) (hN : N ≤ 37) (hW : WS P N (sAg w a)) (hN0 : (gI w a 2).toInt = N) (hk : p1.toInt = K) (h : PS X k 82 0 [.ref a, .int p1] [] w r w') : ((K < N ∧ opn (gAr w a) K = true) ∧ r = some (.int 1) ∧ FM [] [a + 6, a + 7] w w' ∧ sAg w' a = strk K (sAg w a)) ∨ (¬ (K < N ∧ opn (gAr w a) K = true) ∧ r = some (.int 0) ∧ w' = w) := by
  cases k with
  | zero => exact (PS_0 h).elim
  | succ k =>
    have h := U82_0 hS h
    rw [if_neg (by rw [Int32.lt_iff_toInt_lt, z32]; omega)] at h
    by_cases c : gI w a 2 ≤ p1
    · rw [if_pos c] at h
      rw [Int32.le_iff_toInt_le, hN0, hk] at c
      exact Or.inr ⟨fun z => by have := z.1; omega, h.1, h.2⟩
    · rw [if_neg c] at h
      rw [Int32.le_iff_toInt_le, hN0, hk] at c
      have h := use_p hS h (fun _ _ z => F83 hS ok hk (by omega) z)
      cases ho : opn (gAr w a) K with
      | false =>
        rw [ho, if_pos (by decide +kernel)] at h
        exact Or.inr ⟨fun z => Bool.noConfusion z.2, h.1, h.2⟩
      | true =>
        rw [ho, if_neg (by decide +kernel)] at h
        obtain ⟨r4, w5, q1, q2⟩ := h
        obtain ⟨a1, a2, a3⟩ := F85s hS ok hP hk (by omega) (by omega) hW q1
        obtain ⟨b1, b2⟩ := q2 a1 a2.2.2.2
        subst w'
        exact Or.inl ⟨⟨by omega, rfl⟩, b1, a2, a3⟩
end GZ
end
section
/-! ===== rings begun ===== -/
section HA
variable {X : pm_X} {k k2 : Nat} {w0 w w1 w2 w' : pm_W} {r r2 : Option Value} {p p1 p2 p3 p4 p5 f0 p0 f q x y M nn : Int32} {n i v j m T L u a c N K P t s : Nat} {D D' G G1 G2 V E : Nat → Int32} {b : Bool}
def rg4 (N : Nat) (m nn till : Int32) (G : Nat → Int32) : Nat → Int32 := updc (updc (updc (updc G (10 * N) m) (10 * N + 1) nn) (10 * N + 2) till) (10 * N + 3) 1
def rgW (E : Nat → Int32) (N : Nat) : Nat → (Nat → Int32) → (Nat → Int32)
  | 0, G => G
  | i + 1, G => updc (rgW E N i G) (10 * N + 4 + i) (E (3 + i))
/-- who is in a ring: m of them, as E says from 3 on, of nine -/
def ECi (w : pm_W) (c m : Nat) (E : Nat → Int32) : Prop := 2 ≤ m ∧ m ≤ 6 ∧ (∀ j, j < m → (gA w c).getD j 0 = E (3 + j)) ∧ ∀ t, t < m → 0 ≤ (E (3 + t)).toInt ∧ (E (3 + t)).toInt ≤ 8
theorem E_who (h : ∀ t, t < m → 0 ≤ (E (3 + t)).toInt ∧ (E (3 + t)).toInt ≤ 8) (ht : t < m) : (E (3 + t)).toInt = (eWho E t : Nat) ∧ eWho E t < 9 := by
  have z := h t ht
  unfold eWho
  omega
theorem E_nx (h : ∀ t, t < m → 0 ≤ (E (3 + t)).toInt ∧ (E (3 + t)).toInt ≤ 8) (ht : t < m) : eNx E m t < 9 := by
  unfold eNx
  by_cases c : t + 1 < m
  · rw [if_pos c]; exact (E_who h c).2
  · rw [if_neg c]; exact (E_who h (by omega)).2
theorem F80_3 (hS : SK w) (ok : okS a = true) (okv : okV v = true) (hv : gR w a 0 = v) (hP : (gI w v 0).toInt = P) (hP9 : P ≤ 9) (hC : ECi w c m E) {i2 i3 : Int32} (h2 : i2.toInt = m) : ∀ (k t : Nat) (i4 : Int32) (u5 : Value), i4.toInt = t → t ≤ m → (∀ i, i < t → fitO P (vcl w v) (dA w a) E m i3 i) → PS X k 80 3 [.ref a, .ref c, .int i2, .int i3, .int i4, u5] [] w r w' → w' = w ∧ ((fitS P (vcl w v) (dA w a) E m i3 ∧ r = some (.int 1)) ∨ (¬ fitS P (vcl w v) (dA w a) E m i3 ∧ r = some (.int 0))) := by
  intro k
  obtain ⟨m2, m6, hE, hr⟩ := hC
  have hP' : (gI w (gR w a 0) 0).toInt = P := by rw [hv]; exact hP
  induction k with
  | zero => intro t i4 u5 h4 ht hf h; exact (PS_0 h).elim
  | succ k ih =>
    intro t i4 u5 h4 ht hf h
    have h := U80_3 hS h
    by_cases c1 : i2 ≤ i4
    · rw [if_pos c1] at h
      rw [Int32.le_iff_toInt_le, h2, h4] at c1
      exact ⟨h.2, Or.inl ⟨fun i hi => hf i (by omega), h.1⟩⟩
    · rw [if_neg c1] at h
      rw [Int32.le_iff_toInt_le, h2, h4] at c1
      have htm : t < m := by omega
      obtain ⟨w1, w9⟩ := E_who hr htm
      have n9 := E_nx hr htm
      have i41 : (i4 + 1).toInt = (t + 1 : Nat) := by rw [zi_inc (n := 10) (by omega) (by omega), h4]; rfl
      have ei : aG w c i4 = E (3 + t) := by rw [aG_n (m := t) h4]; exact hE t htm
      have go : ∀ nx : Int32, nx.toInt = (eNx E m t : Nat) → (∃ (r1 : Option Value) (w2 : pm_W), PS X k 61 0 [.ref (gR w a 0), .int (aG w c i4)] [] w r1 w2 ∧ (∀ x3 : Int32, r1 = some (.int x3) → SK w2 → (if x3 = 0 then (r = some (.int 0) ∧ w' = w2) else (∃ (r4 : Option Value) (w5 : pm_W), PS X k 61 0 [.ref (gR w2 a 0), .int nx] [] w2 r4 w5 ∧ (∀ x6 : Int32, r4 = some (.int x6) → SK w5 → (if x6 = 0 then (r = some (.int 0) ∧ w' = w5) else (aI w5 c i4 ∧ (∃ (r7 : Option Value) (w8 : pm_W), PS X k 77 0 [.ref a, .int (aG w5 c i4), .int nx] [] w5 r7 w8 ∧ (∀ x9 : Int32, r7 = some (.int x9) → SK w8 → (if i3 ≤ x9 then (PS X k 80 3 [.ref a, .ref c, .int i2, .int i3, .int (i4 + 1), .int nx] [] w8 r w') else (r = some (.int 0) ∧ w' = w8))))))))))) → w' = w ∧ ((fitS P (vcl w v) (dA w a) E m i3 ∧ r = some (.int 1)) ∨ (¬ fitS P (vcl w v) (dA w a) E m i3 ∧ r = some (.int 0))) := by
        intro nx hnx z
        have z := use_p hS z (fun _ _ y => F61 hS hP' y)
        rw [ei] at z
        by_cases d1 : 0 ≤ (E (3 + t)).toInt ∧ (E (3 + t)).toInt < P
        · have z := ifb_t d1 z
          have z := use_p hS z (fun _ _ y => F61 hS hP' y)
          by_cases d2 : 0 ≤ nx.toInt ∧ nx.toInt < P
          · have z := ifb_t d2 z
            obtain ⟨_, z⟩ := z
            rw [ei] at z
            have z := use_p hS z (fun _ _ y => F77n hS ok okv hv w1 hnx w9 n9 y)
            by_cases d3 : i3 ≤ rmI (vcl w v) (dA w a) (eWho E t) (eNx E m t)
            · rw [if_pos d3] at z
              rw [Int32.le_iff_toInt_le] at d3
              refine ih (t + 1) (i4 + 1) _ i41 (by omega) (fun i hi => ?_) z
              by_cases e : i = t
              · rw [e]; exact ⟨by omega, by omega, d3⟩
              · exact hf i (by omega)
            · rw [if_neg d3] at z
              rw [Int32.le_iff_toInt_le] at d3
              exact ⟨z.2, Or.inr ⟨fun q => d3 (q t htm).2.2, z.1⟩⟩
          · have z := ifb_f d2 z
            exact ⟨z.2, Or.inr ⟨fun q => by have := (q t htm).2.1; omega, z.1⟩⟩
        · have z := ifb_f d1 z
          exact ⟨z.2, Or.inr ⟨fun q => by have := (q t htm).1; omega, z.1⟩⟩
      by_cases c2 : i2 ≤ i4 + 1
      · rw [if_pos c2] at h
        rw [Int32.le_iff_toInt_le, h2, i41] at c2
        have e0 : aG w c 0 = E (3 + 0) := by rw [aG_n (m := 0) z32]; exact hE 0 (by omega)
        refine go (aG w c 0) ?_ h.2.2
        rw [e0]
        unfold eNx
        rw [if_neg (by omega)]
        exact (E_who hr (by omega)).1
      · rw [if_neg c2] at h
        rw [Int32.le_iff_toInt_le, h2, i41] at c2
        have e1 : aG w c (i4 + 1) = E (3 + (t + 1)) := by rw [aG_n (m := t + 1) i41]; exact hE (t + 1) (by omega)
        refine go (aG w c (i4 + 1)) ?_ h.2.2
        rw [e1]
        unfold eNx
        rw [if_pos (by omega)]
        exact (E_who hr (by omega)).1
theorem F80 (hS : SK w) (ok : okS a = true) (okv : okV v = true) (hv : gR w a 0 = v) (hP : (gI w v 0).toInt = P) (hP9 : P ≤ 9) (hC : ECi w c m E) (h2 : p2.toInt = m) (h : PS X k 80 0 [.ref a, .ref c, .int p2, .int p3, pm_dead, pm_dead] [] w r w') : w' = w ∧ ((fitS P (vcl w v) (dA w a) E m p3 ∧ r = some (.int 1)) ∨ (¬ fitS P (vcl w v) (dA w a) E m p3 ∧ r = some (.int 0))) := by
  cases k with
  | zero => exact (PS_0 h).elim
  | succ k => exact F80_3 hS ok okv hv hP hP9 hC h2 _ 0 0 _ z32 (Nat.zero_le _) (fun i hi => absurd hi (Nat.not_lt_zero i)) (U80_0 hS h)
theorem F81_63 (ok : okS a = true) (hN : N < 37) (hca : c ≠ a + 6 ∧ c ≠ a + 7) {i2 i3 i4 i5 : Int32} (h2 : i2.toInt = m) (h5 : i5.toInt = (10 * N : Nat)) : ∀ (k : Nat) (w : pm_W) (t : Nat) (i6 : Int32), FM [] [a + 6, a + 7] w0 w → ECi w c m E → i6.toInt = t → t ≤ m → (gI w a 2).toInt = N → dA w a = adD E m i3 t D → gAr w a = rgW E N t G → PS X k 81 63 [.ref a, .ref c, .int i2, .int i3, .int i4, .int i5, .int i6] [] w r w' → r = none ∧ FM [(a, 2)] [a + 6, a + 7] w0 w' ∧ (gI w' a 2).toInt = (N + 1 : Nat) ∧ dA w' a = adD E m i3 m D ∧ gAr w' a = rgW E N m G := by
  intro k
  induction k with
  | zero => intro w t i6 f0 hC h6 ht hN0 hd hg h; exact (PS_0 h).elim
  | succ k ih =>
    intro w t i6 f0 hC h6 ht hN0 hd hg h
    have hS := f0.2.2.2
    obtain ⟨r3, r4, _, i1', i2', _⟩ := okS_r hS ok
    have h := U81_63 hS h
    have hC' := hC
    obtain ⟨m2, m6, hE, hr⟩ := hC
    by_cases c1 : i2 ≤ i6
    · rw [if_pos c1] at h
      rw [Int32.le_iff_toInt_le, h2, h6] at c1
      have et : t = m := by omega
      obtain ⟨a1, a2⟩ := h _ rfl
      rw [et] at hd hg
      refine ⟨a1, FM_trans (FM_mono f0 (by intro z hz; cases hz) (by simp)) (by rw [a2]; exact FM_sI hS (by simp)), ?_, ?_, ?_⟩
      · rw [a2, gI_sI i2', zi_add hN0 o32 (by omega) (by omega)]; rfl
      · rw [← hd, a2]; unfold dA; rw [gA_sI]
      · rw [← hg, a2]; unfold gAr; rw [gA_sI]
    · rw [if_neg c1] at h
      rw [Int32.le_iff_toInt_le, h2, h6] at c1
      have htm : t < m := by omega
      obtain ⟨w1, w9⟩ := E_who hr htm
      have n9 := E_nx hr htm
      have i61 : (i6 + 1).toInt = (t + 1 : Nat) := by rw [zi_inc (n := 10) (by omega) (by omega), h6]; rfl
      obtain ⟨_, _, h⟩ := h
      obtain ⟨_, h⟩ := h _ rfl
      have ei : aG w c i6 = E (3 + t) := by rw [aG_n (m := t) h6]; exact hE t htm
      have e5 : ((i5 + 4) + i6).toInt = (10 * N + 4 + t : Nat) := by rw [zi_add (zi_add h5 four32 (by omega) (by omega)) h6 (by omega) (by omega)]; rfl
      rw [r4, ei] at h
      obtain ⟨w2, e2⟩ : ∃ w2, w2 = aS w (a + 7) ((i5 + 4) + i6) (E (3 + t)) := ⟨_, rfl⟩
      rw [← e2] at h
      have f2 : FM [] [a + 6, a + 7] w w2 := by rw [e2]; exact FM_aS hS (by simp)
      have S2 := f2.2.2.2
      have g2 : gAr w2 a = rgW E N (t + 1) G := by rw [e2, gAr_aS hS ok e5 (by omega), hg]; rfl
      have d2 : dA w2 a = dA w a := by rw [e2]; exact dA_ne (by omega)
      have gc : gA w2 c = gA w c := FM_a f2 (by simp; omega)
      have C2 : ECi w2 c m E := ⟨m2, m6, fun j hj => by rw [gc]; exact hE j hj, hr⟩
      have ei2 : aG w2 c i6 = E (3 + t) := by rw [aG_n (m := t) h6, gc]; exact hE t htm
      have r32 : gR w2 a 3 = a + 6 := (okS_r S2 ok).1
      -- the debt
      have go : ∀ nx : Int32, nx.toInt = (eNx E m t : Nat) → (∃ (r3 : Option Value) (w4 : pm_W), PS X k 52 0 [.int (aG w2 c i6), .int nx] [] w2 r3 w4 ∧ (∀ x5 : Int32, r3 = some (.int x5) → SK w4 → (aI w4 (gR w2 a 3) x5 ∧ (aI w4 (gR w2 a 3) x5 ∧ (∀ w6 : pm_W, w6 = aS w4 (gR w2 a 3) x5 ((aG w4 (gR w2 a 3) x5) + i3) → (PS X k 81 63 [.ref a, .ref c, .int i2, .int i3, .int i4, .int i5, .int (i6 + 1)] [] w6 r w')))))) → r = none ∧ FM [(a, 2)] [a + 6, a + 7] w0 w' ∧ (gI w' a 2).toInt = (N + 1 : Nat) ∧ dA w' a = adD E m i3 m D ∧ gAr w' a = rgW E N m G := by
        intro nx hnx z
        rw [ei2] at z
        obtain ⟨c4, hc4, z⟩ := use_z S2 z (fun _ _ y => F52n S2 w1 hnx w9 n9 y)
        obtain ⟨_, _, z⟩ := z
        have z := z _ rfl
        have c81 : eCl E m t < 81 := by unfold eCl; omega
        have hc4 : c4.toInt = (eCl E m t : Nat) := hc4
        rw [r32, aG_n (m := eCl E m t) hc4] at z
        have ed : (gA w2 (a + 6)).getD (eCl E m t) 0 = adD E m i3 t D (eCl E m t) := by
          rw [← hd, ← d2]
          rfl
        rw [ed] at z
        have f6 : FM [] [a + 6, a + 7] w2 (aS w2 (a + 6) c4 (adD E m i3 t D (eCl E m t) + i3)) := FM_aS S2 (by simp)
        have gc6 : gA (aS w2 (a + 6) c4 (adD E m i3 t D (eCl E m t) + i3)) c = gA w2 c := FM_a f6 (by simp; omega)
        refine ih _ (t + 1) (i6 + 1) (FM_trans f0 (FM_trans f2 f6)) ⟨m2, m6, fun j hj => by rw [gc6, gc]; exact hE j hj, hr⟩ i61 (by omega) ?_ ?_ ?_ z
        · rw [FM_i f6 (by intro z; cases z), FM_i f2 (by intro z; cases z)]; exact hN0
        · rw [dA_aS S2 ok hc4 c81, d2, hd]; rfl
        · rw [gAr_ne (by omega), g2]
      by_cases c2 : i2 ≤ i6 + 1
      · rw [if_pos c2] at h
        rw [Int32.le_iff_toInt_le, h2, i61] at c2
        have e0 : aG w2 c 0 = E (3 + 0) := by rw [aG_n (m := 0) z32, gc]; exact hE 0 (by omega)
        refine go (aG w2 c 0) ?_ h.2
        rw [e0]
        unfold eNx
        rw [if_neg (by omega)]
        exact (E_who hr (by omega)).1
      · rw [if_neg c2] at h
        rw [Int32.le_iff_toInt_le, h2, i61] at c2
        have e1 : aG w2 c (i6 + 1) = E (3 + (t + 1)) := by rw [aG_n (m := t + 1) i61, gc]; exact hE (t + 1) (by omega)
        refine go (aG w2 c (i6 + 1)) ?_ h.2
        rw [e1]
        unfold eNx
        rw [if_pos (by omega)]
        exact (E_who hr (by omega)).1
theorem F81 (hS : SK w) (ok : okS a = true) (hN : N < 37) (hN0 : (gI w a 2).toInt = N) (hca : c ≠ a + 6 ∧ c ≠ a + 7) (hC : ECi w c m E) (h2 : p2.toInt = m) (h : PS X k 81 0 [.ref a, .ref c, .int p2, .int p3, .int p4, pm_dead, pm_dead] [] w r w') : r = none ∧ FM [(a, 2)] [a + 6, a + 7] w w' ∧ (gI w' a 2).toInt = (N + 1 : Nat) ∧ dA w' a = adD E m p3 m (dA w a) ∧ gAr w' a = rgW E N m (rg4 N p2 p3 p4 (gAr w a)) := by
  cases k with
  | zero => exact (PS_0 h).elim
  | succ k =>
    have h := U81_0 hS h
    rw [if_pos (by rw [Int32.lt_iff_toInt_lt, hN0, show (37 : Int32).toInt = 37 from by decide +kernel]; omega)] at h
    have b0 : (gI w a 2 * 10).toInt = (10 * N : Nat) := by rw [zi_mul hN0 e10i (by omega) (by omega)]; omega
    have b00 : (gI w a 2 * 10 + 0).toInt = (10 * N : Nat) := by rw [zi_add b0 z32 (by omega) (by omega)]; omega
    have b1 : (gI w a 2 * 10 + 1).toInt = (10 * N + 1 : Nat) := by rw [zi_add b0 o32 (by omega) (by omega)]; rfl
    have b2 : (gI w a 2 * 10 + 2).toInt = (10 * N + 2 : Nat) := by rw [zi_add b0 two32 (by omega) (by omega)]; rfl
    have b3 : (gI w a 2 * 10 + 3).toInt = (10 * N + 3 : Nat) := by rw [zi_add b0 three32 (by omega) (by omega)]; rfl
    obtain ⟨_, h⟩ := h
    obtain ⟨_, h⟩ := h _ rfl
    obtain ⟨_, h⟩ := h _ rfl
    obtain ⟨_, h⟩ := h _ rfl
    have h := h _ rfl
    have R4 : ∀ w, SK w → gR w a 4 = a + 7 := fun w hS => (okS_r hS ok).2.1
    have S1 : SK (aS w (a + 7) (gI w a 2 * 10 + 0) p2) := SK_aS hS
    have S2 : SK (aS (aS w (a + 7) (gI w a 2 * 10 + 0) p2) (a + 7) (gI w a 2 * 10 + 1) p3) := SK_aS S1
    have S3 : SK (aS (aS (aS w (a + 7) (gI w a 2 * 10 + 0) p2) (a + 7) (gI w a 2 * 10 + 1) p3) (a + 7) (gI w a 2 * 10 + 2) p4) := SK_aS S2
    rw [R4 _ hS, R4 _ S1, R4 _ S2, R4 _ S3] at h
    obtain ⟨w4, e4⟩ : ∃ w4, w4 = aS (aS (aS (aS w (a + 7) (gI w a 2 * 10 + 0) p2) (a + 7) (gI w a 2 * 10 + 1) p3) (a + 7) (gI w a 2 * 10 + 2) p4) (a + 7) (gI w a 2 * 10 + 3) 1 := ⟨_, rfl⟩
    rw [← e4] at h
    have f4 : FM [] [a + 6, a + 7] w w4 := by
      rw [e4]
      exact FM_trans (FM_aS hS (by simp)) (FM_trans (FM_aS S1 (by simp)) (FM_trans (FM_aS S2 (by simp)) (FM_aS S3 (by simp))))
    have g4 : gAr w4 a = rg4 N p2 p3 p4 (gAr w a) := by
      rw [e4, gAr_aS S3 ok b3 (by omega), gAr_aS S2 ok b2 (by omega), gAr_aS S1 ok b1 (by omega), gAr_aS hS ok b00 (by omega)]
      rfl
    have d4 : dA w4 a = dA w a := by
      rw [e4, dA_ne (by omega), dA_ne (by omega), dA_ne (by omega), dA_ne (by omega)]
    obtain ⟨m2, m6, hE, hr⟩ := hC
    have gc : gA w4 c = gA w c := FM_a f4 (by simp; omega)
    have C4 : ECi w4 c m E := ⟨m2, m6, fun j hj => by rw [gc]; exact hE j hj, hr⟩
    obtain ⟨z1, z2, z3, z4, z5⟩ := F81_63 (w0 := w4) (D := dA w a) (G := rg4 N p2 p3 p4 (gAr w a)) ok hN hca h2 b0 _ w4 0 0 (FM_refl f4.2.2.2) C4 z32 (Nat.zero_le _) (by rw [FM_i f4 (by intro z; cases z)]; exact hN0) (by rw [d4]; rfl) (by rw [g4]; rfl) h
    exact ⟨z1, FM_trans (FM_mono f4 (by intro z hz; cases hz) (by simp)) z2, z3, z4, z5⟩
/-- a row's act, by number -/
def eR (w : pm_W) (b i t : Nat) : Int32 := (gA w (b + 1)).getD (9 * i + t) 0
theorem F68n {b : Nat} (hS : SK w) (ok : okR b = true) (hi : p1.toInt = i) (hi30 : i ≤ 29) (ht : p2.toInt = t) (ht9 : t < 9) (h : PS X k 68 0 [.ref b, .int p1, .int p2] [] w r w') : r = some (.int (eR w b i t)) ∧ w' = w := by
  obtain ⟨a1, a2⟩ := F68 hS (okR_r hS ok).1 h
  rw [aG_n (m := 9 * i + t) (by rw [zi_add (zi_mul hi nine32 (by omega) (by omega)) ht (by omega) (by omega)]; omega)] at a1
  exact ⟨a1, a2⟩
end HA
end
section
/-! ===== an act played (the class) ===== -/
section HB
variable {X : pm_X} {k k2 : Nat} {w0 w w1 w2 w' : pm_W} {r r2 : Option Value} {p p1 p2 p3 p4 p5 f0 p0 f q x y M nn : Int32} {n i v j m T L u a c N K P t s b : Nat} {D D' G G1 G2 V E : Nat → Int32}
theorem F79_5 (ok : okS a = true) (okr : okR b = true) (hab : b + 1 ≠ a + 8) (hi : p2.toInt = i) (hi30 : i ≤ 29) (hE : E = eR w0 b i) (hG : ERg E m) : ∀ (k : Nat) (w : pm_W) (t : Nat) (i3 i4 : Int32) (u5 : Value), FM [] [a + 8] w0 w → i4.toInt = t → t ≤ 6 → i3.toInt = (min t m : Nat) → (∀ j, j < min t m → (gA w (a + 8)).getD j 0 = E (3 + j)) → PS X k 79 5 [.ref a, .ref b, .int p2, .int i3, .int i4, u5] [] w r w' → ∃ (w1 : pm_W) (k' : Nat) (i3' : Int32), FM [] [a + 8] w0 w1 ∧ i3'.toInt = m ∧ (∀ j, j < m → (gA w1 (a + 8)).getD j 0 = E (3 + j)) ∧ (∃ (r1 : Option Value) (w2 : pm_W), PS X k' 68 0 [.ref b, .int p2, .int 1] [] w1 r1 w2 ∧ (∀ x3 : Int32, r1 = some (.int x3) → SK w2 → (∃ (r4 : Option Value) (w5 : pm_W), PS X k' 80 0 [.ref a, .ref (gR w2 a 5), .int i3', .int x3, pm_dead, pm_dead] [] w2 r4 w5 ∧ (∀ x6 : Int32, r4 = some (.int x6) → SK w5 → (if x6 = 0 then (r = some (.int 0) ∧ w' = w5) else (∃ (r7 : Option Value) (w8 : pm_W), PS X k' 68 0 [.ref b, .int p2, .int 2] [] w5 r7 w8 ∧ (∀ x9 : Int32, r7 = some (.int x9) → SK w8 → (∃ (r10 : Option Value) (w11 : pm_W), PS X k' 81 0 [.ref a, .ref (gR w5 a 5), .int i3', .int x3, .int x9, pm_dead, pm_dead] [] w8 r10 w11 ∧ (r10 = none → SK w11 → (r = some (.int 1) ∧ w' = w11)))))))))) := by
  intro k
  obtain ⟨m2, m6, hr, hd, hz⟩ := hG
  have m1 : ((-1 : Int32)).toInt = -1 := by decide +kernel
  induction k with
  | zero => intro w t i3 i4 u5 f0 h4 ht h3 hc h; exact (PS_0 h).elim
  | succ k ih =>
    intro w t i3 i4 u5 f0 h4 ht h3 hc h
    have hS := f0.2.2.2
    have h := U79_5 hS h
    have r5 : gR w a 5 = a + 8 := (okS_r hS ok).2.2.1
    by_cases c1 : 6 ≤ i4
    · rw [if_pos c1] at h
      rw [Int32.le_iff_toInt_le, six32, h4] at c1
      have et : min t m = m := by omega
      rw [et] at h3 hc
      exact ⟨w, k, i3, f0, h3, hc, h⟩
    · rw [if_neg c1] at h
      rw [Int32.le_iff_toInt_le, six32, h4] at c1
      have e3t : (3 + i4).toInt = (3 + t : Nat) := by rw [zi_add three32 h4 (by omega) (by omega)]; rfl
      have h := use_p hS h (fun _ _ z => F68n (t := 3 + t) hS okr hi hi30 e3t (by omega) z)
      have eE : eR w b i (3 + t) = E (3 + t) := by
        rw [hE]
        unfold eR
        rw [FM_a f0 (by simp <;> omega)]
      rw [eE] at h
      have i41 : (i4 + 1).toInt = (t + 1 : Nat) := by rw [zi_inc (n := 10) (by omega) (by omega), h4]; rfl
      by_cases c2 : E (3 + t) = -1
      · rw [if_pos c2] at h
        have htm : m ≤ t := by
          by_cases y : m ≤ t
          · exact y
          · have z := hr t (by omega)
            rw [c2, m1] at z
            omega
        refine ih w (t + 1) i3 (i4 + 1) _ f0 i41 (by omega) (by rw [h3]; congr 1; omega) (fun j hj => hc j (by omega)) h
      · rw [if_neg c2] at h
        have htm : t < m := by
          by_cases y : t < m
          · exact y
          · exact absurd (hz t (by omega) (by omega)) c2
        obtain ⟨_, h⟩ := h
        have h := h _ rfl
        rw [r5] at h
        have h3' : i3.toInt = t := by rw [h3]; congr 1; omega
        obtain ⟨_, _, _, _, _, _, _, i8, _, _, l8, _⟩ := okS_r hS ok
        have f2 : FM [] [a + 8] w (aS w (a + 8) i3 (E (3 + t))) := FM_aS hS (by simp)
        refine ih _ (t + 1) (i3 + 1) (i4 + 1) _ (FM_trans f0 f2) i41 (by omega) (by rw [zi_inc (n := 10) (by omega) (by omega), h3']; congr 1; omega) (fun j hj => ?_) h
        rw [gA_aS i8, i_nat h3', getD_set (by omega)]
        by_cases e : j = t
        · rw [if_pos e, e]
        · rw [if_neg e]; exact hc j (by omega)
theorem F79 (hS : SK w) (ok : okS a = true) (okr : okR b = true) (hab : b + 1 < a) (okv : okV v = true) (hva : v + 4 < a) (hv : gR w a 0 = v) (hP : (gI w v 0).toInt = P) (hP9 : P ≤ 9) (hN : N < 37) (hN0 : (gI w a 2).toInt = N) (hi : p2.toInt = i) (hi30 : i ≤ 29) (hG : ERg (eR w b i) m) (h : PS X k 79 0 [.ref a, .ref b, .int p2, pm_dead, pm_dead, pm_dead] [] w r w') : (fitS P (vcl w v) (dA w a) (eR w b i) m (eR w b i 1) ∧ r = some (.int 1) ∧ FM [(a, 2)] [a + 6, a + 7, a + 8] w w' ∧ (gI w' a 2).toInt = (N + 1 : Nat) ∧ dA w' a = adD (eR w b i) m (eR w b i 1) m (dA w a) ∧ gAr w' a = rgW (eR w b i) N m (rg4 N (Int32.ofNat m) (eR w b i 1) (eR w b i 2) (gAr w a))) ∨ (¬ fitS P (vcl w v) (dA w a) (eR w b i) m (eR w b i 1) ∧ r = some (.int 0) ∧ FM [] [a + 8] w w') := by
  cases k with
  | zero => exact (PS_0 h).elim
  | succ k =>
    have h := U79_0 hS h
    obtain ⟨m2, m6, hr, hd, hz⟩ := hG
    obtain ⟨w1, k', i3', f1, h3, hc, h⟩ := F79_5 (w0 := w) (E := eR w b i) ok okr (by omega) hi hi30 rfl ⟨m2, m6, hr, hd, hz⟩ _ w 0 0 0 _ (FM_refl hS) z32 (by decide) (by rw [z32]; rfl) (fun j hj => by omega) h
    have S1 := f1.2.2.2
    have eE : ∀ t, eR w1 b i t = eR w b i t := fun t => by unfold eR; rw [FM_a f1 (by simp <;> omega)]
    have h := use_p S1 h (fun _ _ z => F68n (t := 1) S1 okr hi hi30 o32 (by decide) z)
    rw [eE, (okS_r S1 ok).2.2.1] at h
    have hv1 : gR w1 a 0 = v := by rw [FM_r f1 (by intro z; cases z)]; exact hv
    have hP1 : (gI w1 v 0).toInt = P := by rw [FM_i f1 (by intro z; cases z)]; exact hP
    have ev : vcl w1 v = vcl w v := by
      funext q
      exact vcl_FMv hS f1 okv (by intro z; cases z) (by intro z; cases z) (by intro z; cases z) (by simp <;> omega) (by simp <;> omega) (by simp <;> omega) (by simp <;> omega) q
    have ed : dA w1 a = dA w a := by funext q; unfold dA; rw [FM_a f1 (by simp)]
    have eg : gAr w1 a = gAr w a := by funext q; unfold gAr; rw [FM_a f1 (by simp)]
    obtain ⟨r4, w5, q1, h⟩ := h
    obtain ⟨ew, hf⟩ := F80 S1 ok okv hv1 hP1 hP9 (E := eR w b i) ⟨m2, m6, hc, hr⟩ h3 q1
    subst w5
    rw [ev, ed] at hf
    rcases hf with ⟨y1, y2⟩ | ⟨y1, y2⟩
    · have h := h 1 y2 S1
      rw [if_neg (by decide +kernel)] at h
      have h := use_p S1 h (fun _ _ z => F68n (t := 2) S1 okr hi hi30 two32 (by decide) z)
      rw [eE, (okS_r S1 ok).2.2.1] at h
      obtain ⟨r10, w11, q2, h⟩ := h
      obtain ⟨z1, z2, z3, z4, z5⟩ := F81 S1 ok hN (by rw [FM_i f1 (by intro z; cases z)]; exact hN0) ⟨by omega, by omega⟩ (E := eR w b i) ⟨m2, m6, hc, hr⟩ h3 q2
      obtain ⟨b1, b2⟩ := h z1 z2.2.2.2
      subst w'
      refine Or.inl ⟨y1, b1, FM_trans (FM_mono f1 (by intro z hz; cases hz) (by simp)) (FM_mono z2 (by simp) (by simp)), z3, by rw [z4, ed], ?_⟩
      rw [z5, eg, show i3' = Int32.ofNat m from i32_of h3 (by omega)]
    · have h := h 0 y2 S1
      rw [if_pos rfl] at h
      rw [h.2]
      exact Or.inr ⟨y1, h.1, f1⟩
/-- what an act does: none, or the debts, rings' parts, month, how many rings -/
def AO : Type := Option ((Nat → Int32) × (Nat → Int32) × Int32 × Nat)
/-- an act E, played in a state: o the outcome -/
def ACT (P : Nat) (V E D G : Nat → Int32) (M : Int32) (N : Nat) (o : AO) : Prop := (E 0 = 0 ∧ ∃ x y : Nat, (E 1).toInt = x ∧ (E 2).toInt = y ∧ ((x < P ∧ y < P ∧ (E 3).toInt ≤ (rmI V D x y).toInt ∧ o = some (updc D (9 * x + y) (D (9 * x + y) + E 3), G, M, N)) ∨ (¬ (x < P ∧ y < P ∧ (E 3).toInt ≤ (rmI V D x y).toInt) ∧ o = none))) ∨ (E 0 = 1 ∧ ∃ x y : Nat, (E 1).toInt = x ∧ (E 2).toInt = y ∧ ((x < P ∧ y < P ∧ (E 3).toInt ≤ (D (9 * x + y)).toInt ∧ o = some (updc D (9 * x + y) (D (9 * x + y) - E 3), G, M, N)) ∨ (¬ (x < P ∧ y < P ∧ (E 3).toInt ≤ (D (9 * x + y)).toInt) ∧ o = none))) ∨ (E 0 = 2 ∧ ∃ m : Nat, ERg E m ∧ ((fitS P V D E m (E 1) ∧ o = some (adD E m (E 1) m D, rgW E N m (rg4 N (Int32.ofNat m) (E 1) (E 2) G), M, N + 1)) ∨ (¬ fitS P V D E m (E 1) ∧ o = none))) ∨ (E 0 = 3 ∧ ∃ K : Nat, (E 1).toInt = K ∧ ((K < N ∧ opn G K = true ∧ o = some ((strk K (D, G)).1, (strk K (D, G)).2, M, N)) ∨ (¬ (K < N ∧ opn G K = true) ∧ o = none))) ∨ (E 0 = 4 ∧ ∃ m : Nat, (E 1).toInt = m ∧ ((m < P ∧ o = some (zrL m P (flS (cF m) N (D, G)).1, (flS (cF m) N (D, G)).2, M, N)) ∨ (¬ m < P ∧ o = none))) ∨ (E 0 = 5 ∧ o = some ((flS (cM (M + 1)) N (D, G)).1, (flS (cM (M + 1)) N (D, G)).2, M + 1, N))
/-- the class's state at a is (D, G, M, N), in the village at v -/
def CSt (w : pm_W) (a v P : Nat) (D G : Nat → Int32) (M : Int32) (N : Nat) : Prop := gR w a 0 = v ∧ (gI w v 0).toInt = P ∧ dA w a = D ∧ gAr w a = G ∧ gI w a 1 = M ∧ (gI w a 2).toInt = N
theorem F75 (hS : SK w) (ok : okS a = true) (okr : okR b = true) (hab : b + 1 < a) (okv : okV v = true) (hva : v + 4 < a) (hC : CSt w a v P D G M N) (hP9 : P ≤ 9) (hN : N < 37) (hW : WS P N (D, G)) (hi : p2.toInt = i) (hi30 : i ≤ 29) (hA : VAc (eR w b i)) (h : PS X k 75 0 [.ref a, .ref b, .int p2, pm_dead, pm_dead, pm_dead] [] w r w') : FM [(a, 1), (a, 2)] [a + 6, a + 7, a + 8] w w' ∧ ∃ o : AO, ACT P (vcl w v) (eR w b i) D G M N o ∧ ((o = none ∧ r = some (.int 0)) ∨ (∃ (D' G' : Nat → Int32) (M' : Int32) (N' : Nat), o = some (D', G', M', N') ∧ r = some (.int 1) ∧ CSt w' a v P D' G' M' N')) := by
  obtain ⟨hv, hP, hD, hG, hM, hN0⟩ := hC
  have hWs : WS P N (sAg w a) := by unfold sAg; rw [hD, hG]; exact hW
  have ew : sAg w a = (D, G) := by unfold sAg; rw [hD, hG]
  have e8 : ∀ {z : Int32}, 0 ≤ z.toInt → z.toInt = z.toInt.toNat := fun h => by omega
  cases k with
  | zero => exact (PS_0 h).elim
  | succ k =>
    have h := use_p hS (U75_0 hS h) (fun _ _ z => F68n (t := 1) hS okr hi hi30 o32 (by decide) z)
    have h := use_p hS h (fun _ _ z => F68n (t := 2) hS okr hi hi30 two32 (by decide) z)
    have h := use_p hS h (fun _ _ z => F68n (t := 3) hS okr hi hi30 three32 (by decide) z)
    have h := use_p hS h (fun _ _ z => F68n (t := 0) hS okr hi hi30 z32 (by decide) z)
    -- a state of w' whose village, month, rings' number are as before
    have kp : ∀ {fs : List (Nat × Nat)} {as : List Nat} {D' G' : Nat → Int32}, FM fs as w w' → (a, 0) ∉ fs → (a, 1) ∉ fs → (a, 2) ∉ fs → (v, 0) ∉ fs → dA w' a = D' → gAr w' a = G' → CSt w' a v P D' G' M N := fun fm q0 q1 q2 qv hd hg => ⟨by rw [FM_r fm q0]; exact hv, by rw [FM_i fm qv]; exact hP, hd, hg, by rw [FM_i fm q1]; exact hM, by rw [FM_i fm q2]; exact hN0⟩
    rcases hA with ⟨h01, a1, a2, a3, a4, a5, a6, a7⟩ | ⟨h0, a1, a2, a3, a4, m, m2, m6, b1, b2, b3⟩ | ⟨h0, a1, a2⟩ | ⟨h0, a1, a2⟩ | h0
    · rcases h01 with h0 | h0
      · rw [if_pos h0] at h
        obtain ⟨r13, w14, q1, h⟩ := h
        rcases F76 hS ok okv hv hP hP9 (e8 a1) (e8 a3) (by omega) (by omega) q1 with ⟨y1, y2, y3, y4, y5⟩ | ⟨y1, y2, y3⟩
        · obtain ⟨z1, z2⟩ := h 1 y2 y3.2.2.2
          subst w'
          rw [hD] at y1 y4
          rw [hG] at y5
          refine ⟨FM_mono y3 (by intro z hz; cases hz) (by simp), _, Or.inl ⟨h0, _, _, e8 a1, e8 a3, Or.inl ⟨y1.1, y1.2.1, y1.2.2, rfl⟩⟩, Or.inr ⟨_, _, _, _, rfl, z1, kp y3 (by intro z; cases z) (by intro z; cases z) (by intro z; cases z) (by intro z; cases z) y4 y5⟩⟩
        · subst w14
          obtain ⟨z1, z2⟩ := h 0 y2 hS
          subst w'
          rw [hD] at y1
          exact ⟨FM_refl hS, none, Or.inl ⟨h0, _, _, e8 a1, e8 a3, Or.inr ⟨y1, rfl⟩⟩, Or.inl ⟨rfl, z1⟩⟩
      · rw [if_neg (by rw [h0]; decide +kernel), if_pos h0] at h
        obtain ⟨r13, w14, q1, h⟩ := h
        rcases F78 hS ok okv hv hP hP9 (e8 a1) (e8 a3) (by omega) (by omega) q1 with ⟨y1, y2, y3, y4, y5⟩ | ⟨y1, y2, y3⟩
        · obtain ⟨z1, z2⟩ := h 1 y2 y3.2.2.2
          subst w'
          rw [hD] at y1 y4
          rw [hG] at y5
          refine ⟨FM_mono y3 (by intro z hz; cases hz) (by simp), _, Or.inr (Or.inl ⟨h0, _, _, e8 a1, e8 a3, Or.inl ⟨y1.1, y1.2.1, y1.2.2, rfl⟩⟩), Or.inr ⟨_, _, _, _, rfl, z1, kp y3 (by intro z; cases z) (by intro z; cases z) (by intro z; cases z) (by intro z; cases z) y4 y5⟩⟩
        · subst w14
          obtain ⟨z1, z2⟩ := h 0 y2 hS
          subst w'
          rw [hD] at y1
          exact ⟨FM_refl hS, none, Or.inr (Or.inl ⟨h0, _, _, e8 a1, e8 a3, Or.inr ⟨y1, rfl⟩⟩), Or.inl ⟨rfl, z1⟩⟩
    · rw [if_neg (by rw [h0]; decide +kernel), if_neg (by rw [h0]; decide +kernel), if_pos h0] at h
      have hG' : ERg (eR w b i) m := ⟨m2, m6, b1, b2, b3⟩
      obtain ⟨r13, w14, q1, h⟩ := h
      rcases F79 hS ok okr hab okv hva hv hP hP9 hN hN0 hi hi30 hG' q1 with ⟨y1, y2, y3, y4, y5, y6⟩ | ⟨y1, y2, y3⟩
      · obtain ⟨z1, z2⟩ := h 1 y2 y3.2.2.2
        subst w'
        rw [hD] at y1 y5
        rw [hG] at y6
        refine ⟨FM_mono y3 (by simp) (by simp), _, Or.inr (Or.inr (Or.inl ⟨h0, m, hG', Or.inl ⟨y1, rfl⟩⟩)), Or.inr ⟨_, _, _, _, rfl, z1, by rw [FM_r y3 (by simp)]; exact hv, by rw [FM_i y3 (by simp <;> omega)]; exact hP, y5, y6, by rw [FM_i y3 (by simp)]; exact hM, y4⟩⟩
      · obtain ⟨z1, z2⟩ := h 0 y2 y3.2.2.2
        subst w'
        rw [hD] at y1
        exact ⟨FM_mono y3 (by intro z hz; cases hz) (by simp), none, Or.inr (Or.inr (Or.inl ⟨h0, m, hG', Or.inr ⟨y1, rfl⟩⟩)), Or.inl ⟨rfl, z1⟩⟩
    · rw [if_neg (by rw [h0]; decide +kernel), if_neg (by rw [h0]; decide +kernel), if_neg (by rw [h0]; decide +kernel), if_pos h0] at h
      obtain ⟨r13, w14, q1, h⟩ := h
      rcases F82 hS ok hP9 (by omega) hWs hN0 (e8 a1) q1 with ⟨y1, y2, y3, y4⟩ | ⟨y1, y2, y3⟩
      · obtain ⟨z1, z2⟩ := h 1 y2 y3.2.2.2
        subst w'
        rw [hG] at y1
        rw [ew] at y4
        refine ⟨FM_mono y3 (by intro z hz; cases hz) (by simp), _, Or.inr (Or.inr (Or.inr (Or.inl ⟨h0, _, e8 a1, Or.inl ⟨y1.1, y1.2, rfl⟩⟩))), Or.inr ⟨_, _, _, _, rfl, z1, kp y3 (by intro z; cases z) (by intro z; cases z) (by intro z; cases z) (by intro z; cases z) (congrArg Prod.fst y4) (congrArg Prod.snd y4)⟩⟩
      · subst w14
        obtain ⟨z1, z2⟩ := h 0 y2 hS
        subst w'
        rw [hG] at y1
        exact ⟨FM_refl hS, none, Or.inr (Or.inr (Or.inr (Or.inl ⟨h0, _, e8 a1, Or.inr ⟨y1, rfl⟩⟩))), Or.inl ⟨rfl, z1⟩⟩
    · rw [if_neg (by rw [h0]; decide +kernel), if_neg (by rw [h0]; decide +kernel), if_neg (by rw [h0]; decide +kernel), if_neg (by rw [h0]; decide +kernel), if_pos h0] at h
      obtain ⟨r13, w14, q1, h⟩ := h
      obtain ⟨y0, y⟩ := F86 hS ok hP9 (by omega) hWs (by rw [hv]; exact hP) hN0 (e8 a1) q1
      rcases y with ⟨y1, y2, y3⟩ | ⟨y1, y2, y3, y4⟩
      · subst w14
        obtain ⟨z1, z2⟩ := h 0 y2 hS
        subst w'
        exact ⟨FM_refl hS, none, Or.inr (Or.inr (Or.inr (Or.inr (Or.inl ⟨h0, _, e8 a1, Or.inr ⟨by omega, rfl⟩⟩)))), Or.inl ⟨rfl, z1⟩⟩
      · obtain ⟨z1, z2⟩ := h 1 y2 y0.2.2.2
        subst w'
        rw [ew] at y3 y4
        exact ⟨FM_mono y0 (by intro z hz; cases hz) (by simp), _, Or.inr (Or.inr (Or.inr (Or.inr (Or.inl ⟨h0, _, e8 a1, Or.inl ⟨y1, rfl⟩⟩)))), Or.inr ⟨_, _, _, _, rfl, z1, kp y0 (by intro z; cases z) (by intro z; cases z) (by intro z; cases z) (by intro z; cases z) y3 y4⟩⟩
    · rw [if_neg (by rw [h0]; decide +kernel), if_neg (by rw [h0]; decide +kernel), if_neg (by rw [h0]; decide +kernel), if_neg (by rw [h0]; decide +kernel), if_neg (by rw [h0]; decide +kernel)] at h
      obtain ⟨r13, w14, q1, h⟩ := h
      obtain ⟨y1, y2, y3, y4⟩ := F90 hS ok hP9 (by omega) hWs hN0 q1
      obtain ⟨z1, z2⟩ := h 1 y1 y2.2.2.2
      subst w'
      rw [hM] at y3 y4
      rw [ew] at y4
      refine ⟨FM_mono y2 (by simp) (by simp), _, Or.inr (Or.inr (Or.inr (Or.inr (Or.inr ⟨h0, rfl⟩)))), Or.inr ⟨_, _, _, _, rfl, z1, by rw [FM_r y2 (by simp)]; exact hv, by rw [FM_i y2 (by simp <;> omega)]; exact hP, congrArg Prod.fst y4, congrArg Prod.snd y4, y3, by rw [FM_i y2 (by simp)]; exact hN0⟩⟩
end HB
end
