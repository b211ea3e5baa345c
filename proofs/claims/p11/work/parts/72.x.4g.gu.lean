/-! ===== what is told, asked: fault, village, word, want, act, count ===== -/
section GU
variable {X : pm_X} {k k2 : Nat} {w0 w w1 w2 w' : pm_W} {r r2 : Option Value} {p p1 p2 p3 p4 p5 f0 p0 f q x : Int32} {n i v j m s T L u V : Nat} {a : Nat → Int32}
/-- the ranges of what is told now -/
def MTn (w : pm_W) : Prop := ∀ i, i < 1690 → MT i (al w i).toInt
theorem isI_m (h0 : 0 ≤ x.toInt) (h1 : x.toInt ≤ 2000) : isI p 0 (x - 1) = decide (0 ≤ p.toInt ∧ p.toInt < x.toInt) := by
  unfold isI
  rw [z32, show (x - 1).toInt = x.toInt - 1 from zi_sub rfl o32 (by omega) (by omega)]
  by_cases c : 0 ≤ p.toInt ∧ p.toInt < x.toInt
  · rw [decide_eq_true c, decide_eq_true c.1, decide_eq_true (by omega)]; rfl
  · rw [decide_eq_false c]
    by_cases c1 : 0 ≤ p.toInt
    · rw [decide_eq_false (by omega : ¬ p.toInt ≤ x.toInt - 1), Bool.and_false]
    · rw [decide_eq_false c1]; rfl
theorem F60 (hS : SK w) (hV : (gI w 1 2).toInt = V) (hV2 : V ≤ 2) (h : PS X k 60 0 [.ref 1, .int p1] [] w r w') : w' = w ∧ ((r = some .null ∧ ¬ (0 ≤ p1.toInt ∧ p1.toInt < V)) ∨ (∃ u : Nat, p1.toInt = u ∧ u < V ∧ r = some (.ref (5 + 5 * u)))) := by
  cases k with
  | zero => exact (PS_0 h).elim
  | succ k =>
    have h := U60_0 hS h
    by_cases c : p1 < 0
    · rw [if_pos c] at h
      rw [Int32.lt_iff_toInt_lt, z32] at c
      exact ⟨h.2, Or.inl ⟨h.1, by omega⟩⟩
    · rw [if_neg c] at h
      rw [Int32.lt_iff_toInt_lt, z32] at c
      by_cases c2 : gI w 1 2 ≤ p1
      · rw [if_pos c2] at h
        rw [Int32.le_iff_toInt_le, hV] at c2
        exact ⟨h.2, Or.inl ⟨h.1, by omega⟩⟩
      · rw [if_neg c2] at h
        rw [Int32.le_iff_toInt_le, hV] at c2
        obtain ⟨_, h1, h2⟩ := h
        obtain ⟨u, hu⟩ : ∃ u : Nat, p1.toInt = u := ⟨p1.toInt.toNat, by omega⟩
        refine ⟨h2, Or.inr ⟨u, hu, by omega, ?_⟩⟩
        rw [h1]
        obtain ⟨e1, _, e3, _⟩ := q2e hS
        unfold qG
        rw [e1, e3, i_nat hu]
        have cu : u = 0 ∨ u = 1 := by omega
        rcases cu with rfl | rfl <;> rfl
theorem F67 (hS : SK w) (hV : (gI w 1 3).toInt = V) (hV2 : V ≤ 3) (h : PS X k 67 0 [.ref 1, .int p1] [] w r w') : w' = w ∧ ((r = some .null ∧ ¬ (0 ≤ p1.toInt ∧ p1.toInt < V)) ∨ (∃ u : Nat, p1.toInt = u ∧ u < V ∧ r = some (.ref (15 + 2 * u)))) := by
  cases k with
  | zero => exact (PS_0 h).elim
  | succ k =>
    have h := U67_0 hS h
    by_cases c : p1 < 0
    · rw [if_pos c] at h
      rw [Int32.lt_iff_toInt_lt, z32] at c
      exact ⟨h.2, Or.inl ⟨h.1, by omega⟩⟩
    · rw [if_neg c] at h
      rw [Int32.lt_iff_toInt_lt, z32] at c
      by_cases c2 : gI w 1 3 ≤ p1
      · rw [if_pos c2] at h
        rw [Int32.le_iff_toInt_le, hV] at c2
        exact ⟨h.2, Or.inl ⟨h.1, by omega⟩⟩
      · rw [if_neg c2] at h
        rw [Int32.le_iff_toInt_le, hV] at c2
        obtain ⟨_, h1, h2⟩ := h
        obtain ⟨u, hu⟩ : ∃ u : Nat, p1.toInt = u := ⟨p1.toInt.toNat, by omega⟩
        refine ⟨h2, Or.inr ⟨u, hu, by omega, ?_⟩⟩
        rw [h1]
        obtain ⟨_, e2, _, e4⟩ := q2e hS
        unfold qG
        rw [e2, e4, i_nat hu]
        have cu : u = 0 ∨ u = 1 ∨ u = 2 := by omega
        rcases cu with rfl | rfl | rfl <;> rfl
theorem F61 {P : Nat} (hS : SK w) (hP : (gI w v 0).toInt = P) (h : PS X k 61 0 [.ref v, .int p1] [] w r w') : r = some (.int (b2i (decide (0 ≤ p1.toInt ∧ p1.toInt < P)))) ∧ w' = w := by
  cases k with
  | zero => exact (PS_0 h).elim
  | succ k =>
    have h := U61_0 hS h
    by_cases c : p1 < 0
    · rw [if_pos c] at h
      rw [Int32.lt_iff_toInt_lt, z32] at c
      rw [decide_eq_false (by omega)]
      exact h
    · rw [if_neg c] at h
      rw [Int32.lt_iff_toInt_lt, z32] at c
      by_cases c2 : gI w v 0 ≤ p1
      · rw [if_pos c2] at h
        rw [Int32.le_iff_toInt_le, hP] at c2
        rw [decide_eq_false (by omega)]
        exact h
      · rw [if_neg c2] at h
        rw [Int32.le_iff_toInt_le, hP] at c2
        rw [decide_eq_true (by omega)]
        exact h
theorem F200n {L : Nat} (hS : SK w) (hp : p1.toInt = m) (hL : (al w m).toInt = L) (hL2 : L ≤ 2000) (h : PS X k 200 0 [.ref 147, .int p1, .int p2] [] w r w') : r = some (.int (b2i (decide (0 ≤ p2.toInt ∧ p2.toInt < L)))) ∧ w' = w := by
  cases k with
  | zero => exact (PS_0 h).elim
  | succ k =>
    obtain ⟨_, h⟩ := U200_0 hS h
    rw [aG_n (m := m) hp] at h
    have z := use_p hS h (fun _ _ z => F199 hS z)
    have e : (gA w 148).getD m 0 = al w m := rfl
    rw [e, isI_m (by omega) (by omega), hL] at z
    exact z
theorem F221n {L : Nat} (hS : SK w) (hp : p1.toInt = m) (hL : (al w m).toInt = L) (hL2 : L ≤ 2000) (h : PS X k 221 0 [.ref 147, .int p1, .int p2] [] w r w') : r = some (.int (b2i (decide (0 ≤ p2.toInt ∧ p2.toInt < L)))) ∧ w' = w := by
  cases k with
  | zero => exact (PS_0 h).elim
  | succ k =>
    obtain ⟨_, h⟩ := U221_0 hS h
    rw [aG_n (m := m) hp] at h
    have z := use_p hS h (fun _ _ z => F199 hS z)
    have e : (gA w 148).getD m 0 = al w m := rfl
    rw [e, isI_m (by omega) (by omega), hL] at z
    exact z
theorem F217v (hS : SK w) (hu : p2.toInt = u) (hu2 : u ≤ 1) (h : PS X k 217 0 [.int 0, .int p2] [] w r w') : r = some (.int (610 + 132 * p2)) ∧ w' = w := by
  cases k with
  | zero => exact (PS_0 h).elim
  | succ k =>
    have h := U217_0 hS h
    rw [if_pos rfl] at h
    exact h
theorem F217r (hS : SK w) (h : PS X k 217 0 [.int 1, .int p2] [] w r w') : r = some (.int (874 + 272 * p2)) ∧ w' = w := by
  cases k with
  | zero => exact (PS_0 h).elim
  | succ k =>
    have h := U217_0 hS h
    rw [if_neg (by decide +kernel)] at h
    exact h
theorem plV (hu : p2.toInt = u) (hu2 : u ≤ 1) : (610 + 132 * p2).toInt = (610 + 132 * u : Nat) := by
  rw [zi_add (show (610 : Int32).toInt = 610 from by decide +kernel) (zi_mul (show (132 : Int32).toInt = 132 from by decide +kernel) hu (by omega) (by omega)) (by omega) (by omega)]
  omega
theorem plR (hu : p2.toInt = u) (hu2 : u ≤ 2) : (874 + 272 * p2).toInt = (874 + 272 * u : Nat) := by
  rw [zi_add (show (874 : Int32).toInt = 874 from by decide +kernel) (zi_mul (show (272 : Int32).toInt = 272 from by decide +kernel) hu (by omega) (by omega)) (by omega) (by omega)]
  omega
theorem okV_n (h : u ≤ 1) : okV (5 + 5 * u) = true := by
  have c : u = 0 ∨ u = 1 := by omega
  rcases c with rfl | rfl <;> decide +kernel
theorem okR_n (h : u ≤ 2) : okR (15 + 2 * u) = true := by
  have c : u = 0 ∨ u = 1 ∨ u = 2 := by omega
  rcases c with rfl | rfl | rfl <;> decide +kernel
/-- a village's parts, as its cells -/
theorem VG (hS : SK w) (ok : okV v = true) : gI w v 0 = vcl w v 0 ∧ gI w v 2 = vcl w v 1 ∧ gI w v 1 = vcl w v 2 ∧ (∀ q, q < 81 → (gA w (v + 1)).getD q 0 = vcl w v (3 + q)) ∧ (∀ q, q < 9 → (gA w (v + 2)).getD q 0 = vcl w v (84 + q)) ∧ (∀ q, q < 9 → (gA w (v + 3)).getD q 0 = vcl w v (93 + q)) ∧ (∀ q, q < 28 → (gA w (v + 4)).getD q 0 = vcl w v (102 + q)) := by
  refine ⟨?_, ?_, ?_, fun q hq => ?_, fun q hq => ?_, fun q hq => ?_, fun q hq => ?_⟩
  · rw [vcl_ok hS ok, if_pos rfl]
  · rw [vcl_ok hS ok, if_neg (by decide), if_pos rfl]
  · rw [vcl_ok hS ok, if_neg (by decide), if_neg (by decide), if_pos rfl]
  · rw [vcl_ok hS ok, if_neg (by omega), if_neg (by omega), if_neg (by omega), if_pos (by omega), show 3 + q - 3 = q by omega]
  · rw [vcl_ok hS ok, if_neg (by omega), if_neg (by omega), if_neg (by omega), if_neg (by omega), if_pos (by omega), show 84 + q - 84 = q by omega]
  · rw [vcl_ok hS ok, if_neg (by omega), if_neg (by omega), if_neg (by omega), if_neg (by omega), if_neg (by omega), if_pos (by omega), show 93 + q - 93 = q by omega]
  · rw [vcl_ok hS ok, if_neg (by omega), if_neg (by omega), if_neg (by omega), if_neg (by omega), if_neg (by omega), if_neg (by omega), if_pos (by omega), show 102 + q - 102 = q by omega]
/-- a village told now: its parts are the reference's cells -/
theorem VT (hS : SK w) (hT : TE w 1 (al w)) (hu : u < (al w 0).toInt.toNat) : u ≤ 1 ∧ gI w (5 + 5 * u) 0 = al w (610 + 132 * u) ∧ gI w (5 + 5 * u) 2 = al w (611 + 132 * u) ∧ gI w (5 + 5 * u) 1 = al w (612 + 132 * u) ∧ (∀ q, q < 81 → (gA w (6 + 5 * u)).getD q 0 = al w (613 + 132 * u + q)) ∧ (∀ q, q < 9 → (gA w (7 + 5 * u)).getD q 0 = al w (694 + 132 * u + q)) ∧ (∀ q, q < 9 → (gA w (8 + 5 * u)).getD q 0 = al w (703 + 132 * u + q)) ∧ (∀ q, q < 28 → (gA w (9 + 5 * u)).getD q 0 = al w (712 + 132 * u + q)) := by
  obtain ⟨⟨r1, r2, _⟩, t1, t2, t3, t4, t5, t6, t7, t8⟩ := hT
  have h1 : u ≤ 1 := by omega
  obtain ⟨g0, g1, g2, g3, g4, g5, g6⟩ := VG hS (okV_n h1)
  have t : ∀ k, k < 130 → vcl w (5 + 5 * u) k = al w (610 + 132 * u + k) := fun k hk => t7 u hu k hk
  refine ⟨h1, ?_, ?_, ?_, fun q hq => ?_, fun q hq => ?_, fun q hq => ?_, fun q hq => ?_⟩
  · rw [g0, t 0 (by decide)]; rfl
  · rw [g1, t 1 (by decide), show 610 + 132 * u + 1 = 611 + 132 * u by omega]
  · rw [g2, t 2 (by decide), show 610 + 132 * u + 2 = 612 + 132 * u by omega]
  · rw [show 6 + 5 * u = 5 + 5 * u + 1 by omega, g3 q hq, t _ (by omega), show 610 + 132 * u + (3 + q) = 613 + 132 * u + q by omega]
  · rw [show 7 + 5 * u = 5 + 5 * u + 2 by omega, g4 q hq, t _ (by omega), show 610 + 132 * u + (84 + q) = 694 + 132 * u + q by omega]
  · rw [show 8 + 5 * u = 5 + 5 * u + 3 by omega, g5 q hq, t _ (by omega), show 610 + 132 * u + (93 + q) = 703 + 132 * u + q by omega]
  · rw [show 9 + 5 * u = 5 + 5 * u + 4 by omega, g6 q hq, t _ (by omega), show 610 + 132 * u + (102 + q) = 712 + 132 * u + q by omega]
theorem ifb_t {A B : Prop} {P : Prop} [Decidable P] (hP : P) (h : if b2i (decide P) = 0 then A else B) : B := by
  rw [decide_eq_true hP, if_neg (by decide +kernel)] at h
  exact h
theorem ifb_f {A B : Prop} {P : Prop} [Decidable P] (hP : ¬ P) (h : if b2i (decide P) = 0 then A else B) : A := by
  rw [decide_eq_false hP, if_pos (by decide +kernel)] at h
  exact h
theorem F68 (hS : SK w) (hv : gR w v 1 = m) (h : PS X k 68 0 [.ref v, .int p1, .int p2] [] w r w') : r = some (.int (aG w m (p1 * 9 + p2))) ∧ w' = w := by
  cases k with
  | zero => exact (PS_0 h).elim
  | succ k =>
    have h := U68_0 hS h
    rw [hv] at h
    exact h.2
end GU
