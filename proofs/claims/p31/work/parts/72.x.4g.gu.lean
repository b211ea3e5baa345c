/-! ===== what is told, asked: fault, village, word, want, act, count ===== -/
section GU
variable {X : pm_X} {k k2 : Nat} {w0 w w1 w2 w' : pm_W} {r r2 : Option Value} {p p1 p2 p3 p4 p5 f0 p0 f q x : Int32} {n i v j m s T L u V : Nat} {a : Nat → Int32}
/-- the ranges of what is told now -/
def MTn (w : pm_W) : Prop := ∀ i, i < 1690 → MT i (al w i).toInt
theorem isI_m (h0 : 0 ≤ x.toInt) (h1 : x.toInt ≤ 2000) : isI p 0 (x - 1) = decide (0 ≤ p.toInt ∧ p.toInt < x.toInt) := by
  unfold isI
  rw [z32, show (x - 1).toInt = x.toInt - 1 from zi_sub rfl o32 (by omega) (by omega)]
  by_cases c : 0 ≤ p.toInt ∧ p.toInt < x.toInt
  · rw [decide_eq_true c, decide_eq_true c.1, decide_eq_true (by omega)]; rfl
  · rw [decide_eq_false c]
    by_cases c1 : 0 ≤ p.toInt
    · rw [decide_eq_false (by omega : ¬ p.toInt ≤ x.toInt - 1), Bool.and_false]
    · rw [decide_eq_false c1]; rfl
theorem F60 (hS : SK w) (hV : (gI w 1 2).toInt = V) (hV2 : V ≤ 2) (h : PS X k 60 0 [.ref 1, .int p1] [] w r w') : w' = w ∧ ((r = some .null ∧ ¬ (0 ≤ p1.toInt ∧ p1.toInt < V)) ∨ (∃ u : Nat, p1.toInt = u ∧ u < V ∧ r = some (.ref (5 + 5 * u)))) := by
  cases k with
  | zero => exact (PS_0 h).elim
  | succ k =>
    have h := U60_0 hS h
    by_cases c : p1 < 0
    · rw [if_pos c] at h
      rw [Int32.lt_iff_toInt_lt, z32] at c
      exact ⟨h.2, Or.inl ⟨h.1, by omega⟩⟩
    · rw [if_neg c] at h
      rw [Int32.lt_iff_toInt_lt, z32] at c
      by_cases c2 : gI w 1 2 ≤ p1
      · rw [if_pos c2] at h
        rw [Int32.le_iff_toInt_le, hV] at c2
        exact ⟨h.2, Or.inl ⟨h.1, by omega⟩⟩
      · rw [if_neg c2] at h
        rw [Int32.le_iff_toInt_le, hV] at c2
        obtain ⟨_, h1, h2⟩ := h
        obtain ⟨u, hu⟩ : ∃ u : Nat, p1.toInt = u := ⟨p1.toInt.toNat, by omega⟩
        refine ⟨h2, Or.inr ⟨u, hu, by omega, ?_⟩⟩
        rw [h1]
        obtain ⟨e1, _, e3, _⟩ := q2e hS
        unfold qG
        rw [e1, e3, i_nat hu]
        have cu : u = 0 ∨ u = 1 := by omega
        rcases cu with rfl | rfl <;> rfl
theorem F67 (hS : SK w) (hV : (gI w 1 3).toInt = V) (hV2 : V ≤ 3) (h : PS X k 67 0 [.ref 1, .int p1] [] w r w') : w' = w ∧ ((r = some .null ∧ ¬ (0 ≤ p1.toInt ∧ p1.toInt < V)) ∨ (∃ u : Nat, p1.toInt = u ∧ u < V ∧ r = some (.ref (15 + 2 * u)))) := by
  cases k with
  | zero => exact (PS_0 h).elim
  | succ k =>
    have h := U67_0 hS h
    by_cases c : p1 < 0
    · rw [if_pos c] at h
      rw [Int32.lt_iff_toInt_lt, z32] at c
      exact ⟨h.2, Or.inl ⟨h.1, by omega⟩⟩
    · rw [if_neg c] at h
      rw [Int32.lt_iff_toInt_lt, z32] at c
      by_cases c2 : gI w 1 3 ≤ p1
      · rw [if_pos c2] at h
        rw [Int32.le_iff_toInt_le, hV] at c2
        exact ⟨h.2, Or.inl ⟨h.1, by omega⟩⟩
      · rw [if_neg c2] at h
        rw [Int32.le_iff_toInt_le, hV] at c2
        obtain ⟨_, h1, h2⟩ := h
        obtain ⟨u, hu⟩ : ∃ u : Nat, p1.toInt = u := ⟨p1.toInt.toNat, by omega⟩
        refine ⟨h2, Or.inr ⟨u, hu, by omega, ?_⟩⟩
        rw [h1]
        obtain ⟨_, e2, _, e4⟩ := q2e hS
        unfold qG
        rw [e2, e4, i_nat hu]
        have cu : u = 0 ∨ u = 1 ∨ u = 2 := by omega
        rcases cu with rfl | rfl | rfl <;> rfl
theorem F61 {P : Nat} (hS : SK w) (hP : (gI w v 0).toInt = P) (h : PS X k 61 0 [.ref v, .int p1] [] w r w') : r = some (.int (b2i (decide (0 ≤ p1.toInt ∧ p1.toInt < P)))) ∧ w' = w := by
  cases k with
  | zero => exact (PS_0 h).elim
  | succ k =>
    have h := U61_0 hS h
    by_cases c : p1 < 0
    · rw [if_pos c] at h
      rw [Int32.lt_iff_toInt_lt, z32] at c
      rw [decide_eq_false (by omega)]
      exact h
    · rw [if_neg c] at h
      rw [Int32.lt_iff_toInt_lt, z32] at c
      by_cases c2 : gI w v 0 ≤ p1
      · rw [if_pos c2] at h
        rw [Int32.le_iff_toInt_le, hP] at c2
        rw [decide_eq_false (by omega)]
        exact h
      · rw [if_neg c2] at h
        rw [Int32.le_iff_toInt_le, hP] at c2
        rw [decide_eq_true (by omega)]
        exact h
theorem F64 {P : Nat} (hS : SK w) (hP : (gI w v 2).toInt = P) (h : PS X k 64 0 [.ref v, .int p1] [] w r w') : r = some (.int (b2i (decide (0 ≤ p1.toInt ∧ p1.toInt < P)))) ∧ w' = w := by
  cases k with
  | zero => exact (PS_0 h).elim
  | succ k =>
    have h := U64_0 hS h
    by_cases c : p1 < 0
    · rw [if_pos c] at h
      rw [Int32.lt_iff_toInt_lt, z32] at c
      rw [decide_eq_false (by omega)]
      exact h
    · rw [if_neg c] at h
      rw [Int32.lt_iff_toInt_lt, z32] at c
      by_cases c2 : gI w v 2 ≤ p1
      · rw [if_pos c2] at h
        rw [Int32.le_iff_toInt_le, hP] at c2
        rw [decide_eq_false (by omega)]
        exact h
      · rw [if_neg c2] at h
        rw [Int32.le_iff_toInt_le, hP] at c2
        rw [decide_eq_true (by omega)]
        exact h
theorem F200n {L : Nat} (hS : SK w) (hp : p1.toInt = m) (hL : (al w m).toInt = L) (hL2 : L ≤ 2000) (h : PS X k 200 0 [.ref 147, .int p1, .int p2] [] w r w') : r = some (.int (b2i (decide (0 ≤ p2.toInt ∧ p2.toInt < L)))) ∧ w' = w := by
  cases k with
  | zero => exact (PS_0 h).elim
  | succ k =>
    obtain ⟨_, h⟩ := U200_0 hS h
    rw [aG_n (m := m) hp] at h
    have z := use_p hS h (fun _ _ z => F199 hS z)
    have e : (gA w 148).getD m 0 = al w m := rfl
    rw [e, isI_m (by omega) (by omega), hL] at z
    exact z
theorem F221n {L : Nat} (hS : SK w) (hp : p1.toInt = m) (hL : (al w m).toInt = L) (hL2 : L ≤ 2000) (h : PS X k 221 0 [.ref 147, .int p1, .int p2] [] w r w') : r = some (.int (b2i (decide (0 ≤ p2.toInt ∧ p2.toInt < L)))) ∧ w' = w := by
  cases k with
  | zero => exact (PS_0 h).elim
  | succ k =>
    obtain ⟨_, h⟩ := U221_0 hS h
    rw [aG_n (m := m) hp] at h
    have z := use_p hS h (fun _ _ z => F199 hS z)
    have e : (gA w 148).getD m 0 = al w m := rfl
    rw [e, isI_m (by omega) (by omega), hL] at z
    exact z
theorem F223n {L : Nat} (hS : SK w) (hp : p1.toInt = m) (hm : m ≤ 2000) (hL : (al w (m + 1)).toInt = L) (hL2 : L ≤ 2000) (h : PS X k 223 0 [.ref 147, .int p1, .int p2] [] w r w') : r = some (.int (b2i (decide (0 ≤ p2.toInt ∧ p2.toInt < L)))) ∧ w' = w := by
  cases k with
  | zero => exact (PS_0 h).elim
  | succ k =>
    obtain ⟨_, h⟩ := U223_0 hS h
    rw [aG_n (m := m + 1) (by rw [zi_add hp o32 (by omega) (by omega)]; rfl)] at h
    have z := use_p hS h (fun _ _ z => F199 hS z)
    have e : (gA w 148).getD (m + 1) 0 = al w (m + 1) := rfl
    rw [e, isI_m (by omega) (by omega), hL] at z
    exact z
theorem F217v (hS : SK w) (hu : p2.toInt = u) (hu2 : u ≤ 1) (h : PS X k 217 0 [.int 0, .int p2] [] w r w') : r = some (.int (610 + 132 * p2)) ∧ w' = w := by
  cases k with
  | zero => exact (PS_0 h).elim
  | succ k =>
    have h := U217_0 hS h
    rw [if_pos rfl] at h
    exact h
theorem F217r (hS : SK w) (h : PS X k 217 0 [.int 1, .int p2] [] w r w') : r = some (.int (874 + 272 * p2)) ∧ w' = w := by
  cases k with
  | zero => exact (PS_0 h).elim
  | succ k =>
    have h := U217_0 hS h
    rw [if_neg (by decide +kernel)] at h
    exact h
theorem plV (hu : p2.toInt = u) (hu2 : u ≤ 1) : (610 + 132 * p2).toInt = (610 + 132 * u : Nat) := by
  rw [zi_add (show (610 : Int32).toInt = 610 from by decide +kernel) (zi_mul (show (132 : Int32).toInt = 132 from by decide +kernel) hu (by omega) (by omega)) (by omega) (by omega)]
  omega
theorem plR (hu : p2.toInt = u) (hu2 : u ≤ 2) : (874 + 272 * p2).toInt = (874 + 272 * u : Nat) := by
  rw [zi_add (show (874 : Int32).toInt = 874 from by decide +kernel) (zi_mul (show (272 : Int32).toInt = 272 from by decide +kernel) hu (by omega) (by omega)) (by omega) (by omega)]
  omega
theorem okV_n (h : u ≤ 1) : okV (5 + 5 * u) = true := by
  have c : u = 0 ∨ u = 1 := by omega
  rcases c with rfl | rfl <;> decide +kernel
theorem okR_n (h : u ≤ 2) : okR (15 + 2 * u) = true := by
  have c : u = 0 ∨ u = 1 ∨ u = 2 := by omega
  rcases c with rfl | rfl | rfl <;> decide +kernel
/-- a village's parts, as its cells -/
theorem VG (hS : SK w) (ok : okV v = true) : gI w v 0 = vcl w v 0 ∧ gI w v 2 = vcl w v 1 ∧ gI w v 1 = vcl w v 2 ∧ (∀ q, q < 81 → (gA w (v + 1)).getD q 0 = vcl w v (3 + q)) ∧ (∀ q, q < 9 → (gA w (v + 2)).getD q 0 = vcl w v (84 + q)) ∧ (∀ q, q < 9 → (gA w (v + 3)).getD q 0 = vcl w v (93 + q)) ∧ (∀ q, q < 28 → (gA w (v + 4)).getD q 0 = vcl w v (102 + q)) := by
  refine ⟨?_, ?_, ?_, fun q hq => ?_, fun q hq => ?_, fun q hq => ?_, fun q hq => ?_⟩
  · rw [vcl_ok hS ok, if_pos rfl]
  · rw [vcl_ok hS ok, if_neg (by decide), if_pos rfl]
  · rw [vcl_ok hS ok, if_neg (by decide), if_neg (by decide), if_pos rfl]
  · rw [vcl_ok hS ok, if_neg (by omega), if_neg (by omega), if_neg (by omega), if_pos (by omega), show 3 + q - 3 = q by omega]
  · rw [vcl_ok hS ok, if_neg (by omega), if_neg (by omega), if_neg (by omega), if_neg (by omega), if_pos (by omega), show 84 + q - 84 = q by omega]
  · rw [vcl_ok hS ok, if_neg (by omega), if_neg (by omega), if_neg (by omega), if_neg (by omega), if_neg (by omega), if_pos (by omega), show 93 + q - 93 = q by omega]
  · rw [vcl_ok hS ok, if_neg (by omega), if_neg (by omega), if_neg (by omega), if_neg (by omega), if_neg (by omega), if_neg (by omega), if_pos (by omega), show 102 + q - 102 = q by omega]
/-- a village told now: its parts are the reference's cells -/
theorem VT (hS : SK w) (hT : TE w 1 (al w)) (hu : u < (al w 0).toInt.toNat) : u ≤ 1 ∧ gI w (5 + 5 * u) 0 = al w (610 + 132 * u) ∧ gI w (5 + 5 * u) 2 = al w (611 + 132 * u) ∧ gI w (5 + 5 * u) 1 = al w (612 + 132 * u) ∧ (∀ q, q < 81 → (gA w (6 + 5 * u)).getD q 0 = al w (613 + 132 * u + q)) ∧ (∀ q, q < 9 → (gA w (7 + 5 * u)).getD q 0 = al w (694 + 132 * u + q)) ∧ (∀ q, q < 9 → (gA w (8 + 5 * u)).getD q 0 = al w (703 + 132 * u + q)) ∧ (∀ q, q < 28 → (gA w (9 + 5 * u)).getD q 0 = al w (712 + 132 * u + q)) := by
  obtain ⟨⟨r1, r2, _⟩, t1, t2, t3, t4, t5, t6, t7, t8⟩ := hT
  have h1 : u ≤ 1 := by omega
  obtain ⟨g0, g1, g2, g3, g4, g5, g6⟩ := VG hS (okV_n h1)
  have t : ∀ k, k < 130 → vcl w (5 + 5 * u) k = al w (610 + 132 * u + k) := fun k hk => t7 u hu k hk
  refine ⟨h1, ?_, ?_, ?_, fun q hq => ?_, fun q hq => ?_, fun q hq => ?_, fun q hq => ?_⟩
  · rw [g0, t 0 (by decide)]; rfl
  · rw [g1, t 1 (by decide), show 610 + 132 * u + 1 = 611 + 132 * u by omega]
  · rw [g2, t 2 (by decide), show 610 + 132 * u + 2 = 612 + 132 * u by omega]
  · rw [show 6 + 5 * u = 5 + 5 * u + 1 by omega, g3 q hq, t _ (by omega), show 610 + 132 * u + (3 + q) = 613 + 132 * u + q by omega]
  · rw [show 7 + 5 * u = 5 + 5 * u + 2 by omega, g4 q hq, t _ (by omega), show 610 + 132 * u + (84 + q) = 694 + 132 * u + q by omega]
  · rw [show 8 + 5 * u = 5 + 5 * u + 3 by omega, g5 q hq, t _ (by omega), show 610 + 132 * u + (93 + q) = 703 + 132 * u + q by omega]
  · rw [show 9 + 5 * u = 5 + 5 * u + 4 by omega, g6 q hq, t _ (by omega), show 610 + 132 * u + (102 + q) = 712 + 132 * u + q by omega]
theorem VR (hS : SK w) (hu : u ≤ 1) : gR w (5 + 5 * u) 3 = 6 + 5 * u ∧ gR w (5 + 5 * u) 4 = 7 + 5 * u ∧ gR w (5 + 5 * u) 5 = 8 + 5 * u ∧ gR w (5 + 5 * u) 6 = 9 + 5 * u := by
  obtain ⟨h1, h2, h3, h4, _⟩ := okV_r hS (okV_n hu)
  exact ⟨by rw [h1]; omega, by rw [h2]; omega, by rw [h3]; omega, by rw [h4]; omega⟩
theorem i1690 {c : Nat} (hM : MTn w) (h : c < 1690) : MT c (al w c).toInt := hM c h
theorem b2i_n {b : Bool} : b2i b = 0 ↔ b = false := b2i_0
/-- fault -/
theorem RC_3 (h : RL2 w) (h1 : PS X k 58 0 [.ref 0, .int p1] [] w r w1) (h2 : PS X k2 218 0 [.ref 147, .int p1] [] w1 r2 w2) : r2 = r := by
  obtain ⟨hS, hT, _⟩ := h
  obtain ⟨_, t1, t2, t3, t4, t5, _⟩ := hT
  cases k with
  | zero => exact (PS_0 h1).elim
  | succ k =>
    cases k2 with
    | zero => exact (PS_0 h2).elim
    | succ k2 =>
      have h1 := U58_0 hS h1
      have e : w1 = w := by
        split at h1
        · exact h1.2
        · split at h1
          · exact h1.2
          · exact h1.2
      subst w1
      have h2 := U218_0 hS h2
      by_cases c : p1 = 0
      · rw [if_pos c] at h1 h2
        rw [h1.1, h2.2.1, show aG w 148 3 = al w 3 from aG_n (m := 3) three32, t4]
      · rw [if_neg c] at h1 h2
        by_cases c1 : p1 = 1
        · rw [if_pos c1] at h1 h2
          rw [h1.1, h2.2.1, show aG w 148 4 = al w 4 from aG_n (m := 4) four32, t5]
        · rw [if_neg c1] at h1 h2
          rw [h1.1, h2.1]
/-- count -/
theorem RC_39 (h : RL2 w) (h1 : PS X k 69 0 [.ref 0, .int p1] [] w r w1) (h2 : PS X k2 315 0 [.ref 147, .int p1] [] w1 r2 w2) : r2 = r := by
  obtain ⟨hS, hT, _⟩ := h
  obtain ⟨_, t1, t2, t3, t4, t5, _⟩ := hT
  cases k with
  | zero => exact (PS_0 h1).elim
  | succ k =>
    cases k2 with
    | zero => exact (PS_0 h2).elim
    | succ k2 =>
      have h1 := U69_0 hS h1
      have e : w1 = w := by
        split at h1
        · exact h1.2
        · split at h1
          · exact h1.2
          · exact h1.2
      subst w1
      have h2 := use_p hS (U315_0 hS h2) (fun _ _ z => F199 hS z)
      by_cases c : p1 = 0
      · subst c
        rw [if_pos rfl] at h1
        rw [if_neg (by decide +kernel)] at h2
        rw [h1.1, h2.2.1, show aG w 148 0 = al w 0 from aG_n (m := 0) z32, t1]
      · rw [if_neg c] at h1
        by_cases c1 : p1 = 1
        · subst c1
          rw [if_pos rfl] at h1
          rw [if_neg (by decide +kernel)] at h2
          rw [h1.1, h2.2.1, show aG w 148 1 = al w 1 from aG_n (m := 1) o32, t2]
        · rw [if_neg c1] at h1
          have n0 : p1.toInt ≠ 0 := fun z => c (Int32.toInt_inj.mp (by rw [z, z32]))
          have n1 : p1.toInt ≠ 1 := fun z => c1 (Int32.toInt_inj.mp (by rw [z, o32]))
          have ei : isI p1 0 1 = false := by
            unfold isI
            rw [z32, o32]
            by_cases y : 0 ≤ p1.toInt
            · rw [decide_eq_false (by omega : ¬ p1.toInt ≤ 1), Bool.and_false]
            · rw [decide_eq_false y]; rfl
          rw [ei, if_pos (by decide +kernel)] at h2
          rw [h1.1, h2.1]
theorem isI_t {lo hi : Int32} {l hh : Int} (hl : lo.toInt = l) (h : hi.toInt = hh) : b2i (isI p lo hi) = b2i (decide (l ≤ p.toInt ∧ p.toInt ≤ hh)) := by
  unfold isI
  rw [hl, h]
  by_cases c : l ≤ p.toInt ∧ p.toInt ≤ hh
  · rw [decide_eq_true c, decide_eq_true c.1, decide_eq_true c.2]; rfl
  · rw [decide_eq_false c]
    by_cases c1 : l ≤ p.toInt
    · rw [decide_eq_false (fun y => c ⟨c1, y⟩), Bool.and_false]
    · rw [decide_eq_false c1]; rfl
theorem ifb_t {A B : Prop} {P : Prop} [Decidable P] (hP : P) (h : if b2i (decide P) = 0 then A else B) : B := by
  rw [decide_eq_true hP, if_neg (by decide +kernel)] at h
  exact h
theorem ifb_f {A B : Prop} {P : Prop} [Decidable P] (hP : ¬ P) (h : if b2i (decide P) = 0 then A else B) : A := by
  rw [decide_eq_false hP, if_pos (by decide +kernel)] at h
  exact h
/-- village -/
theorem RC_4 (hM : MTn w) (h : RL2 w) (h1 : PS X k 59 0 [.ref 0, .int p1, .int p2, pm_dead] [] w r w1) (h2 : PS X k2 219 0 [.ref 147, .int p1, .int p2, pm_dead] [] w1 r2 w2) : r2 = r := by
  obtain ⟨hS, hT, _⟩ := h
  have hT' := hT
  obtain ⟨⟨r1, r2', _⟩, t1, _⟩ := hT
  have e2 : (2 : Int32).toInt = 2 := two32
  have e10 : (10 : Int32).toInt = 10 := ten32
  have e20 : (20 : Int32).toInt = 20 := by decide +kernel
  have e9 : (9 : Int32).toInt = 9 := by decide +kernel
  have e19 : (19 : Int32).toInt = 19 := by decide +kernel
  have e84 : (84 : Int32).toInt = 84 := by decide +kernel
  have e93 : (93 : Int32).toInt = 93 := by decide +kernel
  cases k with
  | zero => exact (PS_0 h1).elim
  | succ k =>
    cases k2 with
    | zero => exact (PS_0 h2).elim
    | succ k2 =>
      obtain ⟨q1, wq, h1a, h1n, h1r⟩ := U59_0 hS h1
      obtain ⟨ew, hc⟩ := F60 (V := (al w 0).toInt.toNat) hS (by rw [t1]; omega) (by omega) h1a
      subst wq
      rcases hc with ⟨hn, hout⟩ | ⟨u, hu, huV, hr⟩
      · obtain ⟨a1, a2⟩ := h1n hn hS
        subst w1
        have h2 := use_p hS (U219_0 hS h2) (fun _ _ z => F200n (m := 0) (L := (al w 0).toInt.toNat) hS z32 (by omega) (by omega) z)
        have h2 := ifb_f hout h2
        rw [a1, h2.1]
      · have h1 := h1r _ hr hS
        obtain ⟨u1, g0, g1, g2, g3, g4, g5, g6⟩ := VT hS hT' huV
        obtain ⟨v3, v4, v5, v6⟩ := VR hS u1
        have hPm := MT_people (hM (610 + 132 * u) (by omega)) (by omega)
        obtain ⟨P, hP⟩ : ∃ P : Nat, (al w (610 + 132 * u)).toInt = P := ⟨(al w (610 + 132 * u)).toInt.toNat, by omega⟩
        have gP : (gI w (5 + 5 * u) 0).toInt = P := by rw [g0]; exact hP
        -- the class
        have cls : w1 = w ∧ (if b2i (decide (0 ≤ p2.toInt ∧ p2.toInt ≤ 2)) = 0 then (if b2i (decide (10 ≤ p2.toInt ∧ p2.toInt ≤ 9 + P)) = 0 then (if b2i (decide (20 ≤ p2.toInt ∧ p2.toInt ≤ 19 + P)) = 0 then r = some (.int (-1)) else r = some (.int (al w (703 + 132 * u + (p2.toInt - 20).toNat)))) else r = some (.int (al w (694 + 132 * u + (p2.toInt - 10).toNat)))) else r = some (.int (al w (610 + 132 * u + p2.toInt.toNat)))) := by
          by_cases c0 : p2 = 0
          · rw [if_pos c0] at h1
            have e : p2.toInt = 0 := by rw [c0, z32]
            refine ⟨h1.2, ?_⟩
            rw [decide_eq_true (by omega), if_neg (by decide +kernel), h1.1, g0, e]
            rfl
          rw [if_neg c0] at h1
          have n0 : p2.toInt ≠ 0 := fun z => c0 (Int32.toInt_inj.mp (by rw [z, z32]))
          by_cases c1 : p2 = 1
          · rw [if_pos c1] at h1
            have e : p2.toInt = 1 := by rw [c1, o32]
            refine ⟨h1.2, ?_⟩
            rw [decide_eq_true (by omega), if_neg (by decide +kernel), h1.1, g1, e, show 610 + 132 * u + (1 : Int).toNat = 611 + 132 * u by omega]
          rw [if_neg c1] at h1
          have n1 : p2.toInt ≠ 1 := fun z => c1 (Int32.toInt_inj.mp (by rw [z, o32]))
          by_cases c2 : p2 = 2
          · rw [if_pos c2] at h1
            have e : p2.toInt = 2 := by rw [c2, two32]
            refine ⟨h1.2, ?_⟩
            rw [decide_eq_true (by omega), if_neg (by decide +kernel), h1.1, g2, e, show 610 + 132 * u + (2 : Int).toNat = 612 + 132 * u by omega]
          rw [if_neg c2] at h1
          have n2 : p2.toInt ≠ 2 := fun z => c2 (Int32.toInt_inj.mp (by rw [z, two32]))
          rw [decide_eq_false (by omega), if_pos (by decide +kernel)]
          -- from risks on
          have rk : 20 ≤ p2.toInt → ¬ (10 ≤ p2.toInt ∧ p2.toInt ≤ 9 + P) → (∃ (r4 : Option Value) (w5 : pm_W), PS X k 61 0 [.ref (5 + 5 * u), .int (p2 - 20)] [] w r4 w5 ∧ (∀ x6 : Int32, r4 = some (.int x6) → SK w5 → (if x6 = 0 then (r = some (.int (-1)) ∧ w1 = w5) else (aI w5 (gR w5 (5 + 5 * u) 5) (p2 - 20) ∧ (r = some (.int (aG w5 (gR w5 (5 + 5 * u) 5) (p2 - 20))) ∧ w1 = w5))))) → w1 = w ∧ (if b2i (decide (10 ≤ p2.toInt ∧ p2.toInt ≤ 9 + P)) = 0 then (if b2i (decide (20 ≤ p2.toInt ∧ p2.toInt ≤ 19 + P)) = 0 then r = some (.int (-1)) else r = some (.int (al w (703 + 132 * u + (p2.toInt - 20).toNat)))) else r = some (.int (al w (694 + 132 * u + (p2.toInt - 10).toNat)))) := by
            intro h20 hn h1
            have es : (p2 - 20).toInt = p2.toInt - 20 := zi_sub rfl e20 (by omega) (by have := zi_hi p2; omega)
            have h1 := use_p hS h1 (fun _ _ z => F61 hS gP z)
            rw [es] at h1
            rw [decide_eq_false hn, if_pos (by decide +kernel)]
            by_cases c : 0 ≤ p2.toInt - 20 ∧ p2.toInt - 20 < P
            · have h1 := ifb_t c h1
              rw [decide_eq_true (by omega), if_neg (by decide +kernel)]
              refine ⟨h1.2.2, ?_⟩
              rw [h1.2.1, v5, aG_n (m := (p2.toInt - 20).toNat) (by rw [es]; omega), g5 _ (by omega)]
            · have h1 := ifb_f c h1
              rw [decide_eq_false (by omega), if_pos (by decide +kernel)]
              exact ⟨h1.2, h1.1⟩
          by_cases c10 : p2 < 10
          · rw [if_pos c10] at h1
            rw [Int32.lt_iff_toInt_lt, e10] at c10
            rw [if_pos (by rw [Int32.lt_iff_toInt_lt, e20]; omega)] at h1
            rw [decide_eq_false (by omega), if_pos (by decide +kernel), decide_eq_false (by omega), if_pos (by decide +kernel)]
            exact ⟨h1.2, h1.1⟩
          · rw [if_neg c10] at h1
            rw [Int32.lt_iff_toInt_lt, e10] at c10
            have es : (p2 - 10).toInt = p2.toInt - 10 := zi_sub rfl e10 (by omega) (by have := zi_hi p2; omega)
            have h1 := use_p hS h1 (fun _ _ z => F61 hS gP z)
            rw [es] at h1
            by_cases c : 0 ≤ p2.toInt - 10 ∧ p2.toInt - 10 < P
            · have h1 := ifb_t c h1
              rw [decide_eq_true (by omega), if_neg (by decide +kernel)]
              refine ⟨h1.2.2, ?_⟩
              rw [h1.2.1, v4, aG_n (m := (p2.toInt - 10).toNat) (by rw [es]; omega), g4 _ (by omega)]
            · have h1 := ifb_f c h1
              by_cases c20 : p2 < 20
              · rw [if_pos c20] at h1
                rw [Int32.lt_iff_toInt_lt, e20] at c20
                rw [decide_eq_false (by omega), if_pos (by decide +kernel), decide_eq_false (by omega), if_pos (by decide +kernel)]
                exact ⟨h1.2, h1.1⟩
              · rw [if_neg c20] at h1
                rw [Int32.lt_iff_toInt_lt, e20] at c20
                exact rk (by omega) (by omega) h1
        obtain ⟨ew, hcl⟩ := cls
        subst w1
        have h2 := use_p hS (U219_0 hS h2) (fun _ _ z => F200n (m := 0) (L := (al w 0).toInt.toNat) hS z32 (by omega) (by omega) z)
        have h2 := ifb_t (by omega) h2
        have h2 := use_p hS h2 (fun _ _ z => F217v hS hu u1 z)
        have h2 := use_p hS h2 (fun _ _ z => F199 hS z)
        have ep := plV hu u1
        have ea : (gA w 148).getD (610 + 132 * u) 0 = al w (610 + 132 * u) := rfl
        rw [isI_t z32 e2] at h2
        by_cases c : 0 ≤ p2.toInt ∧ p2.toInt ≤ 2
        · rw [decide_eq_true c, if_neg (by decide +kernel)] at hcl
          have h2 := ifb_t c h2
          rw [hcl, h2.2.1, aG_n (m := 610 + 132 * u + p2.toInt.toNat) (by rw [zi_add ep rfl (by omega) (by omega)]; omega)]
          rfl
        · rw [decide_eq_false c, if_pos (by decide +kernel)] at hcl
          have h2 := ifb_f c h2
          obtain ⟨_, h2⟩ := h2
          have h2 := use_p hS h2 (fun _ _ z => F199 hS z)
          rw [aG_n (m := 610 + 132 * u) ep, ea, isI_t e10 (zi_add e9 hP (by omega) (by omega))] at h2
          by_cases c1 : 10 ≤ p2.toInt ∧ p2.toInt ≤ 9 + P
          · rw [decide_eq_true c1, if_neg (by decide +kernel)] at hcl
            have h2 := ifb_t c1 h2
            rw [hcl, h2.2.1, aG_n (m := 694 + 132 * u + (p2.toInt - 10).toNat) (by rw [zi_sub (zi_add (zi_add ep e84 (by omega) (by omega)) rfl (by omega) (by omega)) e10 (by omega) (by omega)]; omega)]
            rfl
          · rw [decide_eq_false c1, if_pos (by decide +kernel)] at hcl
            have h2 := ifb_f c1 h2
            obtain ⟨_, h2⟩ := h2
            have h2 := use_p hS h2 (fun _ _ z => F199 hS z)
            rw [isI_t e20 (zi_add e19 hP (by omega) (by omega))] at h2
            by_cases c2 : 20 ≤ p2.toInt ∧ p2.toInt ≤ 19 + P
            · rw [decide_eq_true c2, if_neg (by decide +kernel)] at hcl
              have h2 := ifb_t c2 h2
              rw [hcl, h2.2.1, aG_n (m := 703 + 132 * u + (p2.toInt - 20).toNat) (by rw [zi_sub (zi_add (zi_add ep e93 (by omega) (by omega)) rfl (by omega) (by omega)) e20 (by omega) (by omega)]; omega)]
              rfl
            · rw [decide_eq_false c2, if_pos (by decide +kernel)] at hcl
              have h2 := ifb_f c2 h2
              rw [hcl, h2.1]
/-- word -/
theorem RC_5 (hM : MTn w) (h : RL2 w) (h1 : PS X k 62 0 [.ref 0, .int p1, .int p2, .int p3, pm_dead] [] w r w1) (h2 : PS X k2 220 0 [.ref 147, .int p1, .int p2, .int p3] [] w1 r2 w2) : r2 = r := by
  obtain ⟨hS, hT, _⟩ := h
  have hT' := hT
  obtain ⟨⟨r1, r2', _⟩, t1, _⟩ := hT
  have e9 : (9 : Int32).toInt = 9 := by decide +kernel
  cases k with
  | zero => exact (PS_0 h1).elim
  | succ k =>
    cases k2 with
    | zero => exact (PS_0 h2).elim
    | succ k2 =>
      obtain ⟨q1, wq, h1a, h1n, h1r⟩ := U62_0 hS h1
      obtain ⟨ew, hc⟩ := F60 (V := (al w 0).toInt.toNat) hS (by rw [t1]; omega) (by omega) h1a
      subst wq
      rcases hc with ⟨hn, hout⟩ | ⟨u, hu, huV, hr⟩
      · obtain ⟨a1, a2⟩ := h1n hn hS
        subst w1
        have h2 := use_p hS (U220_0 hS h2) (fun _ _ z => F200n (m := 0) (L := (al w 0).toInt.toNat) hS z32 (by omega) (by omega) z)
        have h2 := ifb_f hout h2
        rw [a1, h2.1]
      · have h1 := h1r _ hr hS
        obtain ⟨u1, g0, g1, g2, g3, g4, g5, g6⟩ := VT hS hT' huV
        obtain ⟨v3, v4, v5, v6⟩ := VR hS u1
        have hPm := MT_people (hM (610 + 132 * u) (by omega)) (by omega)
        obtain ⟨P, hP⟩ : ∃ P : Nat, (al w (610 + 132 * u)).toInt = P := ⟨(al w (610 + 132 * u)).toInt.toNat, by omega⟩
        have gP : (gI w (5 + 5 * u) 0).toInt = P := by rw [g0]; exact hP
        have ep := plV hu u1
        have h1 := use_p hS h1 (fun _ _ z => F61 hS gP z)
        have cls : w1 = w ∧ ((¬ (0 ≤ p2.toInt ∧ p2.toInt < P) ∧ r = some (.int (-1))) ∨ ((0 ≤ p2.toInt ∧ p2.toInt < P) ∧ ¬ (0 ≤ p3.toInt ∧ p3.toInt < P) ∧ r = some (.int (-1))) ∨ ((0 ≤ p2.toInt ∧ p2.toInt < P) ∧ (0 ≤ p3.toInt ∧ p3.toInt < P) ∧ r = some (.int (al w (613 + 132 * u + (9 * p2.toInt.toNat + p3.toInt.toNat)))))) := by
          by_cases c2 : 0 ≤ p2.toInt ∧ p2.toInt < P
          · have h1 := ifb_t c2 h1
            have h1 := use_p hS h1 (fun _ _ z => F61 hS gP z)
            by_cases c3 : 0 ≤ p3.toInt ∧ p3.toInt < P
            · have h1 := ifb_t c3 h1
              have h1 := use_p hS h1 (fun _ _ z => F52 hS z)
              obtain ⟨_, a1, a2⟩ := h1
              refine ⟨a2, Or.inr (Or.inr ⟨c2, c3, ?_⟩)⟩
              rw [a1, v3, aG_n (m := 9 * p2.toInt.toNat + p3.toInt.toNat) (by rw [zi_add (zi_mul rfl e9 (by omega) (by omega)) rfl (by omega) (by omega)]; omega), g3 _ (by omega)]
            · have h1 := ifb_f c3 h1
              exact ⟨h1.2, Or.inr (Or.inl ⟨c2, c3, h1.1⟩)⟩
          · have h1 := ifb_f c2 h1
            exact ⟨h1.2, Or.inl ⟨c2, h1.1⟩⟩
        obtain ⟨ew, cls⟩ := cls
        subst w1
        have h2 := use_p hS (U220_0 hS h2) (fun _ _ z => F200n (m := 0) (L := (al w 0).toInt.toNat) hS z32 (by omega) (by omega) z)
        have h2 := ifb_t (by omega) h2
        have h2 := use_p hS h2 (fun _ _ z => F217v hS hu u1 z)
        have h2 := use_p hS h2 (fun _ _ z => F221n (m := 610 + 132 * u) (L := P) hS ep hP (by omega) z)
        rcases cls with ⟨c2, a1⟩ | ⟨c2, c3, a1⟩ | ⟨c2, c3, a1⟩
        · have h2 := ifb_f c2 h2
          rw [a1, h2.1]
        · have h2 := ifb_t c2 h2
          have h2 := use_p hS h2 (fun _ _ z => F217v hS hu u1 z)
          have h2 := use_p hS h2 (fun _ _ z => F221n (m := 610 + 132 * u) (L := P) hS ep hP (by omega) z)
          have h2 := ifb_f c3 h2
          rw [a1, h2.1]
        · have h2 := ifb_t c2 h2
          have h2 := use_p hS h2 (fun _ _ z => F217v hS hu u1 z)
          have h2 := use_p hS h2 (fun _ _ z => F221n (m := 610 + 132 * u) (L := P) hS ep hP (by omega) z)
          have h2 := ifb_t c3 h2
          have h2 := use_p hS h2 (fun _ _ z => F217v hS hu u1 z)
          rw [a1, h2.2.1, aG_n (m := 613 + 132 * u + (9 * p2.toInt.toNat + p3.toInt.toNat)) (by rw [zi_add (zi_add (zi_add ep three32 (by omega) (by omega)) (zi_mul e9 rfl (by omega) (by omega)) (by omega) (by omega)) rfl (by omega) (by omega)]; omega)]
          rfl
theorem F65 (hS : SK w) (hv : gR w v 6 = m) (h : PS X k 65 0 [.ref v, .int p1, .int p2] [] w r w') : r = some (.int (aG w m (p1 * 4 + p2))) ∧ w' = w := by
  cases k with
  | zero => exact (PS_0 h).elim
  | succ k =>
    have h := U65_0 hS h
    rw [hv] at h
    exact h.2
theorem F224 (hS : SK w) (h : PS X k 224 0 [.ref 147, .int p1, .int p2, .int p3] [] w r w') : r = some (.int (aG w 148 (((p1 + 102) + (4 * p2)) + p3))) ∧ w' = w := by
  cases k with
  | zero => exact (PS_0 h).elim
  | succ k => exact (U224_0 hS h).2
/-- want -/
theorem RC_6 (hM : MTn w) (h : RL2 w) (h1 : PS X k 63 0 [.ref 0, .int p1, .int p2, .int p3, pm_dead] [] w r w1) (h2 : PS X k2 222 0 [.ref 147, .int p1, .int p2, .int p3] [] w1 r2 w2) : r2 = r := by
  obtain ⟨hS, hT, _⟩ := h
  have hT' := hT
  obtain ⟨⟨r1, r2', _⟩, t1, _⟩ := hT
  have e4 : (4 : Int32).toInt = 4 := four32
  have e102 : (102 : Int32).toInt = 102 := by decide +kernel
  cases k with
  | zero => exact (PS_0 h1).elim
  | succ k =>
    cases k2 with
    | zero => exact (PS_0 h2).elim
    | succ k2 =>
      obtain ⟨q1, wq, h1a, h1n, h1r⟩ := U63_0 hS h1
      obtain ⟨ew, hc⟩ := F60 (V := (al w 0).toInt.toNat) hS (by rw [t1]; omega) (by omega) h1a
      subst wq
      rcases hc with ⟨hn, hout⟩ | ⟨u, hu, huV, hr⟩
      · obtain ⟨a1, a2⟩ := h1n hn hS
        subst w1
        have h2 := use_p hS (U222_0 hS h2) (fun _ _ z => F200n (m := 0) (L := (al w 0).toInt.toNat) hS z32 (by omega) (by omega) z)
        have h2 := ifb_f hout h2
        rw [a1, h2.1]
      · have h1 := h1r _ hr hS
        obtain ⟨u1, g0, g1, g2, g3, g4, g5, g6⟩ := VT hS hT' huV
        obtain ⟨v3, v4, v5, v6⟩ := VR hS u1
        have hWm := MT_wants (hM (611 + 132 * u) (by omega)) (by omega)
        obtain ⟨W, hW⟩ : ∃ W : Nat, (al w (611 + 132 * u)).toInt = W := ⟨(al w (611 + 132 * u)).toInt.toNat, by omega⟩
        have gW : (gI w (5 + 5 * u) 2).toInt = W := by rw [g1]; exact hW
        have ep := plV hu u1
        have h1 := use_p hS h1 (fun _ _ z => F64 hS gW z)
        have cls : w1 = w ∧ ((¬ (0 ≤ p2.toInt ∧ p2.toInt < W) ∧ r = some (.int (-1))) ∨ ((0 ≤ p2.toInt ∧ p2.toInt < W) ∧ ¬ (0 ≤ p3.toInt ∧ p3.toInt ≤ 3) ∧ r = some (.int (-1))) ∨ ((0 ≤ p2.toInt ∧ p2.toInt < W) ∧ (0 ≤ p3.toInt ∧ p3.toInt ≤ 3) ∧ r = some (.int (al w (712 + 132 * u + (4 * p2.toInt.toNat + p3.toInt.toNat)))))) := by
          by_cases c2 : 0 ≤ p2.toInt ∧ p2.toInt < W
          · have h1 := ifb_t c2 h1
            by_cases c3 : p3 < 0
            · rw [if_pos c3] at h1
              rw [Int32.lt_iff_toInt_lt, z32] at c3
              exact ⟨h1.2, Or.inr (Or.inl ⟨c2, by omega, h1.1⟩)⟩
            · rw [if_neg c3] at h1
              rw [Int32.lt_iff_toInt_lt, z32] at c3
              by_cases c4 : p3 < 4
              · rw [if_pos c4] at h1
                rw [Int32.lt_iff_toInt_lt, e4] at c4
                have h1 := use_p hS h1 (fun _ _ z => F65 hS v6 z)
                refine ⟨h1.2, Or.inr (Or.inr ⟨c2, by omega, ?_⟩)⟩
                rw [h1.1, aG_n (m := 4 * p2.toInt.toNat + p3.toInt.toNat) (by rw [zi_add (zi_mul rfl e4 (by omega) (by omega)) rfl (by omega) (by omega)]; omega), g6 _ (by omega)]
              · rw [if_neg c4] at h1
                rw [Int32.lt_iff_toInt_lt, e4] at c4
                exact ⟨h1.2, Or.inr (Or.inl ⟨c2, by omega, h1.1⟩)⟩
          · have h1 := ifb_f c2 h1
            exact ⟨h1.2, Or.inl ⟨c2, h1.1⟩⟩
        obtain ⟨ew, cls⟩ := cls
        subst w1
        have h2 := use_p hS (U222_0 hS h2) (fun _ _ z => F200n (m := 0) (L := (al w 0).toInt.toNat) hS z32 (by omega) (by omega) z)
        have h2 := ifb_t (by omega) h2
        have h2 := use_p hS h2 (fun _ _ z => F217v hS hu u1 z)
        have h2 := use_p hS h2 (fun _ _ z => F223n (m := 610 + 132 * u) (L := W) hS ep (by omega) (by rw [show 610 + 132 * u + 1 = 611 + 132 * u by omega]; exact hW) (by omega) z)
        rcases cls with ⟨c2, a1⟩ | ⟨c2, c3, a1⟩ | ⟨c2, c3, a1⟩
        · have h2 := ifb_f c2 h2
          rw [a1, h2.1]
        · have h2 := ifb_t c2 h2
          have h2 := use_p hS h2 (fun _ _ z => F199 hS z)
          rw [isI_t z32 three32] at h2
          have h2 := ifb_f c3 h2
          rw [a1, h2.1]
        · have h2 := ifb_t c2 h2
          have h2 := use_p hS h2 (fun _ _ z => F199 hS z)
          rw [isI_t z32 three32] at h2
          have h2 := ifb_t c3 h2
          have h2 := use_p hS h2 (fun _ _ z => F217v hS hu u1 z)
          have h2 := use_p hS h2 (fun _ _ z => F224 hS z)
          rw [a1, h2.1, aG_n (m := 712 + 132 * u + (4 * p2.toInt.toNat + p3.toInt.toNat)) (by rw [zi_add (zi_add (zi_add ep e102 (by omega) (by omega)) (zi_mul e4 rfl (by omega) (by omega)) (by omega) (by omega)) rfl (by omega) (by omega)]; omega)]
          rfl
theorem F68 (hS : SK w) (hv : gR w v 1 = m) (h : PS X k 68 0 [.ref v, .int p1, .int p2] [] w r w') : r = some (.int (aG w m (p1 * 9 + p2))) ∧ w' = w := by
  cases k with
  | zero => exact (PS_0 h).elim
  | succ k =>
    have h := U68_0 hS h
    rw [hv] at h
    exact h.2
/-- act -/
theorem RC_7 (h : RL2 w) (h1 : PS X k 66 0 [.ref 0, .int p1, .int p2, .int p3, pm_dead] [] w r w1) (h2 : PS X k2 225 0 [.ref 147, .int p1, .int p2, .int p3, pm_dead] [] w1 r2 w2) : r2 = r := by
  obtain ⟨hS, hT, _⟩ := h
  obtain ⟨⟨r1, r2', r3, r4, r5, r6, r7⟩, t1, t2, _, _, _, _, _, t8⟩ := hT
  have e9 : (9 : Int32).toInt = 9 := by decide +kernel
  have m1 : ((-1 : Int32)).toInt = -1 := by decide +kernel
  cases k with
  | zero => exact (PS_0 h1).elim
  | succ k =>
    cases k2 with
    | zero => exact (PS_0 h2).elim
    | succ k2 =>
      obtain ⟨q1, wq, h1a, h1n, h1r⟩ := U66_0 hS h1
      obtain ⟨ew, hc⟩ := F67 (V := (al w 1).toInt.toNat) hS (by rw [t2]; omega) (by omega) h1a
      subst wq
      rcases hc with ⟨hn, hout⟩ | ⟨u, hu, huV, hr⟩
      · obtain ⟨a1, a2⟩ := h1n hn hS
        subst w1
        have h2 := use_p hS (U225_0 hS h2) (fun _ _ z => F200n (m := 1) (L := (al w 1).toInt.toNat) hS o32 (by omega) (by omega) z)
        have h2 := ifb_f hout h2
        rw [a1, h2.1]
      · have h1 := h1r _ hr hS
        have u2 : u ≤ 2 := by omega
        obtain ⟨v1, _⟩ := okR_r hS (okR_n u2)
        have ra := r7 u huV
        obtain ⟨y1, y2⟩ := t8 u huV
        rw [show 1 + 14 + 2 * u = 15 + 2 * u by omega] at y1
        rw [show 1 + 15 + 2 * u = 16 + 2 * u by omega] at y2
        obtain ⟨N, hN⟩ : ∃ N : Nat, (al w (874 + 272 * u)).toInt = N := ⟨(al w (874 + 272 * u)).toInt.toNat, by omega⟩
        have ep := plR hu u2
        have cls : w1 = w ∧ ((p2 = -1 ∧ p3 = 0 ∧ r = some (.int (al w (874 + 272 * u)))) ∨ (p2 = -1 ∧ p3 ≠ 0 ∧ r = some (.int (-2))) ∨ (p2 ≠ -1 ∧ ¬ (0 ≤ p2.toInt ∧ p2.toInt < N) ∧ r = some (.int (-2))) ∨ (p2 ≠ -1 ∧ (0 ≤ p2.toInt ∧ p2.toInt < N) ∧ ¬ (0 ≤ p3.toInt ∧ p3.toInt ≤ 8) ∧ r = some (.int (-2))) ∨ (p2 ≠ -1 ∧ (0 ≤ p2.toInt ∧ p2.toInt < N) ∧ (0 ≤ p3.toInt ∧ p3.toInt ≤ 8) ∧ r = some (.int (al w (874 + 272 * u + 1 + (9 * p2.toInt.toNat + p3.toInt.toNat)))))) := by
          by_cases c2 : p2 = -1
          · rw [if_pos c2] at h1
            by_cases c3 : p3 = 0
            · rw [if_pos c3, y1] at h1
              exact ⟨h1.2, Or.inl ⟨c2, c3, h1.1⟩⟩
            · rw [if_neg c3] at h1
              exact ⟨h1.2, Or.inr (Or.inl ⟨c2, c3, h1.1⟩)⟩
          · rw [if_neg c2] at h1
            by_cases c : p2 < 0
            · rw [if_pos c] at h1
              rw [Int32.lt_iff_toInt_lt, z32] at c
              exact ⟨h1.2, Or.inr (Or.inr (Or.inl ⟨c2, by omega, h1.1⟩))⟩
            · rw [if_neg c] at h1
              rw [Int32.lt_iff_toInt_lt, z32] at c
              by_cases cN : gI w (15 + 2 * u) 0 ≤ p2
              · rw [if_pos cN] at h1
                rw [Int32.le_iff_toInt_le, y1, hN] at cN
                exact ⟨h1.2, Or.inr (Or.inr (Or.inl ⟨c2, by omega, h1.1⟩))⟩
              · rw [if_neg cN] at h1
                rw [Int32.le_iff_toInt_le, y1, hN] at cN
                by_cases c3 : p3 < 0
                · rw [if_pos c3] at h1
                  rw [Int32.lt_iff_toInt_lt, z32] at c3
                  exact ⟨h1.2, Or.inr (Or.inr (Or.inr (Or.inl ⟨c2, by omega, by omega, h1.1⟩)))⟩
                · rw [if_neg c3] at h1
                  rw [Int32.lt_iff_toInt_lt, z32] at c3
                  by_cases c9 : p3 < 9
                  · rw [if_pos c9] at h1
                    rw [Int32.lt_iff_toInt_lt, e9] at c9
                    have h1 := use_p hS h1 (fun _ _ z => F68 hS v1 z)
                    refine ⟨h1.2, Or.inr (Or.inr (Or.inr (Or.inr ⟨c2, by omega, by omega, ?_⟩)))⟩
                    rw [h1.1, show 15 + 2 * u + 1 = 16 + 2 * u by omega, aG_n (m := 9 * p2.toInt.toNat + p3.toInt.toNat) (by rw [zi_add (zi_mul rfl e9 (by omega) (by omega)) rfl (by omega) (by omega)]; omega), y2 _ (by omega)]
                  · rw [if_neg c9] at h1
                    rw [Int32.lt_iff_toInt_lt, e9] at c9
                    exact ⟨h1.2, Or.inr (Or.inr (Or.inr (Or.inl ⟨c2, by omega, by omega, h1.1⟩)))⟩
        obtain ⟨ew, cls⟩ := cls
        subst w1
        have eN : aG w 148 (874 + 272 * p1) = al w (874 + 272 * u) := aG_n (m := 874 + 272 * u) ep
        have h2 := use_p hS (U225_0 hS h2) (fun _ _ z => F200n (m := 1) (L := (al w 1).toInt.toNat) hS o32 (by omega) (by omega) z)
        have h2 := ifb_t (by omega) h2
        have h2 := use_p hS h2 (fun _ _ z => F217r hS z)
        rw [eN] at h2
        rcases cls with ⟨c2, c3, a1⟩ | ⟨c2, c3, a1⟩ | ⟨c2, c3, a1⟩ | ⟨c2, c3, c4, a1⟩ | ⟨c2, c3, c4, a1⟩
        · rw [if_pos c2, if_pos c3] at h2
          rw [a1, h2.2.1]
        · rw [if_pos c2, if_neg c3] at h2
          rw [a1, h2.1]
        · rw [if_neg c2] at h2
          have h2 := use_p hS h2.2 (fun _ _ z => F199 hS z)
          rw [isI_m (by omega) (by omega), hN] at h2
          have h2 := ifb_f c3 h2
          rw [a1, h2.1]
        · rw [if_neg c2] at h2
          have h2 := use_p hS h2.2 (fun _ _ z => F199 hS z)
          rw [isI_m (by omega) (by omega), hN] at h2
          have h2 := ifb_t c3 h2
          have h2 := use_p hS h2 (fun _ _ z => F199 hS z)
          rw [isI_t z32 eight32] at h2
          have h2 := ifb_f c4 h2
          rw [a1, h2.1]
        · rw [if_neg c2] at h2
          have h2 := use_p hS h2.2 (fun _ _ z => F199 hS z)
          rw [isI_m (by omega) (by omega), hN] at h2
          have h2 := ifb_t c3 h2
          have h2 := use_p hS h2 (fun _ _ z => F199 hS z)
          rw [isI_t z32 eight32] at h2
          have h2 := ifb_t c4 h2
          rw [a1, h2.2.1, aG_n (m := 874 + 272 * u + 1 + (9 * p2.toInt.toNat + p3.toInt.toNat)) (by rw [zi_add (zi_add (zi_add ep o32 (by omega) (by omega)) (zi_mul e9 rfl (by omega) (by omega)) (by omega) (by omega)) rfl (by omega) (by omega)]; omega)]
          rfl
end GU
