section FW
variable {X : pm_X} {k : Nat} {w0 w w' : pm_W} {r : Option Value} {p p1 p2 p3 f0 p0 f : Int32} {bs : Nat → Int32} {n i v j : Nat}
/-- the eight numbers stored -/
theorem L183 {x y : Int32} {c : Nat} (hc : c < 30) : ∀ (k : Nat) (w : pm_W) (t : Nat) (u : Int32), SK w → (gA w 150).length = 272 → (rcl w 0).toInt = c → u.toInt = t → t ≤ 8 → PS X k 215 183 [.ref 147, .int x, .int y, .int u] [] w r w' → ∃ (k' : Nat) (w1 : pm_W) (u' : Int32), FM [] [150] w w1 ∧ (gA w1 150).length = 272 ∧ (∀ q, rcl w1 q = if 2 + 9 * c + t ≤ q ∧ q < 10 + 9 * c then ecl w (q - (2 + 9 * c)) else rcl w q) ∧ PS X k' 215 219 [.ref 147, .int x, .int y, .int u'] [] w1 r w' := by
  intro k
  have e9 : (9 : Int32).toInt = 9 := by decide +kernel
  induction k with
  | zero => intro w t u hS hl h0 hu ht h; exact (PS_0 h).elim
  | succ k ih =>
    intro w t u hS hl h0 hu ht h
    have h := U215_183 hS h
    by_cases c8 : 8 ≤ u
    · rw [if_pos c8] at h
      rw [Int32.le_iff_toInt_le, eight32, hu] at c8
      exact ⟨k, w, u, FM_refl hS, hl, fun q => by rw [if_neg (by omega)], h⟩
    · rw [if_neg c8] at h
      rw [Int32.le_iff_toInt_le, eight32, hu] at c8
      obtain ⟨_, _, hI, h⟩ := h
      have h := h _ rfl
      have e0 : aG w 150 0 = rcl w 0 := aG_n (m := 0) z32
      rw [e0, aG_n (m := t) hu] at h
      rw [e0] at hI
      have ei : ((2 + (9 * rcl w 0)) + u).toInt = (2 + 9 * c + t : Nat) := by
        rw [zi_add (zi_add two32 (zi_mul e9 h0 (by omega) (by omega)) (by omega) (by omega)) hu (by omega) (by omega)]
        omega
      obtain ⟨w1, e1⟩ : ∃ w1, w1 = aS w 150 ((2 + (9 * rcl w 0)) + u) ((gA w 151).getD t 0) := ⟨_, rfl⟩
      rw [← e1] at h
      have g1 : gA w1 150 = (gA w 150).set (2 + 9 * c + t) ((gA w 151).getD t 0) := by rw [e1, gA_aS (aI_isA hI), i_nat ei]
      have rc1 : ∀ q, rcl w1 q = if q = 2 + 9 * c + t then (gA w 151).getD t 0 else rcl w q := by
        intro q
        unfold rcl
        rw [g1, getD_set (by omega)]
      have g2 : gA w1 151 = gA w 151 := by rw [e1]; exact gA_aS_ne (by decide)
      have hS1 : SK w1 := by rw [e1]; exact SK_aS hS
      obtain ⟨k', w2, u', a1, a2, a3, a4⟩ := ih w1 (t + 1) (u + 1) hS1 (by rw [g1, List.length_set]; exact hl) (by rw [rc1, if_neg (by omega)]; exact h0) (by rw [zi_inc (n := 8) (by omega) (by omega), hu]; rfl) (by omega) h
      refine ⟨k', w2, u', FM_trans (w1 := w1) (by rw [e1]; exact FM_aS hS (by decide)) a1, a2, fun q => ?_, a4⟩
      rw [a3 q, rc1 q]
      by_cases c1 : q = 2 + 9 * c + t
      · rw [if_neg (by omega), if_pos c1, if_pos (by omega), c1, show 2 + 9 * c + t - (2 + 9 * c) = t by omega]
        rfl
      · by_cases c2 : 2 + 9 * c + t ≤ q ∧ q < 10 + 9 * c
        · rw [if_pos (by omega), if_pos c2]
          unfold ecl
          rw [g2]
        · rw [if_neg (by omega), if_neg c1, if_neg c2]
theorem L183w {x y : Int32} : ∀ (k : Nat) (w : pm_W) (u : Int32), SK w → PS X k 215 183 [.ref 147, .int x, .int y, .int u] [] w r w' → ∃ (k' : Nat) (w1 : pm_W) (u' : Int32), FM [] [150] w w1 ∧ PS X k' 215 219 [.ref 147, .int x, .int y, .int u'] [] w1 r w' := by
  intro k
  induction k with
  | zero => intro w u hS h; exact (PS_0 h).elim
  | succ k ih =>
    intro w u hS h
    have h := U215_183 hS h
    by_cases c8 : 8 ≤ u
    · rw [if_pos c8] at h
      exact ⟨k, w, u, FM_refl hS, h⟩
    · rw [if_neg c8] at h
      obtain ⟨_, _, hI, h⟩ := h
      have h := h _ rfl
      obtain ⟨k', w2, u', a1, a4⟩ := ih _ (u + 1) (SK_aS hS) h
      exact ⟨k', w2, u', FM_trans (FM_aS hS (by decide)) a1, a4⟩
/-- a row's cells behind a further act -/
def rowR (c : Nat → Int32) (y : Int32) (e : Nat → Int32) (q : Nat) : Int32 := if q = 0 then c 0 + 1 else if q = 1 + 9 * (c 0).toInt.toNat then y else if 2 + 9 * (c 0).toInt.toNat ≤ q ∧ q < 10 + 9 * (c 0).toInt.toNat then e (q - (2 + 9 * (c 0).toInt.toNat)) else c q
/-- from label 219 on: counted, then the line's end -/
theorem T219 {x y u : Int32} (hS : SK w) (hE : ∀ w1 : pm_W, FM [] [150] w w1 → E214 X w1) (q : PS X k 215 219 [.ref 147, .int x, .int y, .int u] [] w r w') : r = none ∧ aI w 150 0 ∧ ∃ (w1 : pm_W) (k' : Nat), w1 = aS w 150 0 (rcl w 0 + 1) ∧ PS X k' 214 0 [.ref 147] [] w1 none w' := by
  cases k with
  | zero => exact (PS_0 q).elim
  | succ k =>
    obtain ⟨_, hI, q⟩ := U215_219 hS q
    have q := q _ rfl
    have e0 : aG w 150 0 = rcl w 0 := aG_n (m := 0) z32
    rw [e0] at q
    obtain ⟨r1, w2, q1, q2⟩ := q
    obtain ⟨e, hS2⟩ := hE _ (FM_aS hS (by decide)) _ _ _ q1
    subst e
    have q := q2 rfl hS2
    rw [q.2]
    exact ⟨q.1, hI, _, _, rfl, q1⟩
/-- from label 150 on: stored, counted, the line's end -/
theorem T150 {x y u : Int32} (hS : SK w) (hl : (gA w 150).length = 272) (hE : ∀ w1 : pm_W, FM [] [150] w w1 → E214 X w1) (q : PS X k 215 150 [.ref 147, .int x, .int y, .int u] [] w r w') : r = none ∧ ∃ (w1 : pm_W) (k' : Nat), FM [] [150] w w1 ∧ (0 ≤ (rcl w 0).toInt → (rcl w 0).toInt < 30 → (gA w1 150).length = 272 ∧ ∀ q, rcl w1 q = rowR (rcl w) (y - 11) (ecl w) q) ∧ PS X k' 214 0 [.ref 147] [] w1 none w' := by
  cases k with
  | zero => exact (PS_0 q).elim
  | succ k =>
    obtain ⟨_, q⟩ := U215_150 hS q
    have e0 : aG w 150 0 = rcl w 0 := aG_n (m := 0) z32
    have e9 : (9 : Int32).toInt = 9 := by decide +kernel
    have e30 : (30 : Int32).toInt = 30 := by decide +kernel
    rw [e0] at q
    by_cases c : 30 ≤ rcl w 0
    · rw [if_pos c] at q
      rw [Int32.le_iff_toInt_le, e30] at c
      obtain ⟨z1, _, w1, k', z2, z3⟩ := T219 hS hE q
      exact ⟨z1, w1, k', by rw [z2]; exact FM_aS hS (by decide), fun _ y => by omega, z3⟩
    · rw [if_neg c] at q
      rw [Int32.le_iff_toInt_le, e30] at c
      obtain ⟨_, hI, q⟩ := q
      have q := q _ rfl
      by_cases c0 : 0 ≤ (rcl w 0).toInt
      · obtain ⟨cn0, hcn⟩ : ∃ cn0, cn0 = (rcl w 0).toInt.toNat := ⟨_, rfl⟩
        have ec : (rcl w 0).toInt = cn0 := by omega
        have ei : (1 + (9 * rcl w 0)).toInt = (1 + 9 * cn0 : Nat) := by
          rw [zi_add o32 (zi_mul e9 ec (by omega) (by omega)) (by omega) (by omega)]
          omega
        obtain ⟨w1, e1⟩ : ∃ w1, w1 = aS w 150 (1 + (9 * rcl w 0)) (y - 11) := ⟨_, rfl⟩
        rw [← e1] at q
        have hS1 : SK w1 := by rw [e1]; exact SK_aS hS
        have f1 : FM [] [150] w w1 := by rw [e1]; exact FM_aS hS (by decide)
        have g1 : gA w1 150 = (gA w 150).set (1 + 9 * cn0) (y - 11) := by rw [e1, gA_aS (aI_isA hI), i_nat ei]
        have rc1 : ∀ q, rcl w1 q = if q = 1 + 9 * cn0 then y - 11 else rcl w q := by
          intro q
          unfold rcl
          rw [g1, getD_set (by omega)]
        have ec1 : ∀ q, ecl w1 q = ecl w q := fun q => by unfold ecl; rw [FM_a f1 (by decide)]
        obtain ⟨k', w2, u', f2, l2, c2, q⟩ := L183 (c := cn0) (by omega) _ w1 0 0 hS1 (by rw [g1, List.length_set]; exact hl) (by rw [rc1, if_neg (by omega)]; exact ec) z32 (by omega) q
        have f12 := FM_trans f1 f2
        obtain ⟨z1, zI, w3, k3, z2, z3⟩ := T219 f2.2.2.2 (fun w5 f5 => hE w5 (FM_trans f12 f5)) q
        refine ⟨z1, w3, k3, FM_trans f12 (by rw [z2]; exact FM_aS f2.2.2.2 (by decide)), fun _ _ => ?_, z3⟩
        have g3 : gA w3 150 = (gA w2 150).set 0 (rcl w2 0 + 1) := by rw [z2, gA_aS (aI_isA zI), i_nat (n := 0) z32]
        refine ⟨by rw [g3, List.length_set]; exact l2, fun q => ?_⟩
        have e : rcl w3 q = if q = 0 then rcl w2 0 + 1 else rcl w2 q := by
          show (gA w3 150).getD q 0 = _
          rw [g3, getD_set (by omega)]
          rfl
        have e00 : rcl w2 0 = rcl w 0 := by rw [c2 0, if_neg (by omega), rc1, if_neg (by omega)]
        rw [e, e00, c2 q, rc1 q, ec1]
        unfold rowR
        rw [← hcn]
        by_cases q0 : q = 0
        · rw [if_pos q0, if_pos q0]
        rw [if_neg q0, if_neg q0]
        by_cases q1 : q = 1 + 9 * cn0
        · rw [if_neg (by omega), if_pos q1, if_pos q1]
        rw [if_neg q1, if_neg q1, Nat.add_zero]
      · obtain ⟨k', w2, u', f2, q⟩ := L183w _ _ 0 (SK_aS hS) q
        have f12 : FM [] [150] w w2 := FM_trans (FM_aS hS (by decide)) f2
        obtain ⟨z1, zI, w3, k3, z2, z3⟩ := T219 f2.2.2.2 (fun w5 f5 => hE w5 (FM_trans f12 f5)) q
        exact ⟨z1, w3, k3, FM_trans f12 (by rw [z2]; exact FM_aS f2.2.2.2 (by decide)), fun y _ => absurd y c0, z3⟩
/-- past the verbs that it is not, to label 150 -/
theorem P133 {x y u : Int32} (hS : SK w) (h15 : y ≠ 15) (q : PS X k 215 133 [.ref 147, .int x, .int y, .int u] [] w r w') : ∃ k', PS X k' 215 150 [.ref 147, .int x, .int y, .int u] [] w r w' := by
  cases k with
  | zero => exact (PS_0 q).elim
  | succ k =>
    have q := U215_133 hS q
    rw [if_neg h15] at q
    exact ⟨_, q⟩
theorem P114 {x y u : Int32} (hS : SK w) (h14 : y ≠ 14) (q : PS X k 215 114 [.ref 147, .int x, .int y, .int u] [] w r w') : ∃ k', PS X k' 215 133 [.ref 147, .int x, .int y, .int u] [] w r w' := by
  cases k with
  | zero => exact (PS_0 q).elim
  | succ k =>
    have q := U215_114 hS q
    rw [if_neg h14] at q
    exact ⟨_, q⟩
theorem P104 {x y u : Int32} (hS : SK w) (h13 : y ≠ 13) (q : PS X k 215 104 [.ref 147, .int x, .int y, .int u] [] w r w') : ∃ k', PS X k' 215 114 [.ref 147, .int x, .int y, .int u] [] w r w' := by
  cases k with
  | zero => exact (PS_0 q).elim
  | succ k =>
    have q := U215_104 hS q
    rw [if_neg h13] at q
    exact ⟨_, q⟩
end FW
