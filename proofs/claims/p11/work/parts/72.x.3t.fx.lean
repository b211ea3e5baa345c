section FX
variable {X : pm_X} {k : Nat} {w0 w wE w' : pm_W} {r : Option Value} {p p1 p2 p3 f0 p0 f : Int32} {bs : Nat → Int32} {n i v j m : Nat}
theorem len150 (hS : SK w) : (gA w 150).length = 272 := SK_len hS (by decide +kernel) (by decide)
theorem len151 (hS : SK w) : (gA w 151).length = 8 := SK_len hS (by decide +kernel) (by decide)
/-- eight numbers, told or none -/
def e8 (bs : Nat → Int32) (n i m t : Nat) : Int32 := if t < m then ns32 bs n i t else -1
/-- the outcome of a row's line -/
def RL (w w' : pm_W) (bs : Nat → Int32) (n i : Nat) (f0 p0 : Int32) (v : Nat) : Prop := FM rl7 [148, 150, 151] w w' ∧ AF w w' ∧ ∃ m, (FI bs n i v m ∧ BK w' bs n (tP bs n i (m + 1))) ∨ (OK bs n i v m ∧ RS w' bs n (tP bs n i (m + 2)) (fJ bs n i v f0 p0 m).1 (fJ bs n i v f0 p0 m).2 ∧ ((fJ bs n i v f0 p0 m).1 = 0 → ∃ e : Nat → Int32, (∀ t, t < 8 → e t = e8 bs n i m t) ∧ ∀ q, rcl w' q = rowR (rcl w) (Int32.ofNat v) e q))
/-- from label 150 on, m numbers being read -/
theorem FIN_R {x y u : Int32} (hv : v ≠ 2) (hm : dueN v = m) (hK : ∀ t, t < m → tkK bs n (tP bs n i (t + 1)) = 2) (fm : FM rl7 [148, 151] w wE) (af : AF w wE) (h : RJ wE bs n i v f0 p0 m) (hc0 : f0 = 0 → 0 ≤ (rcl w 0).toInt) (hc : (fJ bs n i v f0 p0 m).1 = 0 → (rcl w 0).toInt < 30) (hy : y - 11 = Int32.ofNat v) (he : (fJ bs n i v f0 p0 m).1 = 0 → ∀ t, t < 8 → ecl wE t = e8 bs n i m t) (q : PS X k 215 150 [.ref 147, .int x, .int y, .int u] [] wE r w') : r = none ∧ RL w w' bs n i f0 p0 v := by
  have rcE : ∀ q, rcl wE q = rcl w q := fun q => by unfold rcl; rw [FM_a fm (by decide)]
  obtain ⟨z1, w1, k', f1, c1, z2⟩ := T150 fm.2.2.2 (len150 fm.2.2.2) (fun w1 f1 => E214_R (RS_wr h (FM_mono f1 (by decide) (by decide)))) q
  have h1 : RJ w1 bs n i v f0 p0 m := RJ_wr h (FM_mono f1 (by decide) (by decide))
  obtain ⟨g1, g2, g3⟩ := END_R hv hm hK h1 z2
  refine ⟨z1, FM_trans (FM_mono fm (by decide) (by decide)) (FM_trans (FM_mono f1 (by decide) (by decide)) (FM_mono g1 (by decide) (by decide))), AF_trans (AF_trans af (AF_eq (FM_a f1 (by decide)))) g2, m, ?_⟩
  rcases g3 with ⟨g3, g4⟩ | g3
  · refine Or.inr ⟨g3, g4, fun hz => ⟨ecl wE, he hz, fun q => ?_⟩⟩
    have e : rcl w' q = rcl w1 q := by unfold rcl; rw [FM_a g1 (by decide)]
    have ef : rcl wE = rcl w := funext rcE
    rw [e, (c1 (by rw [rcE]; exact hc0 (fJ_00 m hz)) (by rw [rcE]; exact hc hz)).2 q, hy, ef]
  · exact Or.inl g3
/-- from label 150 on, the form being broken -/
theorem FIN_B {x y u : Int32} (hF : FI bs n i v j) (fm : FM rl7 [148, 151] w wE) (af : AF w wE) (h : BK wE bs n (tP bs n i (j + 1))) (hc0 : f0 = 0 → 0 ≤ (rcl w 0).toInt) (q : PS X k 215 150 [.ref 147, .int x, .int y, .int u] [] wE r w') : r = none ∧ RL w w' bs n i f0 p0 v := by
  have rcE : ∀ q, rcl wE q = rcl w q := fun q => by unfold rcl; rw [FM_a fm (by decide)]
  obtain ⟨z1, w1, k', f1, c1, z2⟩ := T150 fm.2.2.2 (len150 fm.2.2.2) (fun w1 f1 => E214_B (BK_wr h (FM_mono f1 (by decide) (by decide)))) q
  have h1 := BK_wr h (FM_mono f1 (by decide) (by decide))
  have e := END_B h1 z2
  rw [e]
  exact ⟨z1, FM_trans (FM_mono fm (by decide) (by decide)) (FM_mono f1 (by decide) (by decide)), AF_trans af (AF_eq (FM_a f1 (by decide))), j, Or.inl ⟨hF, h1⟩⟩
/-- month -/
theorem RL_5 {x u : Int32} (fm : FM rl7 [148, 151] w wE) (af : AF w wE) (he : ∀ t, t < 8 → ecl wE t = -1) (h : RJ wE bs n i 5 f0 p0 0) (hc0 : f0 = 0 → 0 ≤ (rcl w 0).toInt) (hc : f0 = 0 → (rcl w 0).toInt < 30) (q : PS X k 215 104 [.ref 147, .int x, .int 16, .int u] [] wE r w') : r = none ∧ RL w w' bs n i f0 p0 5 := by
  obtain ⟨k1, q⟩ := P104 fm.2.2.2 (by decide +kernel) q
  obtain ⟨k2, q⟩ := P114 fm.2.2.2 (by decide +kernel) q
  obtain ⟨k3, q⟩ := P133 fm.2.2.2 (by decide +kernel) q
  exact FIN_R (by decide) (dN _ _ (by decide +kernel)) (fun t ht => absurd ht (Nat.not_lt_zero t)) fm af h hc0 hc (by decide +kernel) (fun _ t ht => by unfold e8; rw [if_neg (Nat.not_lt_zero t)]; exact he t ht) q
/-- strike -/
theorem RL_3 {x u : Int32} (fm : FM rl7 [148, 151] w wE) (af : AF w wE) (he : ∀ t, t < 8 → ecl wE t = -1) (h : RJ wE bs n i 3 f0 p0 0) (hc0 : f0 = 0 → 0 ≤ (rcl w 0).toInt) (hc : f0 = 0 → (rcl w 0).toInt < 30) (q : PS X k 215 104 [.ref 147, .int x, .int 14, .int u] [] wE r w') : r = none ∧ RL w w' bs n i f0 p0 3 := by
  obtain ⟨k1, q⟩ := P104 fm.2.2.2 (by decide +kernel) q
  cases k1 with
  | zero => exact (PS_0 q).elim
  | succ k1 =>
    have q := U215_114 fm.2.2.2 q
    rw [if_pos rfl] at q
    obtain ⟨r4, w5, q1, q2⟩ := q
    have e29 : (29 : Int32).toInt = 29 := by decide +kernel
    rcases R_num (by decide) (Or.inr (by rw [badI_lo (by decide) (by decide), show lwL 3 0 = 0 from by decide +kernel, show lwH 3 0 = 29 from by decide +kernel, z32, e29])) h q1 with ⟨z1, z2, z3, z9, y, z4, z5, z6⟩ | ⟨z1, z2, z3, z4, z5⟩
    · obtain ⟨hI, q⟩ := q2 y z4 z2.2.2.2
      have q := q _ rfl
      obtain ⟨w7, e7⟩ : ∃ w7, w7 = aS w5 151 0 y := ⟨_, rfl⟩
      rw [← e7] at q
      have f7 : FM [] [151] w5 w7 := by rw [e7]; exact FM_aS z2.2.2.2 (by decide)
      have h7 : RJ w7 bs n i 3 f0 p0 1 := RJ_wr z5 (FM_mono f7 (by decide) (by decide))
      obtain ⟨k3, q⟩ := P133 f7.2.2.2 (by decide +kernel) q
      refine FIN_R (by decide) (dN _ _ (by decide +kernel)) (fun t ht => by rw [show t = 0 by omega]; exact z1) (FM_trans fm (FM_trans (FM_mono z2 (by decide) (by decide)) (FM_mono f7 (by decide) (by decide)))) (AF_trans af (AF_trans z3 (AF_eq (FM_a f7 (by decide))))) h7 hc0 (fun hz => hc (fJ_0 (by decide) hz)) (by decide +kernel) (fun hz t ht => ?_) q
      have g : gA w7 151 = (gA wE 151).set 0 y := by rw [e7, gA_aS (aI_isA hI), i_nat (n := 0) z32, FM_a z2 (by decide)]
      have l8 := len151 fm.2.2.2
      unfold ecl e8
      rw [g, getD_set (by omega)]
      by_cases c : t = 0
      · rw [if_pos c, if_pos (by omega), c]
        exact ns32_of (z6 hz)
      · rw [if_neg c, if_neg (by omega)]
        exact he t ht
    · obtain ⟨hI, q⟩ := q2 _ z5 z2.2.2.2
      have q := q _ rfl
      have f7 : FM [] [151] w5 (aS w5 151 0 0) := FM_aS z2.2.2.2 (by decide)
      obtain ⟨k3, q⟩ := P133 f7.2.2.2 (by decide +kernel) q
      exact FIN_B (FI_lt (by decide) (by rw [dN 3 1 (by decide +kernel)]; decide) (fun t ht => absurd ht (Nat.not_lt_zero t)) z1) (FM_trans fm (FM_trans (FM_mono z2 (by decide) (by decide)) (FM_mono f7 (by decide) (by decide)))) (AF_trans af (AF_trans z3 (AF_eq (FM_a f7 (by decide))))) (BK_wr z4 (FM_mono f7 (by decide) (by decide))) hc0 q
/-- fail -/
theorem RL_4 {x u : Int32} (fm : FM rl7 [148, 151] w wE) (af : AF w wE) (he : ∀ t, t < 8 → ecl wE t = -1) (h : RJ wE bs n i 4 f0 p0 0) (hc0 : f0 = 0 → 0 ≤ (rcl w 0).toInt) (hc : f0 = 0 → (rcl w 0).toInt < 30) (q : PS X k 215 104 [.ref 147, .int x, .int 15, .int u] [] wE r w') : r = none ∧ RL w w' bs n i f0 p0 4 := by
  obtain ⟨k1, q⟩ := P104 fm.2.2.2 (by decide +kernel) q
  obtain ⟨k2, q⟩ := P114 fm.2.2.2 (by decide +kernel) q
  cases k2 with
  | zero => exact (PS_0 q).elim
  | succ k2 =>
    have q := U215_133 fm.2.2.2 q
    rw [if_pos rfl] at q
    obtain ⟨r4, w5, q1, q2⟩ := q
    have m1 : ((-1 : Int32)).toInt = -1 := by decide +kernel
    rcases R_per (by decide) (Or.inr (by rw [badI_lo (by decide) (by decide), show lwL 4 0 = 0 from by decide +kernel, show lwH 4 0 = 8 from by decide +kernel, m1]; omega)) h q1 with ⟨z1, z2, z3, y, z4, z5, z6, _, _⟩ | ⟨z1, z2, z3, z4, y, z5⟩
    · obtain ⟨hI, q⟩ := q2 y z4 z2.2.2.2
      have q := q _ rfl
      obtain ⟨w7, e7⟩ : ∃ w7, w7 = aS w5 151 0 y := ⟨_, rfl⟩
      rw [← e7] at q
      have f7 : FM [] [151] w5 w7 := by rw [e7]; exact FM_aS z2.2.2.2 (by decide)
      have h7 : RJ w7 bs n i 4 f0 p0 1 := RJ_wr z5 (FM_mono f7 (by decide) (by decide))
      refine FIN_R (by decide) (dN _ _ (by decide +kernel)) (fun t ht => by rw [show t = 0 by omega]; exact z1) (FM_trans fm (FM_trans (FM_mono z2 (by decide) (by decide)) (FM_mono f7 (by decide) (by decide)))) (AF_trans af (AF_trans z3 (AF_eq (FM_a f7 (by decide))))) h7 hc0 (fun hz => hc (fJ_0 (by decide) hz)) (by decide +kernel) (fun hz t ht => ?_) q
      have g : gA w7 151 = (gA wE 151).set 0 y := by rw [e7, gA_aS (aI_isA hI), i_nat (n := 0) z32, FM_a z2 (by decide)]
      have l8 := len151 fm.2.2.2
      unfold ecl e8
      rw [g, getD_set (by omega)]
      by_cases c : t = 0
      · rw [if_pos c, if_pos (by omega), c]
        exact ns32_of (z6 hz)
      · rw [if_neg c, if_neg (by omega)]
        exact he t ht
    · obtain ⟨hI, q⟩ := q2 _ z5 z2.2.2.2
      have q := q _ rfl
      have f7 : FM [] [151] w5 (aS w5 151 0 y) := FM_aS z2.2.2.2 (by decide)
      exact FIN_B (FI_lt (by decide) (by rw [dN 4 1 (by decide +kernel)]; decide) (fun t ht => absurd ht (Nat.not_lt_zero t)) z1) (FM_trans fm (FM_trans (FM_mono z2 (by decide) (by decide)) (FM_mono f7 (by decide) (by decide)))) (AF_trans af (AF_trans z3 (AF_eq (FM_a f7 (by decide))))) (BK_wr z4 (FM_mono f7 (by decide) (by decide))) hc0 q
end FX
