/-! ===== the reference's reader: numbers, faults ===== -/
section FL
variable {X : pm_X} {k : Nat} {w0 w w' : pm_W} {r : Option Value} {p p1 p2 p3 : Int32} {bs : Nat → Int32} {n i : Nat}
/-- all[] but for the fault and its place -/
def AF (w w' : pm_W) : Prop := (gA w' 148).length = (gA w 148).length ∧ ∀ q, q ≠ 3 → q ≠ 4 → (gA w' 148).getD q 0 = (gA w 148).getD q 0
theorem AF_refl : AF w w := ⟨rfl, fun _ _ _ => rfl⟩
theorem AF_trans {w1 w2 : pm_W} (h : AF w w1) (h2 : AF w1 w2) : AF w w2 := ⟨h2.1.trans h.1, fun q a b => (h2.2 q a b).trans (h.2 q a b)⟩
theorem AF_eq {w1 : pm_W} (h : gA w1 148 = gA w 148) : AF w w1 := by
  unfold AF
  rw [h]
  exact ⟨rfl, fun _ _ _ => rfl⟩
theorem AF_rb {w1 : pm_W} (h : AF w w1) : rb w1 = rb w := by
  funext i
  exact h.2 _ (by omega) (by omega)
def qF (w : pm_W) : Int32 := (gA w 148).getD 3 0
def qP (w : pm_W) : Int32 := (gA w 148).getD 4 0
/-- the fault and its place written -/
theorem put34 {f q : Int32} {w1 w2 : pm_W} (hS : SK w) (h3 : aI w 148 3) (h4 : aI w1 148 4) (e1 : w1 = aS w 148 3 f) (e2 : w2 = aS w1 148 4 q) : FM [] [148] w w2 ∧ AF w w2 ∧ qF w2 = f ∧ qP w2 = q := by
  have a1 : gA w1 148 = (gA w 148).set 3 f := by rw [e1, gA_aS (aI_isA h3), i_nat (n := 3) three32]
  have a2 : gA w2 148 = ((gA w 148).set 3 f).set 4 q := by rw [e2, gA_aS (aI_isA h4), i_nat (n := 4) four32, a1]
  have hS1 : SK w1 := by rw [e1]; exact SK_aS hS
  have l4 : 4 < (gA w 148).length := by
    unfold aI iN at h4
    rw [a1, List.length_set, four32] at h4
    omega
  refine ⟨FM_trans (w1 := w1) (by rw [e1]; exact FM_aS hS (by decide)) (by rw [e2]; exact FM_aS hS1 (by decide)), ⟨by rw [a2, List.length_set, List.length_set], fun z h1 h2 => ?_⟩, ?_, ?_⟩
  · rw [a2, gz_ne (fun q => h2 q.symm), gz_ne (fun q => h1 q.symm)]
  · unfold qF
    rw [a2, gz_ne (by decide), gz_eq (by omega)]
  · unfold qP
    rw [a2, gz_eq (by rw [List.length_set]; exact l4)]
/-- the form breaks -/
theorem F209 (hS : SK w) (h : PS X k 209 0 [.ref 147] [] w r w') : r = none ∧ FM [(147, 8)] [148] w w' ∧ AF w w' ∧ (gI w 147 8 = 0 → gI w' 147 8 = 1 ∧ qF w' = 1 ∧ qP w' = gI w 147 4) ∧ (gI w 147 8 ≠ 0 → w' = w) := by
  cases k with
  | zero => exact (PS_0 h).elim
  | succ k =>
    have h := U209_0 hS h
    by_cases c : gI w 147 8 = 0
    · rw [if_pos c] at h
      have h := h _ rfl
      obtain ⟨w1, e1⟩ : ∃ w1, w1 = sI w 147 8 1 := ⟨_, rfl⟩
      rw [← e1] at h
      have hS1 : SK w1 := by rw [e1]; exact SK_sI hS
      obtain ⟨h3, h⟩ := h
      obtain ⟨h4, h⟩ := h _ rfl
      obtain ⟨z1, z2⟩ := h _ rfl
      obtain ⟨f2, a2, b2, c2⟩ := put34 hS1 h3 h4 rfl rfl
      rw [← z2] at f2 a2 b2 c2
      have g1 : gA w1 148 = gA w 148 := by rw [e1]; exact gA_sI
      refine ⟨z1, FM_trans (w1 := w1) (by rw [e1]; exact FM_sI hS (by decide)) (FM_mono f2 (by decide) (by decide)), AF_trans (AF_eq g1) a2, fun _ => ⟨?_, b2, ?_⟩, fun z => absurd c z⟩
      · rw [FM_i f2 (by decide), e1]
        exact gI_sI (SK_isF hS (by decide +kernel))
      · rw [c2, gI_aS, e1]
        exact gI_sI_ne (by decide)
    · rw [if_neg c] at h
      rw [h.2]
      exact ⟨h.1, FM_refl hS, AF_refl, fun z => absurd z c, fun _ => rfl⟩
/-- a fault besides -/
theorem F211 (hS : SK w) (h : PS X k 211 0 [.ref 147, .int p1, .int p2] [] w r w') : r = none ∧ FM [] [148] w w' ∧ AF w w' ∧ (gI w 147 8 ≠ 0 → w' = w) ∧ (gI w 147 8 = 0 → (qF w ≠ 0 ∧ ((qP w).toInt < p2.toInt ∨ (qP w = p2 ∧ (qF w).toInt ≤ p1.toInt)) → w' = w) ∧ (¬ (qF w ≠ 0 ∧ ((qP w).toInt < p2.toInt ∨ (qP w = p2 ∧ (qF w).toInt ≤ p1.toInt))) → qF w' = p1 ∧ qP w' = p2)) := by
  cases k with
  | zero => exact (PS_0 h).elim
  | succ k =>
    have h := U211_0 hS h
    have e3 : aG w 148 3 = qF w := aG_n (m := 3) three32
    have e4 : aG w 148 4 = qP w := aG_n (m := 4) four32
    rw [e3, e4] at h
    have same : r = none ∧ w' = w → (qF w ≠ 0 ∧ ((qP w).toInt < p2.toInt ∨ (qP w = p2 ∧ (qF w).toInt ≤ p1.toInt))) → r = none ∧ FM [] [148] w w' ∧ AF w w' ∧ (gI w 147 8 ≠ 0 → w' = w) ∧ (gI w 147 8 = 0 → (qF w ≠ 0 ∧ ((qP w).toInt < p2.toInt ∨ (qP w = p2 ∧ (qF w).toInt ≤ p1.toInt)) → w' = w) ∧ (¬ (qF w ≠ 0 ∧ ((qP w).toInt < p2.toInt ∨ (qP w = p2 ∧ (qF w).toInt ≤ p1.toInt))) → qF w' = p1 ∧ qP w' = p2)) := by
      rintro ⟨z1, z2⟩ hc
      rw [z2]
      exact ⟨z1, FM_refl hS, AF_refl, fun _ => rfl, fun _ => ⟨fun _ => rfl, fun z => absurd hc z⟩⟩
    have put : ∀ (w1 w2 : pm_W), gI w 147 8 = 0 → aI w 148 3 → w1 = aS w 148 3 p1 → aI w1 148 4 → w2 = aS w1 148 4 p2 → r = none ∧ w' = w2 → ¬ (qF w ≠ 0 ∧ ((qP w).toInt < p2.toInt ∨ (qP w = p2 ∧ (qF w).toInt ≤ p1.toInt))) → r = none ∧ FM [] [148] w w' ∧ AF w w' ∧ (gI w 147 8 ≠ 0 → w' = w) ∧ (gI w 147 8 = 0 → (qF w ≠ 0 ∧ ((qP w).toInt < p2.toInt ∨ (qP w = p2 ∧ (qF w).toInt ≤ p1.toInt)) → w' = w) ∧ (¬ (qF w ≠ 0 ∧ ((qP w).toInt < p2.toInt ∨ (qP w = p2 ∧ (qF w).toInt ≤ p1.toInt))) → qF w' = p1 ∧ qP w' = p2)) := by
      rintro w1 w2 c0 h3 e1 h4 e2 ⟨z1, z2⟩ hc
      obtain ⟨f2, a2, b2, c2⟩ := put34 hS h3 h4 e1 e2
      rw [z2]
      exact ⟨z1, f2, a2, fun z => absurd c0 z, fun _ => ⟨fun z => absurd z hc, fun _ => ⟨b2, c2⟩⟩⟩
    by_cases c0 : gI w 147 8 = 0
    · rw [if_pos c0] at h
      obtain ⟨h3, h⟩ := h
      by_cases c1 : qF w = 0
      · rw [if_pos c1] at h
        obtain ⟨h3, h⟩ := h
        obtain ⟨h4, h⟩ := h _ rfl
        exact put _ _ c0 h3 rfl h4 rfl (h _ rfl) (fun z => z.1 c1)
      · rw [if_neg c1] at h
        obtain ⟨h4, h⟩ := h
        by_cases c2 : qP w < p2
        · rw [if_pos c2] at h
          rw [Int32.lt_iff_toInt_lt] at c2
          exact same h ⟨c1, Or.inl c2⟩
        · rw [if_neg c2] at h
          rw [Int32.lt_iff_toInt_lt] at c2
          obtain ⟨_, h⟩ := h
          by_cases c3 : qP w = p2
          · rw [if_pos c3] at h
            obtain ⟨_, h⟩ := h
            by_cases c4 : p1 < qF w
            · rw [if_pos c4] at h
              rw [Int32.lt_iff_toInt_lt] at c4
              obtain ⟨h3, h⟩ := h
              obtain ⟨h4, h⟩ := h _ rfl
              refine put _ _ c0 h3 rfl h4 rfl (h _ rfl) ?_
              rintro ⟨_, z | ⟨_, z⟩⟩
              · exact c2 z
              · omega
            · rw [if_neg c4] at h
              rw [Int32.lt_iff_toInt_lt] at c4
              exact same h ⟨c1, Or.inr ⟨c3, by omega⟩⟩
          · rw [if_neg c3] at h
            obtain ⟨h3, h⟩ := h
            obtain ⟨h4, h⟩ := h _ rfl
            refine put _ _ c0 h3 rfl h4 rfl (h _ rfl) ?_
            rintro ⟨_, z | ⟨z, _⟩⟩
            · exact c2 z
            · exact c3 z
    · rw [if_neg c0] at h
      rw [h.2]
      exact ⟨h.1, FM_refl hS, AF_refl, fun _ => rfl, fun z => absurd z c0⟩
/-- the current token of the reference is the one from i on -/
def RTk (w : pm_W) (bs : Nat → Int32) (n i : Nat) : Prop := gI w 147 5 = rTk bs n i ∧ (gI w 147 4).toInt = (tkS bs n i : Nat) ∧ (gI w 147 3).toInt = (tkN bs n i : Nat) ∧ (tkK bs n i = 2 → (gI w 147 6).toInt = tkV bs n i) ∧ (tkK bs n i = 1 → gI w 147 7 = wdC bs (tkS bs n i) (tkN bs n i))
theorem RTk_FM {w1 : pm_W} {fs : List (Nat × Nat)} {as : List Nat} (h : RTk w bs n i) (f : FM fs as w w1) (h3 : (147, 3) ∉ fs) (h4 : (147, 4) ∉ fs) (h5 : (147, 5) ∉ fs) (h6 : (147, 6) ∉ fs) (h7 : (147, 7) ∉ fs) : RTk w1 bs n i := by
  unfold RTk
  rw [FM_i f h3, FM_i f h4, FM_i f h5, FM_i f h6, FM_i f h7]
  exact h
theorem rTk_1 : rTk bs n i = 1 ↔ tkK bs n i = 2 := by
  unfold rTk
  split
  · rename_i e; rw [e]; decide +kernel
  · rename_i e
    rw [e]
    constructor
    · intro z
      split at z
      · exact absurd z (by decide +kernel)
      · exact absurd z (by decide +kernel)
    · intro z; exact absurd z (by decide)
  · rename_i e; rw [e]; decide +kernel
  · rename_i e; rw [e]; decide +kernel
  · rename_i e0 e1 e2 e3
    constructor
    · intro z; exact absurd z (by decide +kernel)
    · intro z; exact absurd z e2
theorem rTk_2 : rTk bs n i = 2 ↔ tkK bs n i = 3 := by
  unfold rTk
  split
  · rename_i e; rw [e]; decide +kernel
  · rename_i e
    rw [e]
    constructor
    · intro z
      split at z
      · exact absurd z (by decide +kernel)
      · exact absurd z (by decide +kernel)
    · intro z; exact absurd z (by decide)
  · rename_i e; rw [e]; decide +kernel
  · rename_i e; rw [e]; decide +kernel
  · rename_i e0 e1 e2 e3
    constructor
    · intro z; exact absurd z (by decide +kernel)
    · intro z; exact absurd z e3
theorem rTk_3 : rTk bs n i = 3 ↔ tkK bs n i = 1 ∧ wdC bs (tkS bs n i) (tkN bs n i) ≠ 99 := by
  unfold rTk
  split
  · rename_i e; rw [e]; exact ⟨fun z => absurd z (by decide +kernel), fun z => absurd z.1 (by decide)⟩
  · rename_i e
    rw [e]
    constructor
    · intro z
      split at z
      · exact absurd z (by decide +kernel)
      · rename_i c; exact ⟨rfl, c⟩
    · intro z; rw [if_neg z.2]
  · rename_i e; rw [e]; exact ⟨fun z => absurd z (by decide +kernel), fun z => absurd z.1 (by decide)⟩
  · rename_i e; rw [e]; exact ⟨fun z => absurd z (by decide +kernel), fun z => absurd z.1 (by decide)⟩
  · rename_i e0 e1 e2 e3
    exact ⟨fun z => absurd z (by decide +kernel), fun z => absurd z.1 e1⟩
theorem rTk_0 : rTk bs n i = 0 ↔ tkK bs n i = 0 := by
  unfold rTk
  split
  · rename_i e; rw [e]; exact ⟨fun _ => rfl, fun _ => rfl⟩
  · rename_i e
    rw [e]
    constructor
    · intro z
      split at z
      · exact absurd z (by decide +kernel)
      · exact absurd z (by decide +kernel)
    · intro z; exact absurd z (by decide)
  · rename_i e; rw [e]; exact ⟨fun z => absurd z (by decide +kernel), fun z => absurd z (by decide)⟩
  · rename_i e; rw [e]; exact ⟨fun z => absurd z (by decide +kernel), fun z => absurd z (by decide)⟩
  · rename_i e0 e1 e2 e3
    exact ⟨fun z => absurd z (by decide +kernel), fun z => absurd z e0⟩
theorem RTk_next (hS : SK w) (hR : RB w) (hc : rb w = bs) (hn : rn w = n) (hT : RTk w bs n i) (h : PS X k 201 0 [.ref 147, pm_dead, pm_dead] [] w r w') : r = none ∧ FM [(147, 3), (147, 4), (147, 5), (147, 6), (147, 7)] [] w w' ∧ RTk w' bs n (tkN bs n i) := by
  obtain ⟨z1, z2, z3⟩ := F201 hS hR (by rw [hT.2.2.1]; omega) h
  have ec : rat w = tkN bs n i := by unfold rat; rw [hT.2.2.1]; omega
  unfold TKr at z3
  rw [hc, hn, ec] at z3
  exact ⟨z1, z2, z3⟩
end FL
