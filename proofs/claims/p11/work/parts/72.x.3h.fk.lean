/-! ===== the class's reader: a sentence ===== -/
section FK
variable {X : pm_X} {k : Nat} {w0 w w' : pm_W} {r : Option Value} {p p1 p2 p3 : Int32} {bs : Nat → Int32} {n i : Nat}
/-- where the form breaks: behind m numbers -/
def FI (bs : Nat → Int32) (n i v m : Nat) : Prop := (∀ t, t < m → tkK bs n (tP bs n i (t + 1)) = 2) ∧ (v ≠ 2 → m ≤ dueN v ∧ (m = dueN v → tkK bs n (tP bs n i (m + 1)) ≠ 3) ∧ (m < dueN v → tkK bs n (tP bs n i (m + 1)) ≠ 2)) ∧ (v = 2 → tkK bs n (tP bs n i (m + 1)) ≠ 2 ∧ (4 ≤ m → tkK bs n (tP bs n i (m + 1)) ≠ 3))
/-- a sentence of m numbers -/
def OK (bs : Nat → Int32) (n i v m : Nat) : Prop := (∀ t, t < m → tkK bs n (tP bs n i (t + 1)) = 2) ∧ (v ≠ 2 → m = dueN v) ∧ (v = 2 → 4 ≤ m) ∧ tkK bs n (tP bs n i (m + 1)) = 3
theorem FI_FI {v m m' : Nat} (h : FI bs n i v m) (h' : FI bs n i v m') : m = m' := by
  obtain ⟨a1, a2, a3⟩ := h
  obtain ⟨b1, b2, b3⟩ := h'
  by_cases c : v = 2
  · have a := (a3 c).1
    have b := (b3 c).1
    rcases Nat.lt_trichotomy m m' with q | q | q
    · exact absurd (b1 m q) a
    · exact q
    · exact absurd (a1 m' q) b
  · obtain ⟨a4, a5, a6⟩ := a2 c
    obtain ⟨b4, b5, b6⟩ := b2 c
    rcases Nat.lt_trichotomy m m' with q | q | q
    · exact absurd (b1 m q) (a6 (by omega))
    · exact q
    · exact absurd (a1 m' q) (b6 (by omega))
theorem FI_OK {v m m' : Nat} (h : FI bs n i v m) (h' : OK bs n i v m') : False := by
  obtain ⟨a1, a2, a3⟩ := h
  obtain ⟨b1, b2, b3, b4⟩ := h'
  have b5 : tkK bs n (tP bs n i (m' + 1)) ≠ 2 := by rw [b4]; decide
  by_cases c : v = 2
  · obtain ⟨a4, a5⟩ := a3 c
    have b := b3 c
    rcases Nat.lt_trichotomy m m' with q | q | q
    · exact absurd (b1 m q) a4
    · subst q
      exact absurd b4 (a5 b)
    · exact absurd (a1 m' q) b5
  · obtain ⟨a4, a5, a6⟩ := a2 c
    have b := b2 c
    rcases Nat.lt_trichotomy m m' with q | q | q
    · exact absurd (b1 m q) (a6 (by omega))
    · subst q
      exact absurd b4 (a5 b)
    · omega
theorem OK_OK {v m m' : Nat} (h : OK bs n i v m) (h' : OK bs n i v m') : m = m' := by
  obtain ⟨a1, a2, a3, a4⟩ := h
  obtain ⟨b1, b2, b3, b4⟩ := h'
  rcases Nat.lt_trichotomy m m' with q | q | q
  · have := b1 m q; rw [a4] at this; exact absurd this (by decide)
  · exact q
  · have := a1 m' q; rw [b4] at this; exact absurd this (by decide)
def K49 (w w' : pm_W) (v m : Nat) (p1 : Int32) : Prop := FM fl49 al49 w w' ∧ (v ≤ 5 → (gI w 29 0).toInt < 30 → FM [(29, 0)] [30] w w' ∧ gI w' 29 0 = gI w 29 0 + 1 ∧ (gA w' 30).length = 270 ∧ ∀ q, (gA w' 30).getD q 0 = rowN (fun q => (gA w 30).getD q 0) (gI w 29 0).toInt.toNat p1 m (cns w) q) ∧ (6 ≤ v → (v = 12 → (gI w 24 2).toInt < 7) → goodN v (cns w) → FM [(23, 9), (24, 0), (24, 1), (24, 2)] [25, 26, 27, 28] w w' ∧ HL w' ∧ (∀ q, vcl w' 24 q = kS v (vcl w 24) (cns w) q) ∧ (gI w' 23 9).toInt = gS v (gI w 23 9).toInt (cns w))
theorem HL_FM {w1 : pm_W} {fs : List (Nat × Nat)} {as : List Nat} (h : HL w) (f : FM fs as w w1) (h2 : (24, 2) ∉ fs) (h9 : (29, 0) ∉ fs) (a5 : 25 ∉ as) (a6 : 26 ∉ as) (a7 : 27 ∉ as) (a8 : 28 ∉ as) (a0 : 30 ∉ as) : HL w1 := by
  unfold HL
  rw [FM_a f a5, FM_a f a6, FM_a f a7, FM_a f a8, FM_a f a0, FM_i f h2, FM_i f h9]
  exact h
/-- the class's outcome, the words read aside: broken behind m numbers; or m numbers, and what is kept -/
theorem F29_n (hX : XO X) {v : Nat} {f p s0 x y : Int32} (hc0 : cb w0 = bs) (hn0 : cn w0 = n) (hq0 : gR w0 23 3 ≠ 31) (hn6 : n ≤ 600) (hi : i ≤ n) (hv : p2.toInt = v) (h12 : v ≤ 12) (hk0 : tkK bs n i = 1) (hH : HL w0) (hR : RI w0 w bs n i v f p 0) (hx : x.toInt = (0 : Nat)) (hy : y.toInt = (0 : Nat)) (h : PS X k 29 39 [.ref 23, .int s0, .int p2, .int x, .int y] [] w r w') : ∃ m, (FI bs n i v m ∧ r = some (.int 0) ∧ RI w0 w' bs n i v f p m) ∨ (OK bs n i v m ∧ r = some (.int 1) ∧ ∃ (w1 w2 : pm_W), RI w0 w1 bs n i v f p m ∧ FM [(23, 5), (23, 6), (23, 7), (23, 8)] [] w1 w2 ∧ CTk w2 bs n (tP bs n i (m + 2)) ∧ ((gI w2 23 10 ≠ 0 ∧ w' = w2) ∨ (gI w2 23 10 = 0 ∧ K49 w2 w' v m p2))) := by
  obtain ⟨m, h1, h2, h3⟩ := F29_39 hX hc0 hn0 hq0 hn6 hi hv h12 hk0 k w 0 x y hR (fun t ht => absurd ht (Nat.not_lt_zero t)) (fun _ => Nat.zero_le _) hx hy h
  rcases h3 with ⟨a1, a2, a3, a4, a5⟩ | ⟨a1, k', w1, x', y', a2, a3, a4⟩
  · refine ⟨m, Or.inl ⟨⟨h1, fun _ => ⟨by omega, fun _ => by rw [a3]; decide, fun z => by omega⟩, fun z => absurd z a1⟩, a4, a5⟩⟩
  · obtain ⟨fm, hT, hf, hp, hns⟩ := a3
    have hS := fm.2.2.2
    cases k' with
    | zero => exact (PS_0 a4).elim
    | succ k' =>
      have q := U29_107 hS a4
      obtain ⟨dd, d4⟩ := dueN_i h12
      rw [i_nat hv, (XO_A hX (j := 1) (by decide)).1] at q
      have q := q.2
      have f124 : PS X k' 29 124 [.ref 23, .int s0, .int p2, .int x', .int y'] [] w1 r w' → r = some (.int 0) ∧ w' = w1 := by
        intro z
        cases k' with
        | zero => exact (PS_0 z).elim
        | succ j => exact U29_124 hS z
      by_cases c : x' < ((xA pg_arr 1).getD v 0)
      · rw [if_pos c] at q
        rw [Int32.lt_iff_toInt_lt, dd, a2] at c
        obtain ⟨z1, z2⟩ := f124 q
        rw [z2]
        refine ⟨m, Or.inl ⟨⟨h1, fun _ => ⟨by omega, fun z => by omega, fun _ => a1⟩, fun z => ⟨a1, fun z2 => ?_⟩⟩, z1, ⟨fm, hT, hf, hp, hns⟩⟩⟩
        subst z
        rw [show dueN 2 = 4 from by decide +kernel] at c
        omega
      · rw [if_neg c] at q
        rw [Int32.lt_iff_toInt_lt, dd, a2] at c
        by_cases c3 : gI w1 23 6 = 3
        · rw [if_pos c3] at q
          rw [hT.1, show (3 : Int32) = Int32.ofNat 3 from by decide +kernel, tkK_inj tkK_4 (by decide)] at c3
          have hcw : cb w1 = bs := (cb_FM fm (by decide) (by intro z; exact hq0 (List.mem_singleton.mp z))).trans hc0
          have hnw : cn w1 = n := (cn_FM fm (by decide)).trans hn0
          obtain ⟨r1, w2, q1, q2⟩ := q
          obtain ⟨u1, u2, u3⟩ := CT_next hS hcw hnw hT q1
          have hS2 := u2.2.2.2
          have q := q2 u1 hS2
          have ok : OK bs n i v m := ⟨h1, fun z => by have := h2 z; omega, fun z => by subst z; rw [show dueN 2 = 4 from by decide +kernel] at c; omega, c3⟩
          have f143 : ∀ (w3 : pm_W), SK w3 → PS X k' 29 143 [.ref 23, .int s0, .int p2, .int x', .int y'] [] w3 r w' → r = some (.int 1) ∧ w' = w3 := by
            intro w3 hS3 z
            cases k' with
            | zero => exact (PS_0 z).elim
            | succ j => exact U29_143 hS3 z
          by_cases c4 : gI w2 23 10 = 0
          · rw [if_pos c4] at q
            obtain ⟨r3, w4, q3, q4⟩ := q
            have hH2 : HL w2 := HL_FM (HL_FM hH fm (by decide) (by decide) (by decide) (by decide) (by decide) (by decide) (by decide)) u2 (by decide) (by decide) (by decide) (by decide) (by decide) (by decide) (by decide)
            obtain ⟨v1, v2⟩ := F49 hS2 hH2 hv h12 a2 q3
            obtain ⟨z1, z2⟩ := f143 w4 v2.1.2.2.2 (q4 v1 v2.1.2.2.2)
            rw [z2]
            exact ⟨m, Or.inr ⟨ok, z1, w1, w2, ⟨fm, hT, hf, hp, hns⟩, u2, u3, Or.inr ⟨c4, v2⟩⟩⟩
          · rw [if_neg c4] at q
            obtain ⟨z1, z2⟩ := f143 w2 hS2 q
            exact ⟨m, Or.inr ⟨ok, z1, w1, w2, ⟨fm, hT, hf, hp, hns⟩, u2, u3, Or.inl ⟨c4, z2⟩⟩⟩
        · rw [if_neg c3] at q
          rw [hT.1, show (3 : Int32) = Int32.ofNat 3 from by decide +kernel, tkK_inj tkK_4 (by decide)] at c3
          obtain ⟨z1, z2⟩ := f124 q
          rw [z2]
          exact ⟨m, Or.inl ⟨⟨h1, fun z => ⟨h2 z, fun _ => c3, fun _ => a1⟩, fun _ => ⟨a1, fun _ => c3⟩⟩, z1, ⟨fm, hT, hf, hp, hns⟩⟩⟩
end FK
