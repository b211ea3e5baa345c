section GC
variable {X : pm_X} {k : Nat} {w0 w wE w' : pm_W} {r : Option Value} {p p1 p2 p3 f0 p0 f q : Int32} {bs : Nat → Int32} {n i v j m : Nat}
theorem F163 {x y : Int32} {u3 u4 : Value} (hS : SK w) (z : PS X k 216 163 [.ref 147, .int x, .int y, u3, u4] [] w r w') : r = none ∧ w' = w := by
  cases k with
  | zero => exact (PS_0 z).elim
  | succ k => exact U216_163 hS z
/-- one token on, then j -/
theorem tP_sh : ∀ j : Nat, tP bs n i (j + 1) = tP bs n (tP bs n i 1) j
  | 0 => rfl
  | j + 1 => by
    show tkN bs n (tP bs n i (j + 1)) = tkN bs n (tP bs n (tP bs n i 1) j)
    rw [tP_sh j]
/-- the loop over a ring's people -/
theorem RG30 : ∀ (N k : Nat) (w : pm_W) (j S : Nat) (i1 i2 : Int32) (u3 u4 : Value), n - tP bs n i (2 + j + 1) < N → i1.toInt = j → i2.toInt = S → RGI w bs n i f0 p0 j S → (∀ t, t < 2 + j → tkK bs n (tP bs n i (t + 1)) = 2) → PS X k 216 30 [.ref 147, .int i1, .int i2, u3, u4] [] w r w' → r = none ∧ FM rl7 [148, 151] w w' ∧ AF w w' ∧ ∃ m, 2 ≤ m ∧ (∀ t, t < m → tkK bs n (tP bs n i (t + 1)) = 2) ∧ tkK bs n (tP bs n i (m + 1)) ≠ 2 ∧ ((4 ≤ m ∧ ∃ S', RGI w' bs n i f0 p0 (m - 2) S') ∨ (m < 4 ∧ BK w' bs n (tP bs n i (m + 1)))) := by
  intro N
  induction N with
  | zero => intro k w j S i1 i2 u3 u4 hN; exact absurd hN (Nat.not_lt_zero _)
  | succ N ih =>
    intro k w j S i1 i2 u3 u4 hN h1 h2 hg hK z
    have hS : SK w := hg.1.1
    obtain ⟨k, rfl⟩ : ∃ k', k = k' + 1 := by
      cases k with
      | zero => exact (PS_0 z).elim
      | succ k => exact ⟨k, rfl⟩
    have hJ := hg.1
    have z := U216_30 hS z
    rw [if_pos hJ.2.1] at z
    by_cases hk : tkK bs n (tP bs n i (2 + j + 1)) = 2
    · have eq5 : gI w 147 5 = 1 := by rw [hJ.2.2.1.1, rTk_1]; exact hk
      have z50 : PS X k 216 50 [.ref 147, .int i1, .int i2, u3, u4] [] w r w' := by
        by_cases c : i1 < 2
        · rw [if_pos c] at z; exact z
        · rw [if_neg c, if_pos eq5] at z; exact z
      obtain ⟨w9, k9, S', y2, z3, z4, a1, a2, a3, a4, a5⟩ := RG_step h1 h2 hg hk z50
      have b := tkN_b (bs := bs) (n := n) (i := tP bs n i (2 + j + 1)) (by rw [hk]; decide)
      have s := tkS_b (bs := bs) (n := n) (i := tP bs n i (2 + j + 1))
      have et : tP bs n i (2 + (j + 1) + 1) = tkN bs n (tP bs n i (2 + j + 1)) := rfl
      have n6 := RS_n6 hJ
      have jb : j < 2147483647 := by
        have := tP_grow (bs := bs) (n := n) (i := tP bs n i 1) (2 + j) (fun t ht => by
          rw [← tP_sh, hK t ht]; decide)
        have g2 := hJ.2.2.2.2.2.2.2.2.2
        rw [← tP_sh] at this
        omega
      obtain ⟨c1, c2, c3, m, c4, c5, c6, c7⟩ := ih k9 w9 (j + 1) S' (i1 + 1) y2 _ _ (by rw [et]; omega) (by rw [zi_inc (n := 2147483647) (by omega) (by omega), h1]; rfl) a4 a3 (fun t ht => by
        by_cases c : t = 2 + j
        · rw [c]; exact hk
        · exact hK t (by omega)) a5
      exact ⟨c1, FM_trans a1 c2, AF_trans a2 c3, m, c4, c5, c6, c7⟩
    · have ne5 : gI w 147 5 ≠ 1 := by rw [hJ.2.2.1.1]; exact fun y => hk (rTk_1.mp y)
      by_cases c : i1 < 2
      · rw [if_pos c] at z
        rw [Int32.lt_iff_toInt_lt, two32, h1] at c
        have e6 : (6 : Int32).toInt = 6 := six32
        cases k with
        | zero => exact (PS_0 z).elim
        | succ k =>
          have z := U216_50 hS z
          rw [if_pos (by rw [Int32.lt_iff_toInt_lt, e6]; omega)] at z
          cases k with
          | zero => exact (PS_0 z).elim
          | succ k =>
            have z := U216_73 hS z
            rw [if_neg ne5] at z
            cases k with
            | zero => exact (PS_0 z).elim
            | succ k =>
              have z := U216_110 hS z
              cases k with
              | zero => exact (PS_0 z).elim
              | succ k =>
                obtain ⟨r1, w1, q1, z⟩ := U216_125 hS z
                rcases F210 hJ q1 with ⟨y1, _⟩ | ⟨_, b2, b3, b4, b5⟩
                · exact absurd y1 hk
                · have z := z _ b5 b2.2.2.2
                  rw [if_neg (by rw [Int32.le_iff_toInt_le, e6]; omega)] at z
                  obtain ⟨_, z⟩ := z
                  have z := z _ rfl
                  have f2 : FM [] [151] w1 (aS w1 151 (2 + i1) 0) := FM_aS b2.2.2.2 (by decide)
                  have hB := BK_wr b4 (FM_mono f2 (by decide) (by decide))
                  cases k with
                  | zero => exact (PS_0 z).elim
                  | succ k =>
                    have z := U216_157 f2.2.2.2 z
                    cases k with
                    | zero => exact (PS_0 z).elim
                    | succ k =>
                      have z := U216_30 f2.2.2.2 z
                      rw [if_neg hB.2.1] at z
                      obtain ⟨z1, z2⟩ := F163 f2.2.2.2 z
                      rw [z2]
                      exact ⟨z1, FM_trans (FM_mono b2 (by decide) (by decide)) (FM_mono f2 (by decide) (by decide)), AF_trans b3 (AF_eq (FM_a f2 (by decide))), 2 + j, by omega, hK, hk, Or.inr ⟨by omega, hB⟩⟩
      · rw [if_neg c, if_neg ne5] at z
        rw [Int32.lt_iff_toInt_lt, two32, h1] at c
        obtain ⟨z1, z2⟩ := F163 hS z
        rw [z2]
        exact ⟨z1, FM_refl hS, AF_refl, 2 + j, by omega, hK, hk, Or.inl ⟨by omega, S, by rw [show 2 + j - 2 = j by omega]; exact hg⟩⟩
end GC
