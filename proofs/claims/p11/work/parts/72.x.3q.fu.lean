section FU
variable {X : pm_X} {k : Nat} {w0 w w' : pm_W} {r : Option Value} {p p1 p2 p3 f0 p0 f : Int32} {bs : Nat → Int32} {n i v j : Nat}
theorem VL_lift {w2 : pm_W} (f2 : FM rl6 [148] w w2) (a2 : AF w w2) (h : VL w2 w' bs n i f0 p0 v) : VL w w' bs n i f0 p0 v := by
  obtain ⟨z1, z2, m, z3⟩ := h
  have g : gA w2 150 = gA w 150 := FM_a f2 (by decide)
  have rc : rcl w2 = rcl w := by funext q; unfold rcl; rw [g]
  have g9 : gI w2 147 9 = gI w 147 9 := FM_i f2 (by decide)
  rw [rc, g9] at z3
  exact ⟨FM_trans (FM_mono f2 (by decide) (by decide)) z1, AF_trans a2 z2, m, z3⟩
def tmV (w : pm_W) (v : Nat) : Bool := cond (Nat.beq v 12) (tm12 w) false
theorem tmV_n (h : v ≠ 12) : tmV w v = false := by
  unfold tmV
  cases hb : Nat.beq v 12 with
  | true => exact absurd (Nat.eq_of_beq_eq_true hb) h
  | false => rfl
/-- a village's line -/
theorem F207 (hl : (gA w 150).length = 272) (hc0 : f = 0 → 0 ≤ (rcl w 1).toInt) (h : RS w bs n i f p) (q : PS X k 207 0 [.ref 147, pm_dead, pm_dead, pm_dead, pm_dead] [] w r w') : r = none ∧ ((vbT true bs n i = -1 ∧ FM rl7 [148, 150, 151] w w' ∧ AF w w' ∧ BK w' bs n i) ∨ ∃ v : Nat, vbT true bs n i = v ∧ 6 ≤ v ∧ v ≤ 12 ∧ tkK bs n i = 1 ∧ VL w w' bs n i (ntF (tmV w v) 3 f) (ntP (tmV w v) (pl bs n i) f p) v) := by
  have hS : SK w := h.1
  have hpl := RS_pl h
  cases k with
  | zero => exact (PS_0 q).elim
  | succ k =>
    obtain ⟨r1, w2, q1, q⟩ := U207_0 hS q
    rw [hpl] at q
    have e7 : (7 : Int32).toInt = 7 := by decide +kernel
    have hat := h.2.2.2.2.2.2.2.2.1
    have hi := h.2.2.2.2.2.2.2.2.2
    rcases F208 h q1 with ⟨c1, c2, c3, c4, f2, a2, h2, er⟩ | ⟨c1, f2, a2, hB, er⟩
    · rw [o32] at c3
      rw [e7] at c4
      obtain ⟨c, hc⟩ : ∃ c, c = wdC bs (tkS bs n i) (tkN bs n i) := ⟨_, rfl⟩
      rw [← hc] at c2 c3 c4 er
      have q := q c er f2.2.2.2
      have evb : vbT true bs n i = c.toInt + 5 := by
        unfold vbT vbR
        rw [if_pos c1, if_pos rfl, ← hc, if_pos ⟨c3, c4⟩]
      have fr : FM rl6 [148] w w2 := FM_mono f2 (by decide) (by decide)
      have hl2 : (gA w2 150).length = 272 := by rw [FM_a f2 (by decide)]; exact hl
      have hk : tkK bs n i ≠ 0 := by rw [c1]; decide
      have rc1 : rcl w2 1 = rcl w 1 := by unfold rcl; rw [FM_a f2 (by decide)]
      have go : ∀ (v : Nat) (y : Int32), c = y → y.toInt + 5 = v → 6 ≤ v → v ≤ 12 → (r = none ∧ VL w2 w' bs n i (ntF (tmV w v) 3 f) (ntP (tmV w v) (pl bs n i) f p) v) → r = none ∧ ((vbT true bs n i = -1 ∧ FM rl7 [148, 150, 151] w w' ∧ AF w w' ∧ BK w' bs n i) ∨ ∃ v : Nat, vbT true bs n i = v ∧ 6 ≤ v ∧ v ≤ 12 ∧ tkK bs n i = 1 ∧ VL w w' bs n i (ntF (tmV w v) 3 f) (ntP (tmV w v) (pl bs n i) f p) v) := by
        rintro v y ey hv h6 h12 ⟨z1, z2⟩
        exact ⟨z1, Or.inr ⟨v, by rw [evb, ey]; exact hv, h6, h12, c1, VL_lift fr a2 z2⟩⟩
      have cc : c = 1 ∨ c = 2 ∨ c = 3 ∨ c = 4 ∨ c = 5 ∨ c = 6 ∨ c = 7 := by
        have t : c.toInt = 1 ∨ c.toInt = 2 ∨ c.toInt = 3 ∨ c.toInt = 4 ∨ c.toInt = 5 ∨ c.toInt = 6 ∨ c.toInt = 7 := by omega
        rcases t with t | t | t | t | t | t | t
        · exact Or.inl (Int32.toInt_inj.mp (by rw [t]; decide +kernel))
        · exact Or.inr (Or.inl (Int32.toInt_inj.mp (by rw [t]; decide +kernel)))
        · exact Or.inr (Or.inr (Or.inl (Int32.toInt_inj.mp (by rw [t]; decide +kernel))))
        · exact Or.inr (Or.inr (Or.inr (Or.inl (Int32.toInt_inj.mp (by rw [t]; decide +kernel)))))
        · exact Or.inr (Or.inr (Or.inr (Or.inr (Or.inl (Int32.toInt_inj.mp (by rw [t]; decide +kernel))))))
        · exact Or.inr (Or.inr (Or.inr (Or.inr (Or.inr (Or.inl (Int32.toInt_inj.mp (by rw [t]; decide +kernel)))))))
        · exact Or.inr (Or.inr (Or.inr (Or.inr (Or.inr (Or.inr (Int32.toInt_inj.mp (by rw [t]; decide +kernel)))))))
      rcases cc with e | e | e | e | e | e | e
      · rw [if_pos e] at q
        rw [e] at q
        refine go 6 1 e (by rw [o32]; rfl) (by decide) (by decide) ?_
        rw [tmV_n (by decide)]
        exact VL_6 hl2 h2 q
      · rw [if_neg (by rw [e]; decide +kernel), e] at q
        refine go 7 2 e (by rw [two32]; rfl) (by decide) (by decide) ?_
        rw [tmV_n (by decide)]
        exact VL_7 hl2 h2 q
      · rw [if_neg (by rw [e]; decide +kernel), e] at q
        refine go 8 3 e (by rw [three32]; rfl) (by decide) (by decide) ?_
        rw [tmV_n (by decide)]
        exact VL_8 hl2 h2 q
      · rw [if_neg (by rw [e]; decide +kernel), e] at q
        refine go 9 4 e (by rw [four32]; rfl) (by decide) (by decide) ?_
        rw [tmV_n (by decide)]
        exact VL_9 hl2 h2 q
      · rw [if_neg (by rw [e]; decide +kernel), e] at q
        refine go 10 5 e (by rw [show (5 : Int32).toInt = 5 from by decide +kernel]; rfl) (by decide) (by decide) ?_
        rw [tmV_n (by decide)]
        exact VL_10 hl2 h2 q
      · rw [if_neg (by rw [e]; decide +kernel), e] at q
        refine go 11 6 e (by rw [six32]; rfl) (by decide) (by decide) ?_
        rw [tmV_n (by decide)]
        exact VL_11 hl2 h2 q
      · rw [if_neg (by rw [e]; decide +kernel), e] at q
        refine go 12 7 e (by rw [e7]; rfl) (by decide) (by decide) ?_
        have et : tmV w 12 = tm12 w2 := by
          show tm12 w = tm12 w2
          unfold tm12
          rw [rc1]
        rw [et]
        exact VL_12 hl2 (fun hz => by rw [rc1]; exact hc0 hz) hi hk hat h2 q
    · have q := q 0 er f2.2.2.2
      rw [if_neg (by decide +kernel)] at q
      obtain ⟨y1, k', y2⟩ := T31 f2.2.2.2 (E214_B hB) (by decide +kernel) (by decide +kernel) (by decide +kernel) (by decide +kernel) (by decide +kernel) (by decide +kernel) q
      have e := END_B hB y2
      rw [e]
      refine ⟨y1, Or.inl ⟨?_, FM_mono f2 (by decide) (by decide), a2, hB⟩⟩
      unfold vbT vbR
      by_cases ck : tkK bs n i = 1
      · rw [if_pos ck, if_pos rfl, if_neg]
        intro z
        refine c1 ⟨ck, fun y => ?_, by rw [o32]; exact z.1, by rw [e7]; exact z.2⟩
        rw [y, show (99 : Int32).toInt = 99 from by decide +kernel] at z
        omega
      · rw [if_neg ck]
end FU
