section FT
variable {X : pm_X} {k : Nat} {w0 w w' : pm_W} {r : Option Value} {p p1 p2 p3 f0 p0 f : Int32} {bs : Nat → Int32} {n i v j : Nat}
/-- one fault more at the sentence's first token, which lies behind -/
theorem also3 {kd : Int32} (hS : SK w) (hi : i ≤ n) (hk : tkK bs n i ≠ 0) (h : RS w bs n (tP bs n i 1) f p) (hat : f ≠ 0 → p.toInt < tkS bs n i ∨ (p = pl bs n i ∧ f = 2)) (h2 : (2 : Int) ≤ kd.toInt) (q : PS X k 211 0 [.ref 147, .int kd, .int (pl bs n i)] [] w r w') : r = none ∧ FM [] [148] w w' ∧ AF w w' ∧ RS w' bs n (tP bs n i 1) (ntF true kd f) (ntP true (pl bs n i) f p) := by
  have n6 := RS_n6 h
  obtain ⟨z1, z2, z3, _, z5⟩ := F211 hS q
  obtain ⟨s1, s2, s3, s4, s5, s6, s7, s8, s9, s10⟩ := h
  obtain ⟨g2, g3⟩ := z5 s2
  have ff : qF w' = ntF true kd f ∧ qP w' = ntP true (pl bs n i) f p := by
    rw [ntF_t, ntP_t]
    by_cases c0 : f = 0
    · rw [if_pos c0, if_pos c0]
      exact g3 (fun z => z.1 (s7.trans c0))
    · rw [if_neg c0, if_neg c0, g2 ⟨by rw [s7]; exact c0, by
        rw [s8, s7]
        rcases hat c0 with y | ⟨y, y2⟩
        · exact Or.inl (by rw [pl_i n6 hi]; exact y)
        · exact Or.inr ⟨y, by rw [y2, two32]; exact h2⟩⟩]
      exact ⟨s7, s8⟩
  have b := tkN_b hk
  have s := tkS_b (bs := bs) (n := n) (i := tkN bs n i)
  refine ⟨z1, z2, z3, z2.2.2.2, by rw [FM_i z2 (by decide)]; exact s2, RTk_FM s3 z2 (by decide) (by decide) (by decide) (by decide) (by decide), (AF_rb z3).trans s4, (rn_FM z2 (by decide)).trans s5, ?_, ff.1, ff.2, fun hz => ?_, s10⟩
  · unfold RB
    rw [FM_i z2 (by decide), rn_FM z2 (by decide), AF_rb z3]
    exact s6
  · left
    show (ntP true (pl bs n i) f p).toInt < (tkS bs n (tkN bs n i) : Nat)
    rw [ntP_t]
    by_cases c0 : f = 0
    · rw [if_pos c0, pl_i n6 hi]
      omega
    · rw [if_neg c0]
      rcases hat c0 with y | ⟨y, _⟩
      · omega
      · rw [y, pl_i n6 hi]; omega
/-- one want too many -/
def tm12 (w : pm_W) : Bool := decide (7 ≤ (rcl w 1).toInt)
theorem VL_12 (hl : (gA w 150).length = 272) (hc0 : f = 0 → 0 ≤ (rcl w 1).toInt) (hi : i ≤ n) (hk : tkK bs n i ≠ 0) (hat : f ≠ 0 → p.toInt < tkS bs n i ∨ (p = pl bs n i ∧ f = 2)) (h : RS w bs n (tP bs n i 1) f p) (q : PS X k 207 31 [.ref 147, .int (pl bs n i), .int 7, pm_dead, pm_dead] [] w r w') : r = none ∧ VL w w' bs n i (ntF (tm12 w) 3 f) (ntP (tm12 w) (pl bs n i) f p) 12 := by
  have hS : SK w := h.1
  have e7 : (7 : Int32).toInt = 7 := by decide +kernel
  obtain ⟨k1, q⟩ := P31 hS (by decide +kernel) q
  obtain ⟨k2, q⟩ := P70 hS (by decide +kernel) q
  obtain ⟨k3, q⟩ := P121 hS (by decide +kernel) (by decide +kernel) q
  obtain ⟨k4, q⟩ := P182 hS (by decide +kernel) q
  cases k4 with
  | zero => exact (PS_0 q).elim
  | succ k4 =>
    have q := U207_201 hS q
    rw [if_pos rfl] at q
    obtain ⟨r1, w2, q1, q2⟩ := q
    have hd : dueN 12 = 4 := dN _ _ (by decide +kernel)
    cases k4 with
    | zero => exact (PS_0 q1).elim
    | succ k4 =>
      obtain ⟨_, q1⟩ := U213_0 hS q1
      rw [aG_n (m := 1) o32] at q1
      have q1 : if rcl w 1 < 7 then _ else _ := q1
      -- the state from label 17 on
      have s17 : ∃ (w3 : pm_W) (k5 : Nat), FM [] [148] w w3 ∧ AF w w3 ∧ RJ w3 bs n i 12 (ntF (tm12 w) 3 f) (ntP (tm12 w) (pl bs n i) f p) 0 ∧ PS X k5 213 17 [.ref 147, .int (pl bs n i), pm_dead, pm_dead, pm_dead, pm_dead, pm_dead] [] w3 r1 w2 := by
        by_cases c : rcl w 1 < 7
        · rw [if_pos c] at q1
          rw [Int32.lt_iff_toInt_lt, e7] at c
          refine ⟨w, _, FM_refl hS, AF_refl, ?_, q1⟩
          unfold tm12
          rw [decide_eq_false (by omega)]
          exact h
        · rw [if_neg c] at q1
          rw [Int32.lt_iff_toInt_lt, e7] at c
          obtain ⟨r3, w3, q3, q4⟩ := q1
          obtain ⟨z1, z2, z3, z4⟩ := also3 hS hi hk h hat (by rw [three32]; decide) q3
          refine ⟨w3, _, z2, z3, ?_, q4 z1 z2.2.2.2⟩
          unfold tm12
          rw [decide_eq_true (by omega)]
          exact z4
      obtain ⟨w3, k5, f3, a3, h3, q3⟩ := s17
      have g3 : gA w3 150 = gA w 150 := FM_a f3 (by decide)
      have rc3 : ∀ q, rcl w3 q = rcl w q := fun q => by unfold rcl; rw [g3]
      have hc3 : (fJ bs n i 12 (ntF (tm12 w) 3 f) (ntP (tm12 w) (pl bs n i) f p) 0).1 = 0 → (rcl w3 1).toInt < 7 := by
        intro hz
        have hz : ntF (tm12 w) 3 f = 0 := hz
        rw [rc3]
        by_cases c : 7 ≤ (rcl w 1).toInt
        · exfalso
          unfold tm12 at hz
          rw [decide_eq_true c, ntF_t] at hz
          by_cases c0 : f = 0
          · rw [if_pos c0] at hz; exact absurd hz (by decide +kernel)
          · rw [if_neg c0] at hz; exact c0 hz
        · omega
      obtain ⟨z1, z2, z3, z4⟩ := F213_17 (by rw [g3]; exact hl) (fun hz => by rw [rc3]; exact hc0 (ntF_z (by decide +kernel) hz).1) hc3 h3 q3
      have q := q2 z1 z2.2.2.2
      have fa : FM rl7 [148, 150, 151] w w2 := FM_trans (FM_mono f3 (by decide) (by decide)) z2
      have aa : AF w w2 := AF_trans a3 z3
      rcases z4 with ⟨j, y1, y2, y3, y4⟩ | ⟨y1, y2, y3⟩
      · obtain ⟨x1, k', x2⟩ := T212 fa.2.2.2 (E214_B y4) q
        have e := END_B y4 x2
        rw [e]
        exact ⟨x1, fa, aa, j, Or.inl ⟨FI_lt (by decide) (by omega) y2 y3, y4⟩⟩
      · obtain ⟨x1, k', x2⟩ := T212 fa.2.2.2 (E214_R y2) q
        obtain ⟨g1, g2, g4⟩ := END_R (by decide) hd y1 y2 x2
        refine ⟨x1, FM_trans fa (FM_mono g1 (by decide) (by decide)), AF_trans aa g2, 4, ?_⟩
        rcases g4 with ⟨g4, g5⟩ | g4
        · refine Or.inr ⟨g4, g5, fun hz => ?_⟩
          obtain ⟨u1, u2, u3⟩ := y3 hz
          have g150 : gA w' 150 = gA w2 150 := FM_a g1 (by decide)
          refine ⟨by rw [g150]; exact u1, fun q => ?_, ?_⟩
          · have e : rcl w' q = rcl w2 q := by unfold rcl; rw [g150]
            rw [e, u2 q]
            have ef : rcl w3 = rcl w := funext rc3
            rw [ef]
          · rw [FM_i g1 (by decide), u3, FM_i f3 (by decide)]
        · exact Or.inl g4
end FT
