/-! ===== text: both sides answer alike, and what is told stays alike ===== -/
section GQT
variable {X : pm_X} {k k2 : Nat} {w0 w w1 w2 w' : pm_W} {r r2 : Option Value} {p p1 p2 p3 f0 p0 f q : Int32} {bs cs : Nat → Int32} {n i v j m a s T : Nat} {b : Bool} {c : Nat → Int32} {g : Int}
def flTX : List (Nat × Nat) := [(1, 2), (1, 3), (5, 0), (5, 1), (5, 2), (10, 0), (10, 1), (10, 2), (15, 0), (17, 0), (19, 0)] ++ fl16 ++ fl198
def alTX : List Nat := [6, 7, 8, 9, 11, 12, 13, 14, 16, 18, 20] ++ alR ++ [148, 150, 151]
theorem RD_eq {N N' : Nat} {o o' : OC} (hBE : BEq bs cs n) (h : RDq b bs n N 0 0 (-1) (i0 b) (-1) o) (h' : RDq b cs n N' 0 0 (-1) (i0 b) 0 o') : fF b o' = fF b o ∧ pF b n o' = pF b n o ∧ o'.2.2.2.1 = o.2.2.2.1 := by
  have e := RD_det N N' (RD_g N h) (BE_RD hBE N' h')
  rw [e]
  obtain ⟨z1, z2⟩ := og_F (b := b) (n := n) (o := o) (fun hb => by
    subst hb
    exact RD_people N h (by decide +kernel))
  exact ⟨z1, z2, rfl⟩
theorem TXT (hX : XO X) (hS : SK w) (hTE : TE w 1 (al w)) (h1 : PS X k 16 0 [.ref 0, .int p1, .int p2, pm_dead, pm_dead] [] w r w1) (h2 : PS X k2 198 0 [.ref 147, .int p1, .int p2, pm_dead, pm_dead, pm_dead] [] w1 r2 w2) : r2 = r ∧ TE w2 1 (al w2) ∧ FM flTX alTX w w2 ∧ ∀ q, 1690 ≤ q → al w2 q = al w q := by
  have hTE' := hTE
  obtain ⟨⟨r1, r2', r3, r4, r5, r6, r7⟩, t1, t2, t3, t4, t5, t6, t7, t8⟩ := hTE
  have A := F16 (n := (al w 2).toInt.toNat) hX hS (by rw [t1]; exact r1) (by rw [t1]; exact r2') (by rw [t2]; exact r3) (by rw [t2]; exact r4) (by rw [t3]; omega) (by omega) rfl h1
  rw [t1, t2] at A
  -- the reference's run, from w1, whose all is w's
  have ref : FM flTX alTX w w1 → gA w1 148 = gA w 148 → FM fl198 [148, 150, 151] w1 w2 ∧ ((plcF p1 p2 (al w 0) (al w 1) = -1 ∧ r2 = some (.int (-2)) ∧ ∀ q, al w2 q = if q = 4 then -1 else if q = 3 then 0 else if q = 2 then 0 else al w q) ∨ (plcF p1 p2 (al w 0) (al w 1) ≠ -1 ∧ ∃ (N : Nat) (o : OC), RDq (decide (p1 = 0)) (rb w) (al w 2).toInt.toNat N 0 0 (-1) (i0 (decide (p1 = 0))) 0 o ∧ ((fF (decide (p1 = 0)) o ≠ 0 ∧ r2 = some (.int (-1)) ∧ ∀ q, al w2 q = if q = 3 then fF (decide (p1 = 0)) o else if q = 4 then pF (decide (p1 = 0)) (al w 2).toInt.toNat o else if q = 2 then 0 else al w q) ∨ (fF (decide (p1 = 0)) o = 0 ∧ r2 = some (.int (plcF p1 p2 (al w 0) (al w 1))) ∧ ∃ (s0 : Nat) (cnt : Int32), ((p1 = 0 ∧ cnt = al w 0 ∧ s0 = 0) ∨ (p1 = 1 ∧ cnt = al w 1 ∧ s0 = 1)) ∧ ∀ q, al w2 q = tlN (decide (p1 = 0)) (plcF p1 p2 (al w 0) (al w 1)).toInt.toNat o.2.2.2.1 (al w) (if p2 = -1 then cnt + 1 else cnt) s0 q)))) := by
    intro f1 g8
    have ea : al w1 = al w := by funext q; unfold al; rw [g8]
    have eb : rb w1 = rb w := by funext q; unfold rb; rw [g8]
    have z := F198 (n := (al w 2).toInt.toNat) (b := decide (p1 = 0)) f1.2.2.2 (by rw [ea]; exact r5) (by rw [ea]; exact r6) (by rw [ea]) (fun i hi => by
      rw [eb]
      have y := (t6 i hi).2.2
      have y1 := (t6 i hi).1
      show 0 ≤ (al w (10 + i)).toInt
      rw [y]
      split <;> omega) (by rw [ea]; exact r1) (by rw [ea]; exact r2') (by rw [ea]; exact r3) (by rw [ea]; exact r4) rfl h2
    rw [ea, eb] at z
    exact ⟨FM_mono z.1 (by decide) (by decide), z.2⟩
  have hBE : BEq (tb w) (rb w) (al w 2).toInt.toNat := TE_BE hTE' rfl
  rcases A with ⟨a1, a2, a3, a4, a5, a6⟩ | ⟨a1, N, o, a2, ⟨a3, a4, a5, a6, a7, a8⟩ | ⟨a3, a4, a5, a6, a7, κ, a8, a9⟩⟩
  · obtain ⟨f2, B⟩ := ref (FM_mono a3 (by decide) (by decide)) (FM_a a3 (by decide))
    rcases B with ⟨b1, b2, b3⟩ | ⟨b1, _⟩
    · refine ⟨by rw [a2, b2], ?_, FM_trans (FM_mono a3 (by decide) (by decide)) (FM_mono f2 (by decide) (by decide)), fun q hq => by rw [b3, if_neg (by omega), if_neg (by omega), if_neg (by omega)]⟩
      refine TE_n (f := 0) (p := -1) (as := alR ++ [148, 150, 151]) hS hTE' (FM_trans (FM_mono a3 (by decide) (by decide)) (FM_mono f2 (by decide) (by decide))) (by decide) ?_ ?_ ?_ (fun q => ?_)
      · rw [FM_i f2 (by decide)]; exact a4
      · rw [FM_i f2 (by decide)]; exact a5
      · rw [FM_i f2 (by decide)]; exact a6
      · rw [b3 q]
        by_cases q3 : q = 3
        · rw [if_neg (by omega), if_pos q3, if_pos q3]
        · rw [if_neg q3, if_neg q3]
    · exact absurd a1 b1
  · obtain ⟨f2, B⟩ := ref (FM_mono a5 (by decide) (by decide)) (FM_a a5 (by decide))
    rcases B with ⟨b1, _⟩ | ⟨b1, N', o', b2, B⟩
    · exact absurd b1 a1
    · obtain ⟨e1, e2, e3⟩ := RD_eq hBE a2 b2
      rcases B with ⟨c1, c2, c3⟩ | ⟨c1, _⟩
      · rw [e1, e2] at c3
        refine ⟨by rw [a4, c2], ?_, FM_trans (FM_mono a5 (by decide) (by decide)) (FM_mono f2 (by decide) (by decide)), fun q hq => by rw [c3, if_neg (by omega), if_neg (by omega), if_neg (by omega)]⟩
        refine TE_n (as := alR ++ [148, 150, 151]) hS hTE' (FM_trans (FM_mono a5 (by decide) (by decide)) (FM_mono f2 (by decide) (by decide))) (by decide) ?_ ?_ ?_ c3
        · rw [FM_i f2 (by decide)]; exact a6
        · rw [FM_i f2 (by decide)]; exact a7
        · rw [FM_i f2 (by decide)]; exact a8
      · rw [e1] at c1
        exact absurd c1 a3
  · have hkc : κ = 0 ∨ κ = 1 ∨ κ = 2 := by
      rcases a9 with ⟨_, h, _⟩ | ⟨_, h, _⟩
      · omega
      · omega
    have f1 : FM flTX alTX w w1 ∧ gA w1 148 = gA w 148 := by
      rcases a9 with ⟨_, h, fm, _⟩ | ⟨_, h, fm, _⟩
      · have kc : κ = 0 ∨ κ = 1 := by omega
        rcases kc with rfl | rfl
        · exact ⟨FM_mono fm (by decide) (by decide), FM_a fm (by decide)⟩
        · exact ⟨FM_mono fm (by decide) (by decide), FM_a fm (by decide)⟩
      · rcases hkc with rfl | rfl | rfl
        · exact ⟨FM_mono fm (by decide) (by decide), FM_a fm (by decide)⟩
        · exact ⟨FM_mono fm (by decide) (by decide), FM_a fm (by decide)⟩
        · exact ⟨FM_mono fm (by decide) (by decide), FM_a fm (by decide)⟩
    obtain ⟨f2, B⟩ := ref f1.1 f1.2
    rcases B with ⟨b1, _⟩ | ⟨b1, N', o', b2, B⟩
    · exact absurd b1 a1
    · obtain ⟨e1, e2, e3⟩ := RD_eq hBE a2 b2
      rcases B with ⟨c1, _⟩ | ⟨c1, c2, s0, cnt, hs, c3⟩
      · rw [e1] at c1
        exact absurd a3 c1
      · rw [e3] at c3
        have pc := plc_c hs a1
        have hi1690 : ∀ q, 1690 ≤ q → al w2 q = al w q := by
          intro q hq
          rw [c3]
          have sn : q ≠ s0 := by rcases hs with ⟨_, _, h⟩ | ⟨_, _, h⟩ <;> omega
          unfold tlN
          rw [if_neg (by omega), if_neg (by omega), if_neg (by omega), if_neg sn, if_neg]
          rw [a8]
          rcases a9 with ⟨h0, h, _⟩ | ⟨h0, h, _⟩
          · rw [decide_eq_true h0]
            show ¬ (610 + 132 * (κ : Int).toNat ≤ q ∧ q < 610 + 132 * (κ : Int).toNat + 132)
            omega
          · rw [decide_eq_false (by rw [h0]; decide +kernel)]
            show ¬ (874 + 272 * (κ : Int).toNat ≤ q ∧ q < 874 + 272 * (κ : Int).toNat + 272)
            omega
        refine ⟨by rw [a4, c2], ?_, FM_trans f1.1 (FM_mono f2 (by decide) (by decide)), hi1690⟩
        have g5 : gI w2 1 5 = 0 := by rw [FM_i f2 (by decide)]; exact a5
        have g6 : gI w2 1 6 = 0 := by rw [FM_i f2 (by decide)]; exact a6
        have g7 : gI w2 1 7 = -1 := by rw [FM_i f2 (by decide)]; exact a7
        rw [show (plcF p1 p2 (al w 0) (al w 1)).toInt.toNat = κ by omega] at c3
        rcases a9 with ⟨h0, h, fm, hv, hcn⟩ | ⟨h1', h, fm, hr0, hr2, hr1, hr, hcn⟩
        · rw [decide_eq_true h0] at c3
          rcases hs with ⟨_, hs2, hs3⟩ | ⟨hs1, _, _⟩
          · subst hs2
            subst hs3
            have cc := Int32_cnt (κ := κ) a8 r1 (by
              rcases pc with ⟨z1, z2⟩ | ⟨z1, z2, z3⟩
              · exact Or.inl ⟨z1, z2⟩
              · exact Or.inr ⟨z1, z2, z3⟩)
            rw [← cc] at c3
            have kl : κ ≤ (al w 0).toInt.toNat := by
              rcases pc with ⟨z1, z2⟩ | ⟨z1, z2, z3⟩
              · rw [z2] at a8; omega
              · omega
            have fa : FM ([(1, 2), (5 + 5 * κ, 0), (5 + 5 * κ, 1), (5 + 5 * κ, 2)] ++ fl16 ++ fl198) ([6 + 5 * κ, 7 + 5 * κ, 8 + 5 * κ, 9 + 5 * κ] ++ alR ++ [148, 150, 151]) w w2 := FM_trans (FM_mono fm (fun p hp => List.mem_append_left _ hp) (fun p hp => List.mem_append_left _ hp)) (FM_mono f2 (fun p hp => List.mem_append_right _ hp) (fun p hp => List.mem_append_right _ hp))
            have kc : κ = 0 ∨ κ = 1 := by omega
            refine TE_v hS hTE' h fa (fun k => ?_) ?_ ?_ kl g5 g6 g7 c3
            · rw [← hv k]
              rcases kc with rfl | rfl
              · exact vcl_FMv f1.1.2.2.2 f2 (by decide +kernel) (by decide) (by decide) (by decide) (by decide) (by decide) (by decide) (by decide) k
              · exact vcl_FMv f1.1.2.2.2 f2 (by decide +kernel) (by decide) (by decide) (by decide) (by decide) (by decide) (by decide) (by decide) k
            · rw [FM_i f2 (by decide)]; exact hcn
            · by_cases z : (al w 0).toInt < κ + 1
              · rw [if_pos z, zi_add a8 o32 (by omega) (by omega)]; omega
              · rw [if_neg z]; omega
          · rw [h0] at hs1; exact absurd hs1 (by decide +kernel)
        · rw [decide_eq_false (show ¬ p1 = 0 by rw [h1']; decide +kernel)] at c3
          rcases hs with ⟨hs1, _, _⟩ | ⟨_, hs2, hs3⟩
          · rw [h1'] at hs1; exact absurd hs1 (by decide +kernel)
          · subst hs2
            subst hs3
            have cc := Int32_cnt (κ := κ) a8 r3 (by
              rcases pc with ⟨z1, z2⟩ | ⟨z1, z2, z3⟩
              · exact Or.inl ⟨z1, z2⟩
              · exact Or.inr ⟨z1, z2, z3⟩)
            rw [← cc] at c3
            have kl : κ ≤ (al w 1).toInt.toNat := by
              rcases pc with ⟨z1, z2⟩ | ⟨z1, z2, z3⟩
              · rw [z2] at a8; omega
              · omega
            have fa : FM ([(1, 3), (15 + 2 * κ, 0)] ++ fl16 ++ fl198) ([16 + 2 * κ] ++ alR ++ [148, 150, 151]) w w2 := FM_trans (FM_mono fm (fun p hp => List.mem_append_left _ hp) (fun p hp => List.mem_append_left _ hp)) (FM_mono f2 (fun p hp => List.mem_append_right _ hp) (fun p hp => List.mem_append_right _ hp))
            refine TE_r hS hTE' h fa ?_ hr1 hr2 (fun q hq => ?_) ?_ ?_ kl g5 g6 g7 c3
            · rw [← hr0]
              rcases hkc with rfl | rfl | rfl <;> exact FM_i f2 (by decide)
            · rw [← hr q hq]
              rcases hkc with rfl | rfl | rfl <;> rw [FM_a f2 (by decide)]
            · rw [FM_i f2 (by decide)]; exact hcn
            · by_cases z : (al w 1).toInt < κ + 1
              · rw [if_pos z, zi_add a8 o32 (by omega) (by omega)]; omega
              · rw [if_neg z]; omega
end GQT
