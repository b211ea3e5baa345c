section GD
variable {X : pm_X} {k : Nat} {w0 w wE w' : pm_W} {r : Option Value} {p p1 p2 p3 f0 p0 f q : Int32} {bs : Nat → Int32} {n i v j m : Nat}
theorem badI_2 {x : Int} {ns : Nat → Int} {l : Nat} (hl : l ≤ 2) : badI 2 l x ns ↔ ¬ (lwL 2 l ≤ x ∧ x ≤ lwH 2 l) := by
  unfold badI
  constructor
  · rintro (h | h | ⟨h, _⟩ | ⟨_, t, h, h2, _⟩) z
    · omega
    · omega
    · omega
    · omega
  · intro h
    by_cases c : x < lwL 2 l
    · exact Or.inl c
    · exact Or.inr (Or.inl (by omega))
/-- a ring read -/
theorem F216 (he : ∀ t, t < 8 → ecl wE t = -1) (h : RJ wE bs n i 2 f0 p0 0) (z : PS X k 216 0 [.ref 147, pm_dead, pm_dead, pm_dead, pm_dead] [] wE r w') : r = none ∧ FM rl7 [148, 151] wE w' ∧ AF wE w' ∧ ∃ m, (∀ t, t < m → tkK bs n (tP bs n i (t + 1)) = 2) ∧ tkK bs n (tP bs n i (m + 1)) ≠ 2 ∧ ((4 ≤ m ∧ ∃ S', RGI w' bs n i f0 p0 (m - 2) S') ∨ (m < 4 ∧ BK w' bs n (tP bs n i (m + 1)))) := by
  have hS : SK wE := h.1
  have e99 : (99 : Int32).toInt = 99 := by decide +kernel
  have l8 := len151 hS
  cases k with
  | zero => exact (PS_0 z).elim
  | succ k =>
    obtain ⟨r1, w1, q1, z⟩ := U216_0 hS z
    rcases R_num (by decide) (Or.inr (by rw [badI_2 (by decide), show lwL 2 0 = 1 from by decide +kernel, show lwH 2 0 = 99 from by decide +kernel, o32, e99])) h q1 with ⟨a1, a2, a3, _, x, a4, a5, a6⟩ | ⟨a1, a2, a3, a4, a5⟩
    · obtain ⟨hI0, z⟩ := z x a4 a2.2.2.2
      have z := z _ rfl
      obtain ⟨w2, e2⟩ : ∃ w2, w2 = aS w1 151 0 x := ⟨_, rfl⟩
      rw [← e2] at z
      have f2 : FM [] [151] w1 w2 := by rw [e2]; exact FM_aS a2.2.2.2 (by decide)
      have g2 : gA w2 151 = (gA wE 151).set 0 x := by rw [e2, gA_aS (aI_isA hI0), i_nat (n := 0) z32, FM_a a2 (by decide)]
      have h2 : RJ w2 bs n i 2 f0 p0 1 := RJ_wr a5 (FM_mono f2 (by decide) (by decide))
      obtain ⟨r4, w4, q4, z⟩ := z
      rcases R_num (by decide) (Or.inr (by rw [badI_2 (by decide), show lwL 2 1 = 0 from by decide +kernel, show lwH 2 1 = 99 from by decide +kernel, z32, e99])) h2 q4 with ⟨b1, b2, b3, _, y, b4, b5, b6⟩ | ⟨b1, b2, b3, b4, b5⟩
      · obtain ⟨hI1, z⟩ := z y b4 b2.2.2.2
        have z := z _ rfl
        obtain ⟨w5, e5⟩ : ∃ w5, w5 = aS w4 151 1 y := ⟨_, rfl⟩
        rw [← e5] at z
        have f5 : FM [] [151] w4 w5 := by rw [e5]; exact FM_aS b2.2.2.2 (by decide)
        have g5 : gA w5 151 = ((gA wE 151).set 0 x).set 1 y := by rw [e5, gA_aS (aI_isA hI1), i_nat (n := 1) o32, FM_a b2 (by decide), g2]
        have h5 : RJ w5 bs n i 2 f0 p0 2 := RJ_wr b5 (FM_mono f5 (by decide) (by decide))
        have ec : ∀ t, t < 8 → ecl w5 t = if t = 1 then y else if t = 0 then x else -1 := by
          intro t ht
          unfold ecl
          rw [g5, getD_set (by simp only [List.length_set]; omega), getD_set (by omega)]
          by_cases t1 : t = 1
          · rw [if_pos t1, if_pos t1]
          rw [if_neg t1, if_neg t1]
          by_cases t0 : t = 0
          · rw [if_pos t0, if_pos t0]
          · rw [if_neg t0, if_neg t0]; exact he t ht
        have hg : RGI w5 bs n i f0 p0 0 0 := by
          refine ⟨h5, fun t ht h2t => ?_, by decide, fun hz => ⟨by decide, fun t ht => ?_, fun t t1 t2 => by omega, fun b hb => ?_⟩⟩
          · rw [ec t ht, if_neg (by omega), if_neg (by omega)]
          · have hz : (fJ bs n i 2 f0 p0 (1 + 1)).1 = 0 := hz
            have hz1 := fJ_0 (by decide) hz
            rw [ec t (by omega)]
            by_cases t1 : t = 1
            · rw [if_pos t1, t1]; exact ns32_of (b6 hz)
            · rw [if_neg t1, if_pos (by omega), show t = 0 by omega]; exact ns32_of (a6 hz1)
          · rw [Nat.zero_testBit]
            exact ⟨fun c => Bool.noConfusion c, fun ⟨t, t1, t2, _⟩ => by omega⟩
        obtain ⟨c1, c2, c3, m, c4, c5, c6, c7⟩ := RG30 (n - tP bs n i (2 + 0 + 1) + 1) _ w5 0 0 0 0 _ _ (by omega) z32 z32 hg (fun t ht => by
          have ct : t = 0 ∨ t = 1 := by omega
          rcases ct with e | e
          · rw [e]; exact a1
          · rw [e]; exact b1) z
        exact ⟨c1, FM_trans (FM_mono a2 (by decide) (by decide)) (FM_trans (FM_mono f2 (by decide) (by decide)) (FM_trans (FM_mono b2 (by decide) (by decide)) (FM_trans (FM_mono f5 (by decide) (by decide)) c2))), AF_trans a3 (AF_trans (AF_eq (FM_a f2 (by decide))) (AF_trans b3 (AF_trans (AF_eq (FM_a f5 (by decide))) c3))), m, c5, c6, c7⟩
      · obtain ⟨hI1, z⟩ := z _ b5 b2.2.2.2
        have z := z _ rfl
        have f5 : FM [] [151] w4 (aS w4 151 1 0) := FM_aS b2.2.2.2 (by decide)
        have hB := BK_wr b4 (FM_mono f5 (by decide) (by decide))
        cases k with
        | zero => exact (PS_0 z).elim
        | succ k =>
          have z := U216_30 f5.2.2.2 z
          rw [if_neg hB.2.1] at z
          obtain ⟨z1, z2⟩ := F163 f5.2.2.2 z
          rw [z2]
          exact ⟨z1, FM_trans (FM_mono a2 (by decide) (by decide)) (FM_trans (FM_mono f2 (by decide) (by decide)) (FM_trans (FM_mono b2 (by decide) (by decide)) (FM_mono f5 (by decide) (by decide)))), AF_trans a3 (AF_trans (AF_eq (FM_a f2 (by decide))) (AF_trans b3 (AF_eq (FM_a f5 (by decide))))), 1, fun t ht => by rw [show t = 0 by omega]; exact a1, b1, Or.inr ⟨by decide, hB⟩⟩
    · obtain ⟨hI0, z⟩ := z _ a5 a2.2.2.2
      have z := z _ rfl
      have f2 : FM [] [151] w1 (aS w1 151 0 1) := FM_aS a2.2.2.2 (by decide)
      have hB2 := BK_wr a4 (FM_mono f2 (by decide) (by decide))
      obtain ⟨r4, w4, q4, z⟩ := z
      obtain ⟨d1, d2⟩ := F210_w hB2.1 hB2.2.1 q4
      subst w4
      obtain ⟨hI1, z⟩ := z _ d1 f2.2.2.2
      have z := z _ rfl
      have f5 := FM_aS (fs := []) (as := [151]) (a := 151) (x := 1) (y := 0) f2.2.2.2 (by decide)
      have hB := BK_wr hB2 (FM_mono f5 (by decide) (by decide))
      cases k with
      | zero => exact (PS_0 z).elim
      | succ k =>
        have z := U216_30 f5.2.2.2 z
        rw [if_neg hB.2.1] at z
        obtain ⟨z1, z2⟩ := F163 f5.2.2.2 z
        rw [z2]
        exact ⟨z1, FM_trans (FM_mono a2 (by decide) (by decide)) (FM_trans (FM_mono f2 (by decide) (by decide)) (FM_mono f5 (by decide) (by decide))), AF_trans a3 (AF_trans (AF_eq (FM_a f2 (by decide))) (AF_eq (FM_a f5 (by decide)))), 0, fun t ht => absurd ht (Nat.not_lt_zero t), a1, Or.inr ⟨by decide, hB⟩⟩
/-- ring -/
theorem RL_2 {x u : Int32} (fm : FM rl7 [148, 151] w wE) (af : AF w wE) (he : ∀ t, t < 8 → ecl wE t = -1) (h : RJ wE bs n i 2 f0 p0 0) (hc0 : f0 = 0 → 0 ≤ (rcl w 0).toInt) (hc : f0 = 0 → (rcl w 0).toInt < 30) (z : PS X k 215 104 [.ref 147, .int x, .int 13, .int u] [] wE r w') : r = none ∧ RL w w' bs n i f0 p0 2 := by
  cases k with
  | zero => exact (PS_0 z).elim
  | succ k =>
    have z := U215_104 fm.2.2.2 z
    rw [if_pos rfl] at z
    obtain ⟨r1, w1, q1, z⟩ := z
    obtain ⟨a1, a2, a3, m, a4, a5, a6⟩ := F216 he h q1
    have z := z a1 a2.2.2.2
    obtain ⟨k2, z⟩ := P114 a2.2.2.2 (by decide +kernel) z
    obtain ⟨k3, z⟩ := P133 a2.2.2.2 (by decide +kernel) z
    have fm1 := FM_trans fm a2
    have af1 := AF_trans af a3
    rcases a6 with ⟨m4, S', hg⟩ | ⟨m4, hB⟩
    · have hJ : RJ w1 bs n i 2 f0 p0 m := by
        have := hg.1
        rw [show 2 + (m - 2) = m by omega] at this
        exact this
      have rcE : ∀ q, rcl w1 q = rcl w q := fun q => by unfold rcl; rw [FM_a fm1 (by decide)]
      obtain ⟨z1, w2, k', f1, c1, z2⟩ := T150 fm1.2.2.2 (len150 fm1.2.2.2) (fun w1 f1 => E214_R (RS_wr hJ (FM_mono f1 (by decide) (by decide)))) z
      have h1 : RJ w2 bs n i 2 f0 p0 m := RJ_wr hJ (FM_mono f1 (by decide) (by decide))
      obtain ⟨_, g⟩ := F214 h1 z2
      rcases g with ⟨g1, g2, g3, g4⟩ | ⟨g1, g2, g3, g4⟩
      · refine ⟨z1, FM_trans (FM_mono fm1 (by decide) (by decide)) (FM_trans (FM_mono f1 (by decide) (by decide)) (FM_mono g2 (by decide) (by decide))), AF_trans (AF_trans af1 (AF_eq (FM_a f1 (by decide)))) g3, m, Or.inr ⟨⟨a4, fun y => absurd rfl y, fun _ => m4, g1⟩, g4, fun hz => ?_⟩⟩
        obtain ⟨j6, iv2, _, _⟩ := hg.2.2.2 (by rw [show 2 + (m - 2) = m by omega]; exact hz)
        have hf0 : f0 = 0 := fJ_00 m hz
        refine ⟨ecl w1, fun t ht => ?_, fun q => ?_⟩
        · unfold e8
          by_cases c : t < m
          · rw [if_pos c]; exact iv2 t (by omega)
          · rw [if_neg c]; exact hg.2.1 t ht (by omega)
        · have e : rcl w' q = rcl w2 q := by unfold rcl; rw [FM_a g2 (by decide)]
          have ef : rcl w1 = rcl w := funext rcE
          rw [e, (c1 (by rw [rcE]; exact hc0 hf0) (by rw [rcE]; exact hc hf0)).2 q, ef]
          rfl
      · exact ⟨z1, FM_trans (FM_mono fm1 (by decide) (by decide)) (FM_trans (FM_mono f1 (by decide) (by decide)) (FM_mono g2 (by decide) (by decide))), AF_trans (AF_trans af1 (AF_eq (FM_a f1 (by decide)))) g3, m, Or.inl ⟨⟨a4, fun y => absurd rfl y, fun _ => ⟨a5, fun _ => g1⟩⟩, g4⟩⟩
    · exact FIN_B ⟨a4, fun y => absurd rfl y, fun _ => ⟨a5, fun y => by omega⟩⟩ fm1 af1 hB hc0 z
end GD
