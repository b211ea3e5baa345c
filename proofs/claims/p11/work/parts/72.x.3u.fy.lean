section FY
variable {X : pm_X} {k : Nat} {w0 w wE w' : pm_W} {r : Option Value} {p p1 p2 p3 f0 p0 f : Int32} {bs : Nat → Int32} {n i v j m : Nat}
/-- owe, pay -/
theorem RL_01 {x y u : Int32} (hv : v = 0 ∨ v = 1) (hy : y - 11 = Int32.ofNat v) (h13 : y ≠ 13) (h14 : y ≠ 14) (h15 : y ≠ 15) (fm : FM rl7 [148, 151] w wE) (af : AF w wE) (he : ∀ t, t < 8 → ecl wE t = -1) (h : RJ wE bs n i v f0 p0 0) (hc0 : f0 = 0 → 0 ≤ (rcl w 0).toInt) (hc : f0 = 0 → (rcl w 0).toInt < 30) (q : PS X k 215 64 [.ref 147, .int x, .int y, .int u] [] wE r w') : r = none ∧ RL w w' bs n i f0 p0 v := by
  have m1 : ((-1 : Int32)).toInt = -1 := by decide +kernel
  have e99 : (99 : Int32).toInt = 99 := by decide +kernel
  have v2 : v ≠ 2 := by omega
  have lw : lwL v 0 = 0 ∧ lwH v 0 = 8 ∧ lwL v 1 = 0 ∧ lwH v 1 = 8 ∧ lwL v 2 = 1 ∧ lwH v 2 = 99 := by
    rcases hv with rfl | rfl <;> decide +kernel
  have hd : dueN v = 3 := by rcases hv with rfl | rfl <;> exact dN _ _ (by decide +kernel)
  have hv4 : v = 0 ∨ v = 1 ∨ v = 7 ∨ v = 12 := by omega
  -- from label 104 on
  have tail : ∀ (w9 : pm_W) (k9 : Nat), SK w9 → PS X k9 215 104 [.ref 147, .int x, .int y, .int u] [] w9 r w' → ∃ k', PS X k' 215 150 [.ref 147, .int x, .int y, .int u] [] w9 r w' := by
    intro w9 k9 hS9 q
    obtain ⟨k1, q⟩ := P104 hS9 h13 q
    obtain ⟨k2, q⟩ := P114 hS9 h14 q
    exact P133 hS9 h15 q
  cases k with
  | zero => exact (PS_0 q).elim
  | succ k =>
    obtain ⟨r1, w1, q1, q⟩ := U215_64 fm.2.2.2 q
    rcases R_per (by decide) (Or.inr (by rw [badI_lo v2 (by omega), lw.1, lw.2.1, m1]; omega)) h q1 with ⟨a1, a2, a3, z0, a4, a5, a6, _, _⟩ | ⟨a1, a2, a3, a4, z0, a5⟩
    · obtain ⟨hI0, q⟩ := q z0 a4 a2.2.2.2
      have q := q _ rfl
      obtain ⟨w2, e2⟩ : ∃ w2, w2 = aS w1 151 0 z0 := ⟨_, rfl⟩
      rw [← e2] at q
      have f2 : FM [] [151] w1 w2 := by rw [e2]; exact FM_aS a2.2.2.2 (by decide)
      have g2 : gA w2 151 = (gA wE 151).set 0 z0 := by rw [e2, gA_aS (aI_isA hI0), i_nat (n := 0) z32, FM_a a2 (by decide)]
      have l8 := len151 fm.2.2.2
      obtain ⟨_, r4, w4, q4, q⟩ := q
      have ex : aG w2 151 0 = z0 := by rw [aG_n (m := 0) z32, g2, getD_set (by omega), if_pos rfl]
      rw [ex] at q4
      have hb1 : (fJ bs n i v f0 p0 1).1 ≠ 0 ∨ (badI v 1 (nv bs n i 1) (nv bs n i) ↔ (nv bs n i 1 = z0.toInt ∨ ¬ (0 ≤ nv bs n i 1 ∧ nv bs n i 1 ≤ 8))) := by
        by_cases c : (fJ bs n i v f0 p0 1).1 = 0
        · refine Or.inr ?_
          rw [badI_tw hv4, lw.2.2.1, lw.2.2.2.1, a6 c]
        · exact Or.inl c
      have h2 : RJ w2 bs n i v f0 p0 1 := RJ_wr a5 (FM_mono f2 (by decide) (by decide))
      have f02 : FM rl7 [148, 151] w w2 := FM_trans fm (FM_trans (FM_mono a2 (by decide) (by decide)) (FM_mono f2 (by decide) (by decide)))
      have a02 : AF w w2 := AF_trans af (AF_trans a3 (AF_eq (FM_a f2 (by decide))))
      rcases R_per (by decide) hb1 h2 q4 with ⟨b1, b2, b3, z1, b4, b5, b6, _, _⟩ | ⟨b1, b2, b3, b4, z1, b5⟩
      · obtain ⟨hI1, q⟩ := q z1 b4 b2.2.2.2
        have q := q _ rfl
        obtain ⟨w5, e5⟩ : ∃ w5, w5 = aS w4 151 1 z1 := ⟨_, rfl⟩
        rw [← e5] at q
        have f5 : FM [] [151] w4 w5 := by rw [e5]; exact FM_aS b2.2.2.2 (by decide)
        have g5 : gA w5 151 = ((gA wE 151).set 0 z0).set 1 z1 := by rw [e5, gA_aS (aI_isA hI1), i_nat (n := 1) o32, FM_a b2 (by decide), g2]
        have h5 : RJ w5 bs n i v f0 p0 2 := RJ_wr b5 (FM_mono f5 (by decide) (by decide))
        have f05 : FM rl7 [148, 151] w w5 := FM_trans f02 (FM_trans (FM_mono b2 (by decide) (by decide)) (FM_mono f5 (by decide) (by decide)))
        have a05 : AF w w5 := AF_trans a02 (AF_trans b3 (AF_eq (FM_a f5 (by decide))))
        obtain ⟨r7, w7, q7, q⟩ := q
        rcases R_num (by decide) (Or.inr (by rw [badI_lo v2 (by omega), lw.2.2.2.2.1, lw.2.2.2.2.2, o32, e99])) h5 q7 with ⟨c1, c2, c3, _, z2, c4, c5, c6⟩ | ⟨c1, c2, c3, c4, c5⟩
        · obtain ⟨hI2, q⟩ := q z2 c4 c2.2.2.2
          have q := q _ rfl
          obtain ⟨w8, e8'⟩ : ∃ w8, w8 = aS w7 151 2 z2 := ⟨_, rfl⟩
          rw [← e8'] at q
          have f8 : FM [] [151] w7 w8 := by rw [e8']; exact FM_aS c2.2.2.2 (by decide)
          have g8 : gA w8 151 = (((gA wE 151).set 0 z0).set 1 z1).set 2 z2 := by rw [e8', gA_aS (aI_isA hI2), i_nat (n := 2) two32, FM_a c2 (by decide), g5]
          have h8 : RJ w8 bs n i v f0 p0 3 := RJ_wr c5 (FM_mono f8 (by decide) (by decide))
          obtain ⟨k9, q⟩ := tail w8 _ f8.2.2.2 q
          refine FIN_R v2 hd (fun t ht => ?_) (FM_trans f05 (FM_trans (FM_mono c2 (by decide) (by decide)) (FM_mono f8 (by decide) (by decide)))) (AF_trans a05 (AF_trans c3 (AF_eq (FM_a f8 (by decide))))) h8 hc0 (fun hz => hc (fJ_0 (by decide) (fJ_0 (by decide) (fJ_0 (by decide) hz)))) hy (fun hz t ht => ?_) q
          · have ct : t = 0 ∨ t = 1 ∨ t = 2 := by omega
            rcases ct with e | e | e
            · rw [e]; exact a1
            · rw [e]; exact b1
            · rw [e]; exact c1
          · have hz2 := fJ_0 (by decide) hz
            have hz1 := fJ_0 (by decide) hz2
            unfold ecl e8
            rw [g8, getD_set (by simp only [List.length_set]; omega), getD_set (by simp only [List.length_set]; omega), getD_set (by omega)]
            by_cases t2 : t = 2
            · rw [if_pos t2, if_pos (by omega), t2]; exact ns32_of (c6 hz)
            rw [if_neg t2]
            by_cases t1 : t = 1
            · rw [if_pos t1, if_pos (by omega), t1]; exact ns32_of (b6 hz2)
            rw [if_neg t1]
            by_cases t0 : t = 0
            · rw [if_pos t0, if_pos (by omega), t0]; exact ns32_of (a6 hz1)
            rw [if_neg t0, if_neg (by omega)]
            exact he t ht
        · obtain ⟨hI2, q⟩ := q _ c5 c2.2.2.2
          have q := q _ rfl
          have f8 : FM [] [151] w7 (aS w7 151 2 1) := FM_aS c2.2.2.2 (by decide)
          obtain ⟨k9, q⟩ := tail _ _ f8.2.2.2 q
          refine FIN_B (FI_lt v2 (by omega) (fun t ht => ?_) c1) (FM_trans f05 (FM_trans (FM_mono c2 (by decide) (by decide)) (FM_mono f8 (by decide) (by decide)))) (AF_trans a05 (AF_trans c3 (AF_eq (FM_a f8 (by decide))))) (BK_wr c4 (FM_mono f8 (by decide) (by decide))) hc0 q
          have ct : t = 0 ∨ t = 1 := by omega
          rcases ct with e | e
          · rw [e]; exact a1
          · rw [e]; exact b1
      · obtain ⟨hI1, q⟩ := q z1 b5 b2.2.2.2
        have q := q _ rfl
        obtain ⟨r7, w7, q7, q⟩ := q
        have f5 : FM [] [151] w4 (aS w4 151 1 z1) := FM_aS b2.2.2.2 (by decide)
        have hB5 := BK_wr b4 (FM_mono f5 (by decide) (by decide))
        obtain ⟨d1, d2⟩ := F210_w hB5.1 hB5.2.1 q7
        subst w7
        obtain ⟨hI2, q⟩ := q _ d1 f5.2.2.2
        have q := q _ rfl
        have f8 := FM_aS (fs := []) (as := [151]) (a := 151) (x := 2) (y := 1) f5.2.2.2 (by decide)
        obtain ⟨k9, q⟩ := tail _ _ f8.2.2.2 q
        exact FIN_B (FI_lt v2 (by omega) (fun t ht => by rw [show t = 0 by omega]; exact a1) b1) (FM_trans f02 (FM_trans (FM_mono b2 (by decide) (by decide)) (FM_trans (FM_mono f5 (by decide) (by decide)) (FM_mono f8 (by decide) (by decide))))) (AF_trans a02 (AF_trans b3 (AF_trans (AF_eq (FM_a f5 (by decide))) (AF_eq (FM_a f8 (by decide)))))) (BK_wr hB5 (FM_mono f8 (by decide) (by decide))) hc0 q
    · obtain ⟨hI0, q⟩ := q z0 a5 a2.2.2.2
      have q := q _ rfl
      have f2 : FM [] [151] w1 (aS w1 151 0 z0) := FM_aS a2.2.2.2 (by decide)
      have hB2 := BK_wr a4 (FM_mono f2 (by decide) (by decide))
      obtain ⟨_, r4, w4, q4, q⟩ := q
      obtain ⟨z1, b1, b2, b3, hB4⟩ := BK_per hB2 q4
      obtain ⟨hI1, q⟩ := q z1 b1 b2.2.2.2
      have q := q _ rfl
      obtain ⟨r7, w7, q7, q⟩ := q
      have f5 : FM [] [151] w4 (aS w4 151 1 z1) := FM_aS b2.2.2.2 (by decide)
      have hB5 := BK_wr hB4 (FM_mono f5 (by decide) (by decide))
      obtain ⟨d1, d2⟩ := F210_w hB5.1 hB5.2.1 q7
      subst w7
      obtain ⟨hI2, q⟩ := q _ d1 f5.2.2.2
      have q := q _ rfl
      have f8 := FM_aS (fs := []) (as := [151]) (a := 151) (x := 2) (y := 1) f5.2.2.2 (by decide)
      obtain ⟨k9, q⟩ := tail _ _ f8.2.2.2 q
      exact FIN_B (FI_lt v2 (by omega) (fun t ht => absurd ht (Nat.not_lt_zero t)) a1) (FM_trans fm (FM_trans (FM_mono a2 (by decide) (by decide)) (FM_trans (FM_mono f2 (by decide) (by decide)) (FM_trans (FM_mono b2 (by decide) (by decide)) (FM_trans (FM_mono f5 (by decide) (by decide)) (FM_mono f8 (by decide) (by decide))))))) (AF_trans af (AF_trans a3 (AF_trans (AF_eq (FM_a f2 (by decide))) (AF_trans b3 (AF_trans (AF_eq (FM_a f5 (by decide))) (AF_eq (FM_a f8 (by decide)))))))) (BK_wr hB5 (FM_mono f8 (by decide) (by decide))) hc0 q
end FY
