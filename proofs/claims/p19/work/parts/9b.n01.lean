set_option maxRecDepth 100000 in
set_option maxHeartbeats 8000000 in
theorem NL_256_151 {X : pm_X} {d : Nat} {wc : pm_W} {Q : pm_R → Prop} {f : Nat → Int32} {A0 : Nat → List Int32} {x1 x2 x3 : Int32} (hc : wc.length = 147) (gx1 : (1 ≤ x1.toInt ∧ x1.toInt ≤ 9)) (gx2 : (0 ≤ x2.toInt ∧ x2.toInt ≤ 8)) (gx3 : (1 ≤ x3.toInt ∧ x3.toInt ≤ 1000000)) (hpk0 : CY (A0 154) (A0 152) (fr (A0 155) x2.toInt) x1.toInt) (hpk1 : LQ (A0 152) (A0 154) (fr (A0 155) x2.toInt) x1.toInt x3.toInt) (k_192_0 : ∀ (A' : Nat → List Int32) (y4 : Int32), MI f A' → (∀ k : Nat, k ≠ 152 → A' k = A0 k) → (1 ≤ y4.toInt ∧ y4.toInt ≤ 9) → y4.toInt ≤ x1.toInt → x1.toInt ≤ y4.toInt → ((-1) * x1.toInt + y4.toInt) ≤ 0 → SB (A' 152) (A0 152) (A0 154) (fr (A0 155) x2.toInt) x1.toInt y4.toInt x3.toInt → (fr (A0 155) x2.toInt) ≤ y4.toInt → pmE pg X pg_tyl pg_cl (d + 1) 256 192 [.ref 147, .int x1, .int x2, .int x3, .int y4] [] (md wc f A') Q) : ∀ (m : Nat) (A : Nat → List Int32) (x4 : Int32), MI f A → (∀ k : Nat, k ≠ 152 → A k = A0 k) → (0 ≤ x4.toInt ∧ x4.toInt ≤ 9) → ((-1) * x1.toInt + x4.toInt) ≤ 0 → SB (A 152) (A0 152) (A0 154) (fr (A0 155) x2.toInt) x1.toInt x4.toInt x3.toInt → (fr (A0 155) x2.toInt) ≤ x4.toInt → 9 - x4.toInt < (m : Int) → pmE pg X pg_tyl pg_cl (d + 1) 256 151 [.ref 147, .int x1, .int x2, .int x3, .int x4] [] (md wc f A) Q := by
  intro m
  induction m with
  | zero =>
    intro A x4 hI hF gx4 hxi0 hpi0 hpi1 hm
    exfalso
    have l0 := zi_lo x4
    have u0 := zi_hi x4
    omega
  | succ m ih =>
    intro A x4 hI hF gx4 hxi0 hpi0 hpi1 hm
    refine pe_iload (j := 4) (by decide +kernel) rfl ?_
    refine pe_iload_n (j := 1) (by decide +kernel) rfl ?_
    refine pz_icmp_ge (off := 38) (t := 192) (by decide +kernel) (by decide) rfl rfl rfl (fun h1 => ?_) (fun h1 => ?_)
    · skip
      exact k_192_0 A x4 hI (fun k n152 => (hF k n152)) (by omega) (by omega) (by omega) (by omega) hpi0 hpi1
    · skip
      refine pe_aload_n (j := 0) (by decide +kernel) rfl ?_
      refine pe_get (j := 23) (ci := 12) (n := 12) (by decide +kernel) (by decide +kernel) (md_o hc) rfl ?_
      refine pe_bipushv (n := 9) (v := 9) (by decide +kernel) (by decide +kernel) ?_
      refine pe_aload_n (j := 0) (by decide +kernel) rfl ?_
      refine pe_get (j := 29) (ci := 12) (n := 17) (by decide +kernel) (by decide +kernel) (md_o hc) rfl ?_
      refine pe_iload (j := 4) (by decide +kernel) rfl ?_
      refine pz_iald (by decide +kernel) (md_a154 hc) (mlen_154 hI) rfl (by omega) (by omega) (fun v2 ev2 => ?_)
      rw [show A 154 = A0 154 from (hF 154 (by decide))] at ev2
      have hw3 := hpk0.1 (x4.toInt) (by omega) (by omega)
      rw [(show fr (A0 154) (x4.toInt) = v2.toInt from congrArg Int32.toInt ev2.symm)] at hw3
      refine pz_mul (by decide +kernel) kz_9 rfl (by omega) (by omega) (fun z4 hz4 => ?_)
      refine pe_aload_n (j := 0) (by decide +kernel) rfl ?_
      refine pe_get (j := 29) (ci := 12) (n := 17) (by decide +kernel) (by decide +kernel) (md_o hc) rfl ?_
      refine pe_iload (j := 4) (by decide +kernel) rfl ?_
      refine pe_iconstv (n := 1) (v := 1) (by decide +kernel) (by decide +kernel) ?_
      refine pz_add (by decide +kernel) rfl kz_1 (by omega) (by omega) (fun z5 hz5 => ?_)
      refine pz_iald (by decide +kernel) (md_a154 hc) (mlen_154 hI) hz5 (by omega) (by omega) (fun v6 ev6 => ?_)
      rw [show A 154 = A0 154 from (hF 154 (by decide))] at ev6
      clear hz5
      have hw7 := hpk0.1 ((x4.toInt + 1)) (by omega) (by omega)
      rw [(show fr (A0 154) ((x4.toInt + 1)) = v6.toInt from congrArg Int32.toInt ev6.symm)] at hw7
      refine pz_add (by decide +kernel) hz4 rfl (by omega) (by omega) (fun z8 hz8 => ?_)
      clear hz4
      refine pe_dup2 (by decide +kernel) ⟨rfl, rfl⟩ ?_
      refine pz_iald (by decide +kernel) (md_a152 hc) (mlen_152 hI) hz8 (by omega) (by omega) (fun v9 ev9 => ?_)
      have hpo10 := hpi0.1 x4.toInt (Int.le_refl _) (by omega)
      have hlq11 := hpk1 x4.toInt (by omega) (by omega)
      have hn012 := hpi0.2.1 (((9 * v2.toInt) + v6.toInt)) (by omega) (by omega)
      rw [← hpo10, (show fr (A0 154) (x4.toInt) = v2.toInt from congrArg Int32.toInt ev2.symm), (show fr (A0 154) ((x4.toInt + 1)) = v6.toInt from congrArg Int32.toInt ev6.symm), (show fr (A 152) (((9 * v2.toInt) + v6.toInt)) = v9.toInt from congrArg Int32.toInt ev9.symm)] at hlq11
      rw [(show fr (A 152) (((9 * v2.toInt) + v6.toInt)) = v9.toInt from congrArg Int32.toInt ev9.symm)] at hn012
      refine pe_iload_n (j := 3) (by decide +kernel) rfl ?_
      refine pz_sub (by decide +kernel) rfl rfl (by omega) (by omega) (fun z13 hz13 => ?_)
      refine mz_st152 (by decide +kernel) hc hI hz8 (by omega) (by omega) (fun A14 eA14 hIA14 => ?_)
      refine pz_iinc (j := 4) (n := 1) (by decide +kernel) rfl rfl (by decide +kernel) (by omega) (by omega) (fun z15 hz15 => ?_)
      show pmE pg X pg_tyl pg_cl (d + 1) 256 189 [.ref 147, .int x1, .int x2, .int x3, .int z15] [] (md wc f A14) _
      refine pe_goto (off := (-38)) (t := 151) (by decide +kernel) (by decide) rfl ?_
      exact ih A14 z15 hIA14 (fun k n152 => (upa_fr eA14 n152).trans ((hF k n152))) (by omega) (by omega) (by have h := SB_step (v := z13) hpi0 hpk0 (mlen_152 hI) (by omega) (by omega) (by omega) (hpk1 x4.toInt (by omega) (by omega)) (by rw [(show fr (A0 154) (x4.toInt) = v2.toInt from congrArg Int32.toInt ev2.symm), (show fr (A0 154) ((x4.toInt + 1)) = v6.toInt from congrArg Int32.toInt ev6.symm), (show fr (A 152) (((9 * v2.toInt) + v6.toInt)) = v9.toInt from congrArg Int32.toInt ev9.symm)]; omega); rw [hz15, upa_at eA14]; rw [(show fr (A0 154) (x4.toInt) = v2.toInt from congrArg Int32.toInt ev2.symm), (show fr (A0 154) ((x4.toInt + 1)) = v6.toInt from congrArg Int32.toInt ev6.symm)] at h; exact h) (by rw [hz15]; omega) (by omega)
set_option maxRecDepth 100000 in
set_option maxHeartbeats 8000000 in
theorem NL_256_82 {X : pm_X} {d : Nat} {wc : pm_W} {Q : pm_R → Prop} {f : Nat → Int32} {A : Nat → List Int32} {x1 x2 : Int32} (hc : wc.length = 147) (hI : MI f A) (gx1 : (1 ≤ x1.toInt ∧ x1.toInt ≤ 9)) (gx2 : (0 ≤ x2.toInt ∧ x2.toInt ≤ 8)) (hpk0 : CY (A 154) (A 152) (fr (A 155) x2.toInt) x1.toInt) (hpk1 : N0 (A 152)) (k_143_0 : ∀ (y3 : Int32) (y4 : Int32), (1 ≤ y3.toInt ∧ y3.toInt ≤ 1000000) → (1 ≤ y4.toInt ∧ y4.toInt ≤ 9) → y4.toInt ≤ x1.toInt → x1.toInt ≤ y4.toInt → ((-1) * x1.toInt + y4.toInt) ≤ 0 → LQ (A 152) (A 154) (fr (A 155) x2.toInt) y4.toInt y3.toInt → (fr (A 155) x2.toInt) ≤ y4.toInt → pmE pg X pg_tyl pg_cl (d + 1) 256 143 [.ref 147, .int x1, .int x2, .int y3, .int y4] [] (md wc f A) Q) : ∀ (m : Nat) (x3 : Int32) (x4 : Int32), (1 ≤ x3.toInt ∧ x3.toInt ≤ 1000000) → (0 ≤ x4.toInt ∧ x4.toInt ≤ 9) → ((-1) * x1.toInt + x4.toInt) ≤ 0 → LQ (A 152) (A 154) (fr (A 155) x2.toInt) x4.toInt x3.toInt → (fr (A 155) x2.toInt) ≤ x4.toInt → 9 - x4.toInt < (m : Int) → pmE pg X pg_tyl pg_cl (d + 1) 256 82 [.ref 147, .int x1, .int x2, .int x3, .int x4] [] (md wc f A) Q := by
  intro m
  induction m with
  | zero =>
    intro x3 x4 gx3 gx4 hxi0 hpi0 hpi1 hm
    exfalso
    have l0 := zi_lo x4
    have u0 := zi_hi x4
    omega
  | succ m ih =>
    intro x3 x4 gx3 gx4 hxi0 hpi0 hpi1 hm
    refine pe_iload (j := 4) (by decide +kernel) rfl ?_
    refine pe_iload_n (j := 1) (by decide +kernel) rfl ?_
    refine pz_icmp_ge (off := 58) (t := 143) (by decide +kernel) (by decide) rfl rfl rfl (fun h1 => ?_) (fun h1 => ?_)
    · skip
      exact k_143_0 x3 x4 (by omega) (by omega) (by omega) (by omega) (by omega) hpi0 hpi1
    · skip
      refine pe_aload_n (j := 0) (by decide +kernel) rfl ?_
      refine pe_aload_n (j := 0) (by decide +kernel) rfl ?_
      refine pe_get (j := 29) (ci := 12) (n := 17) (by decide +kernel) (by decide +kernel) (md_o hc) rfl ?_
      refine pe_iload (j := 4) (by decide +kernel) rfl ?_
      refine pz_iald (by decide +kernel) (md_a154 hc) (mlen_154 hI) rfl (by omega) (by omega) (fun v2 ev2 => ?_)
      have hw3 := hpk0.1 (x4.toInt) (by omega) (by omega)
      rw [(show fr (A 154) (x4.toInt) = v2.toInt from congrArg Int32.toInt ev2.symm)] at hw3
      refine pe_aload_n (j := 0) (by decide +kernel) rfl ?_
      refine pe_get (j := 29) (ci := 12) (n := 17) (by decide +kernel) (by decide +kernel) (md_o hc) rfl ?_
      refine pe_iload (j := 4) (by decide +kernel) rfl ?_
      refine pe_iconstv (n := 1) (v := 1) (by decide +kernel) (by decide +kernel) ?_
      refine pz_add (by decide +kernel) rfl kz_1 (by omega) (by omega) (fun z4 hz4 => ?_)
      refine pz_iald (by decide +kernel) (md_a154 hc) (mlen_154 hI) hz4 (by omega) (by omega) (fun v5 ev5 => ?_)
      clear hz4
      have hw6 := hpk0.1 ((x4.toInt + 1)) (by omega) (by omega)
      rw [(show fr (A 154) ((x4.toInt + 1)) = v5.toInt from congrArg Int32.toInt ev5.symm)] at hw6
      refine pi_V (j := 181) (mj := 232) (by decide +kernel) (cll_V (args := [.int v5, .int v2]) (n := 2) (by decide +kernel) rfl rfl (md_o hc) (by decide +kernel) (Nat.le_of_ble_eq_true rfl) (Nat.le_of_ble_eq_true rfl)) ?_
      show pmE pg X pg_tyl pg_cl (d) 232 0 [.ref 147, .int v2, .int v5] [] (md wc f A) _
      refine pe_aload_n (j := 0) (by decide +kernel) rfl ?_
      refine pe_get (j := 23) (ci := 12) (n := 12) (by decide +kernel) (by decide +kernel) (md_o hc) rfl ?_
      refine pe_bipushv (n := 9) (v := 9) (by decide +kernel) (by decide +kernel) ?_
      refine pe_iload_n (j := 1) (by decide +kernel) rfl ?_
      refine pz_mul (by decide +kernel) kz_9 rfl (by omega) (by omega) (fun z7 hz7 => ?_)
      refine pe_iload_n (j := 2) (by decide +kernel) rfl ?_
      refine pz_add (by decide +kernel) hz7 rfl (by omega) (by omega) (fun z8 hz8 => ?_)
      clear hz7
      refine pz_iald (by decide +kernel) (md_a152 hc) (mlen_152 hI) hz8 (by omega) (by omega) (fun v9 ev9 => ?_)
      clear hz8
      have hb10 := hpk1 (((9 * v2.toInt) + v5.toInt)) (by omega) (by omega)
      rw [(show fr (A 152) (((9 * v2.toInt) + v5.toInt)) = v9.toInt from congrArg Int32.toInt ev9.symm)] at hb10
      refine pe_iret (by decide +kernel) rfl rfl ⟨rfl, rfl, ?_⟩
      show pmE pg X pg_tyl pg_cl (d + 1) 256 108 [.ref 147, .int x1, .int x2, .int x3, .int x4] [.int v9] (md wc f A) _
      have hpo11 := hpk0.2.1 x4.toInt (by omega) (by omega)
      rw [(show fr (A 154) (x4.toInt) = v2.toInt from congrArg Int32.toInt ev2.symm), (show fr (A 154) ((x4.toInt + 1)) = v5.toInt from congrArg Int32.toInt ev5.symm), (show fr (A 152) (((9 * v2.toInt) + v5.toInt)) = v9.toInt from congrArg Int32.toInt ev9.symm)] at hpo11
      refine pe_iload_n (j := 3) (by decide +kernel) rfl ?_
      refine pz_icmp_ge (off := 26) (t := 135) (by decide +kernel) (by decide) rfl rfl rfl (fun h12 => ?_) (fun h12 => ?_)
      · skip
        refine pe_iload_n (j := 3) (by decide +kernel) rfl ?_
        refine pe_istore_n (j := 3) (ls' := [.ref 147, .int x1, .int x2, .int x3, .int x4]) (by decide +kernel) (Nat.le_of_ble_eq_true rfl) rfl ?_
        refine pz_iinc (j := 4) (n := 1) (by decide +kernel) rfl rfl (by decide +kernel) (by omega) (by omega) (fun z13 hz13 => ?_)
        show pmE pg X pg_tyl pg_cl (d + 1) 256 140 [.ref 147, .int x1, .int x2, .int x3, .int z13] [] (md wc f A) _
        refine pe_goto (off := (-58)) (t := 82) (by decide +kernel) (by decide) rfl ?_
        exact ih x3 z13 (by omega) (by omega) (by omega) (by rw [hz13]; exact LQ_step hpi0 (by omega) (by rw [(show fr (A 154) (x4.toInt) = v2.toInt from congrArg Int32.toInt ev2.symm), (show fr (A 154) ((x4.toInt + 1)) = v5.toInt from congrArg Int32.toInt ev5.symm), (show fr (A 152) (((9 * v2.toInt) + v5.toInt)) = v9.toInt from congrArg Int32.toInt ev9.symm)]; omega)) (by rw [hz13]; omega) (by omega)
      · skip
        refine pe_aload_n (j := 0) (by decide +kernel) rfl ?_
        refine pe_aload_n (j := 0) (by decide +kernel) rfl ?_
        refine pe_get (j := 29) (ci := 12) (n := 17) (by decide +kernel) (by decide +kernel) (md_o hc) rfl ?_
        refine pe_iload (j := 4) (by decide +kernel) rfl ?_
        refine pz_iald (by decide +kernel) (md_a154 hc) (mlen_154 hI) rfl (by omega) (by omega) (fun v14 ev14 => ?_)
        rw [ev14.trans ev2.symm]
        clear ev14 v14
        refine pe_aload_n (j := 0) (by decide +kernel) rfl ?_
        refine pe_get (j := 29) (ci := 12) (n := 17) (by decide +kernel) (by decide +kernel) (md_o hc) rfl ?_
        refine pe_iload (j := 4) (by decide +kernel) rfl ?_
        refine pe_iconstv (n := 1) (v := 1) (by decide +kernel) (by decide +kernel) ?_
        refine pz_add (by decide +kernel) rfl kz_1 (by omega) (by omega) (fun z15 hz15 => ?_)
        refine pz_iald (by decide +kernel) (md_a154 hc) (mlen_154 hI) hz15 (by omega) (by omega) (fun v16 ev16 => ?_)
        rw [ev16.trans ev5.symm]
        clear ev16 v16
        clear hz15
        refine pi_V (j := 181) (mj := 232) (by decide +kernel) (cll_V (args := [.int v5, .int v2]) (n := 2) (by decide +kernel) rfl rfl (md_o hc) (by decide +kernel) (Nat.le_of_ble_eq_true rfl) (Nat.le_of_ble_eq_true rfl)) ?_
        show pmE pg X pg_tyl pg_cl (d) 232 0 [.ref 147, .int v2, .int v5] [] (md wc f A) _
        refine pe_aload_n (j := 0) (by decide +kernel) rfl ?_
        refine pe_get (j := 23) (ci := 12) (n := 12) (by decide +kernel) (by decide +kernel) (md_o hc) rfl ?_
        refine pe_bipushv (n := 9) (v := 9) (by decide +kernel) (by decide +kernel) ?_
        refine pe_iload_n (j := 1) (by decide +kernel) rfl ?_
        refine pz_mul (by decide +kernel) kz_9 rfl (by omega) (by omega) (fun z17 hz17 => ?_)
        refine pe_iload_n (j := 2) (by decide +kernel) rfl ?_
        refine pz_add (by decide +kernel) hz17 rfl (by omega) (by omega) (fun z18 hz18 => ?_)
        clear hz17
        refine pz_iald (by decide +kernel) (md_a152 hc) (mlen_152 hI) hz18 (by omega) (by omega) (fun v19 ev19 => ?_)
        rw [ev19.trans ev9.symm]
        clear ev19 v19
        clear hz18
        refine pe_iret (by decide +kernel) rfl rfl ⟨rfl, rfl, ?_⟩
        show pmE pg X pg_tyl pg_cl (d + 1) 256 132 [.ref 147, .int x1, .int x2, .int x3, .int x4] [.int v9] (md wc f A) _
        refine pe_goto (off := 4) (t := 136) (by decide +kernel) (by decide) rfl ?_
        refine pe_istore_n (j := 3) (ls' := [.ref 147, .int x1, .int x2, .int v9, .int x4]) (by decide +kernel) (Nat.le_of_ble_eq_true rfl) rfl ?_
        refine pz_iinc (j := 4) (n := 1) (by decide +kernel) rfl rfl (by decide +kernel) (by omega) (by omega) (fun z20 hz20 => ?_)
        show pmE pg X pg_tyl pg_cl (d + 1) 256 140 [.ref 147, .int x1, .int x2, .int v9, .int z20] [] (md wc f A) _
        refine pe_goto (off := (-58)) (t := 82) (by decide +kernel) (by decide) rfl ?_
        exact ih v9 z20 (by omega) (by omega) (by omega) (by rw [hz20]; exact LQ_step hpi0 (by omega) (by rw [(show fr (A 154) (x4.toInt) = v2.toInt from congrArg Int32.toInt ev2.symm), (show fr (A 154) ((x4.toInt + 1)) = v5.toInt from congrArg Int32.toInt ev5.symm), (show fr (A 152) (((9 * v2.toInt) + v5.toInt)) = v9.toInt from congrArg Int32.toInt ev9.symm)]; omega)) (by rw [hz20]; omega) (by omega)
set_option maxRecDepth 100000 in
set_option maxHeartbeats 8000000 in
theorem NL_256_29 {X : pm_X} {d : Nat} {wc : pm_W} {Q : pm_R → Prop} {f : Nat → Int32} {A0 : Nat → List Int32} (hc : wc.length = 147) (hpk0 : N0 (A0 152)) (hpk1 : BA (A0 152)) (k_64_0 : ∀ (A' : Nat → List Int32) (y1 : Int32) (y2 : Int32), MI f A' → (∀ k : Nat, k ≠ 154 → k ≠ 155 → A' k = A0 k) → (0 ≤ y1.toInt ∧ y1.toInt ≤ 9) → (0 ≤ y2.toInt ∧ y2.toInt ≤ 8) → WY (A' 154) (A' 155) (A0 152) y1.toInt y2.toInt → (∃ j : Int, 0 ≤ j ∧ j < 81 ∧ j / 9 = y2.toInt ∧ 0 < fr (A0 152) j) → 0 ≤ fr (A' 155) y2.toInt → pmE pg X pg_tyl pg_cl (d + 1) 256 64 [.ref 147, .int y1, .int y2, pm_dead, pm_dead] [] (md wc f A') Q) : ∀ (m : Nat) (A : Nat → List Int32) (x1 : Int32) (x2 : Int32), MI f A → (∀ k : Nat, k ≠ 154 → k ≠ 155 → A k = A0 k) → (0 ≤ x1.toInt ∧ x1.toInt ≤ 9) → (0 ≤ x2.toInt ∧ x2.toInt ≤ 8) → WY (A 154) (A 155) (A0 152) x1.toInt x2.toInt → (∃ j : Int, 0 ≤ j ∧ j < 81 ∧ j / 9 = x2.toInt ∧ 0 < fr (A0 152) j) → 9 - cnn (A 155) < m → pmE pg X pg_tyl pg_cl (d + 1) 256 29 [.ref 147, .int x1, .int x2, pm_dead, pm_dead] [] (md wc f A) Q := by
  intro m
  induction m with
  | zero =>
    intro A x1 x2 hI hF gx1 gx2 hpi0 hpi1 hm
    exfalso
    exact absurd hm (Nat.not_lt_zero _)
  | succ m ih =>
    intro A x1 x2 hI hF gx1 gx2 hpi0 hpi1 hm
    refine pe_aload_n (j := 0) (by decide +kernel) rfl ?_
    refine pe_get (j := 32) (ci := 12) (n := 18) (by decide +kernel) (by decide +kernel) (md_o hc) rfl ?_
    refine pe_iload_n (j := 2) (by decide +kernel) rfl ?_
    refine pz_iald (by decide +kernel) (md_a155 hc) (mlen_155 hI) rfl (by omega) (by omega) (fun v1 ev1 => ?_)
    have lw3 := zi_lo v1
    have uw3 := zi_hi v1
    refine pz_if_ge (off := 29) (t := 64) (by decide +kernel) (by decide) rfl rfl (fun h2 => ?_) (fun h2 => ?_)
    · skip
      exact k_64_0 A x1 x2 hI (fun k n154 n155 => (hF k n154 n155)) (by omega) (by omega) hpi0 hpi1 (by rw [(show fr (A 155) (x2.toInt) = v1.toInt from congrArg Int32.toInt ev1.symm)]; omega)
    · skip
      have hn84 : x1.toInt ≤ 8 := by have h1 := cnn_lt (xs := A 155) (i := x2.toInt.toNat) (by rw [mlen_155 hI]; omega) (by rw [← ev1]; omega); have h2 := hpi0.2.2.2.2; rw [mlen_155 hI] at h1; omega
      refine pe_aload_n (j := 0) (by decide +kernel) rfl ?_
      refine pe_get (j := 32) (ci := 12) (n := 18) (by decide +kernel) (by decide +kernel) (md_o hc) rfl ?_
      refine pe_iload_n (j := 2) (by decide +kernel) rfl ?_
      refine pe_iload_n (j := 1) (by decide +kernel) rfl ?_
      refine mz_st155 (by decide +kernel) hc hI rfl (by omega) (by omega) (fun A5 eA5 hIA5 => ?_)
      refine pe_aload_n (j := 0) (by decide +kernel) rfl ?_
      refine pe_get (j := 29) (ci := 12) (n := 17) (by decide +kernel) (by decide +kernel) (md_o hc) rfl ?_
      refine pe_iload_n (j := 1) (by decide +kernel) rfl ?_
      refine pe_iload_n (j := 2) (by decide +kernel) rfl ?_
      refine mz_st154 (by decide +kernel) hc hIA5 rfl (by omega) (by omega) (fun A6 eA6 hIA6 => ?_)
      refine pz_iinc (j := 1) (n := 1) (by decide +kernel) rfl rfl (by decide +kernel) (by omega) (by omega) (fun z7 hz7 => ?_)
      show pmE pg X pg_tyl pg_cl (d + 1) 256 55 [.ref 147, .int z7, .int x2, pm_dead, pm_dead] [] (md wc f A6) _
      refine pe_aload_n (j := 0) (by decide +kernel) rfl ?_
      refine pe_iload_n (j := 2) (by decide +kernel) rfl ?_
      refine pz_callV (j := 240) (mj := 257) (by decide +kernel) (cll_V (args := [.int x2]) (n := 1) (by decide +kernel) rfl rfl (md_o hc) (by decide +kernel) (Nat.le_of_ble_eq_true rfl) (Nat.le_of_ble_eq_true rfl)) (NM_257 hc hIA6 (by omega)) (fun q8a q8b q8c q8d hqq8 => ?_)
      obtain ⟨rq8, eq8, kq8⟩ := hqq8
      cases eq8
      refine ⟨rfl, rfl, ?_⟩
      obtain ⟨kfq8, kq8⟩ := kq8
      obtain ⟨hp9, hp10, kq8⟩ := kq8
      show pmE pg X pg_tyl pg_cl (d + 1) 256 60 [.ref 147, .int z7, .int x2, pm_dead, pm_dead] [.int rq8] (md wc f A6) _
      have hr011 : 0 ≤ rq8.toInt := by
        refine Classical.byContradiction (fun hx => ?_)
        obtain ⟨j, j0, j1, j2, j3⟩ := hpi1
        have h := hp10 (by omega) j j0 j1 (Or.inr j2)
        rw [show A6 152 = A0 152 from (upa_fr eA6 (by decide)).trans ((upa_fr eA5 (by decide)).trans ((hF 152 (by decide) (by decide))))] at h
        omega
      have hq012 := (hp9 hr011).2 (by omega)
      rw [show A6 152 = A0 152 from (upa_fr eA6 (by decide)).trans ((upa_fr eA5 (by decide)).trans ((hF 152 (by decide) (by decide))))] at hq012
      have hwy13 := WY_step (q := rq8.toInt) hpi0 (mlen_154 hI) (mlen_155 hI) (by omega) (by omega) (by omega) (by rw [(show fr (A 155) (x2.toInt) = v1.toInt from congrArg Int32.toInt ev1.symm)]; omega) hq012 (x := x1) (y := x2) rfl rfl
      rw [show (A 155).set x2.toInt.toNat x1 = A6 155 by rw [upa_fr eA6 (by decide : (155 : Nat) ≠ 154), upa_at eA5], show (A 154).set x1.toInt.toNat x2 = A6 154 by rw [upa_at eA6, upa_fr eA5 (by decide : (154 : Nat) ≠ 155)], show x1.toInt + 1 = z7.toInt from hz7.symm] at hwy13
      refine pe_istore_n (j := 2) (ls' := [.ref 147, .int z7, .int rq8, pm_dead, pm_dead]) (by decide +kernel) (Nat.le_of_ble_eq_true rfl) rfl ?_
      refine pe_goto (off := (-32)) (t := 29) (by decide +kernel) (by decide) rfl ?_
      exact ih A6 z7 rq8 hIA6 (fun k n154 n155 => (upa_fr eA6 n154).trans ((upa_fr eA5 n155).trans ((hF k n154 n155)))) (by omega) (by omega) hwy13.1 (owes_ex hpk1 hpk0 (a := x2.toInt) (by omega) (by omega) (by omega) (by omega) hq012) (by have h1 := hpi0.2.2.2.2; have h2 := hwy13.1.2.2.2.2; have h3 := hz7; omega)
set_option maxRecDepth 100000 in
set_option maxHeartbeats 8000000 in
theorem NL_256_2 {X : pm_X} {d : Nat} {wc : pm_W} {Q : pm_R → Prop} {f : Nat → Int32} {A0 : Nat → List Int32} (hc : wc.length = 147) (k_21_0 : ∀ (A' : Nat → List Int32) (y1 : Int32), MI f A' → (∀ k : Nat, k ≠ 155 → A' k = A0 k) → (9 ≤ y1.toInt ∧ y1.toInt ≤ 9) → (∀ j : Int, (0) ≤ j → j < (y1.toInt) → (-1) ≤ ((A' 155).getD j.toNat 0).toInt ∧ ((A' 155).getD j.toNat 0).toInt ≤ (-1)) → pmE pg X pg_tyl pg_cl (d + 1) 256 21 [.ref 147, .int y1, pm_dead, pm_dead, pm_dead] [] (md wc f A') Q) : ∀ (m : Nat) (A : Nat → List Int32) (x1 : Int32), MI f A → (∀ k : Nat, k ≠ 155 → A k = A0 k) → (0 ≤ x1.toInt ∧ x1.toInt ≤ 9) → (∀ j : Int, (0) ≤ j → j < (x1.toInt) → (-1) ≤ ((A 155).getD j.toNat 0).toInt ∧ ((A 155).getD j.toNat 0).toInt ≤ (-1)) → 9 - x1.toInt < (m : Int) → pmE pg X pg_tyl pg_cl (d + 1) 256 2 [.ref 147, .int x1, pm_dead, pm_dead, pm_dead] [] (md wc f A) Q := by
  intro m
  induction m with
  | zero =>
    intro A x1 hI hF gx1 hv0 hm
    exfalso
    have l0 := zi_lo x1
    have u0 := zi_hi x1
    omega
  | succ m ih =>
    intro A x1 hI hF gx1 hv0 hm
    refine pe_iload_n (j := 1) (by decide +kernel) rfl ?_
    refine pe_bipushv (n := 9) (v := 9) (by decide +kernel) (by decide +kernel) ?_
    refine pz_icmp_ge (off := 16) (t := 21) (by decide +kernel) (by decide) rfl rfl kz_9 (fun h1 => ?_) (fun h1 => ?_)
    · skip
      have hq2 : (∀ j : Int, (0) ≤ j → j < (x1.toInt) → (-1) ≤ ((A 155).getD j.toNat 0).toInt ∧ ((A 155).getD j.toNat 0).toInt ≤ (-1)) := by
        intro j h1 h2
        first
        | (exfalso; omega)
        | exact hv0 j (by omega) (by omega)
      exact k_21_0 A x1 hI (fun k n155 => (hF k n155)) (by omega) hq2
    · skip
      refine pe_aload_n (j := 0) (by decide +kernel) rfl ?_
      refine pe_get (j := 32) (ci := 12) (n := 18) (by decide +kernel) (by decide +kernel) (md_o hc) rfl ?_
      refine pe_iload_n (j := 1) (by decide +kernel) rfl ?_
      refine pe_iconstv (n := (-1)) (v := (-1)) (by decide +kernel) (by decide +kernel) ?_
      refine mz_st155 (by decide +kernel) hc hI rfl (by omega) (by omega) (fun A3 eA3 hIA3 => ?_)
      refine pz_iinc (j := 1) (n := 1) (by decide +kernel) rfl rfl (by decide +kernel) (by omega) (by omega) (fun z4 hz4 => ?_)
      show pmE pg X pg_tyl pg_cl (d + 1) 256 18 [.ref 147, .int z4, pm_dead, pm_dead, pm_dead] [] (md wc f A3) _
      refine pe_goto (off := (-16)) (t := 2) (by decide +kernel) (by decide) rfl ?_
      have hq5 : (∀ j : Int, (0) ≤ j → j < (z4.toInt) → (-1) ≤ ((A3 155).getD j.toNat 0).toInt ∧ ((A3 155).getD j.toNat 0).toInt ≤ (-1)) := by
        intro j h1 h2
        first
        | (exfalso; omega)
        | (by_cases e : (x1.toInt).toNat = j.toNat
           · rw [upa_at eA3, ← e, gz_eq (by rw [(mlen_155 hI)]; omega), kz_m1]; omega
           · rw [upa_at eA3, gz_ne e]; have hh := hv0 j (by omega) (by omega); omega)
      exact ih A3 z4 hIA3 (fun k n155 => (upa_fr eA3 n155).trans ((hF k n155))) (by omega) hq5 (by omega)
set_option maxRecDepth 100000 in
set_option maxHeartbeats 8000000 in
theorem NM_256 {X : pm_X} {d : Nat} {wc : pm_W} {f : Nat → Int32} {A : Nat → List Int32} (hc : wc.length = 147) (hI : MI f A) (hpp0 : N0 (A 152)) (hpp1 : BA (A 152)) (hpp2 : 0 < sumT (A 152) 81) : pmE pg X pg_tyl pg_cl (d + 1) 256 0 (pm_ent (pm_max pg 256) [.ref 147]) [] (md wc f A) (fun q => ∃ (A' : Nat → List Int32), q = (none, md wc f A', 0, 0) ∧ MI f A' ∧ (∀ k : Nat, k ≠ 152 → k ≠ 154 → k ≠ 155 → A' k = A k) ∧ ((N0 (A' 152) ∧ BA (A' 152) ∧ sumT (A' 152) 81 < sumT (A 152) 81 ∧ True))) := by
  show pmE pg X pg_tyl pg_cl (d + 1) 256 0 [.ref 147, pm_dead, pm_dead, pm_dead, pm_dead] [] (md wc f A) _
  refine pe_iconstv (n := 0) (v := 0) (by decide +kernel) (by decide +kernel) ?_
  refine pe_istore_n (j := 1) (ls' := [.ref 147, .int 0, pm_dead, pm_dead, pm_dead]) (by decide +kernel) (Nat.le_of_ble_eq_true rfl) rfl ?_
  have hq5 : (∀ j : Int, (0) ≤ j → j < ((0 : Int32).toInt) → (-1) ≤ ((A 155).getD j.toNat 0).toInt ∧ ((A 155).getD j.toNat 0).toInt ≤ (-1)) := by
    intro j h1 h2
    have hl_x1 := kz_0
    first
    | (exfalso; omega)
  refine NL_256_2 hc (fun A1 y2 hIy3 hFA1 gy2 hq4 => ?_) 10 A 0 hI (fun k _ => rfl) (by decide +kernel) hq5 (by decide +kernel)
  refine pe_iconstv (n := 0) (v := 0) (by decide +kernel) (by decide +kernel) ?_
  refine pe_istore_n (j := 1) (ls' := [.ref 147, .int 0, pm_dead, pm_dead, pm_dead]) (by decide +kernel) (Nat.le_of_ble_eq_true rfl) rfl ?_
  refine pe_aload_n (j := 0) (by decide +kernel) rfl ?_
  refine pe_iconstv (n := (-1)) (v := (-1)) (by decide +kernel) (by decide +kernel) ?_
  refine pz_callV (j := 240) (mj := 257) (by decide +kernel) (cll_V (args := [.int (-1)]) (n := 1) (by decide +kernel) rfl rfl (md_o hc) (by decide +kernel) (Nat.le_of_ble_eq_true rfl) (Nat.le_of_ble_eq_true rfl)) (NM_257 hc hIy3 (by decide +kernel)) (fun q6a q6b q6c q6d hqq6 => ?_)
  obtain ⟨rq6, eq6, kq6⟩ := hqq6
  cases eq6
  refine ⟨rfl, rfl, ?_⟩
  obtain ⟨kfq6, kq6⟩ := kq6
  obtain ⟨hp7, hp8, kq6⟩ := kq6
  show pmE pg X pg_tyl pg_cl (d + 1) 256 28 [.ref 147, .int 0, pm_dead, pm_dead, pm_dead] [.int rq6] (md wc f A1) _
  have hr09 : 0 ≤ rq6.toInt := by
    refine Classical.byContradiction (fun hx => ?_)
    have h1 := sumT_le (c := A 152) (fun j j0 j1 => by have h := hp8 (by omega) j j0 (by omega) (Or.inl (by rw [kz_m1]; decide)); rw [show A1 152 = A 152 from (hFA1 152 (by decide))] at h; exact h) 81 (by decide)
    omega
  have hex10 := (hp7 hr09).1 (by rw [kz_m1]; decide)
  rw [show A1 152 = A 152 from (hFA1 152 (by decide))] at hex10
  refine pe_istore_n (j := 2) (ls' := [.ref 147, .int 0, .int rq6, pm_dead, pm_dead]) (by decide +kernel) (Nat.le_of_ble_eq_true rfl) rfl ?_
  refine NL_256_29 hc (by rw [show A1 152 = A 152 from (hFA1 152 (by decide))]; exact hpp0) (by rw [show A1 152 = A 152 from (hFA1 152 (by decide))]; exact hpp1) (fun A11 y12 y13 hIy14 hFA11 gy12 gy13 hp15 hp16 hp17 => ?_) (9 - cnn (A1 155) + 1) A1 0 rq6 hIy3 (fun k _ _ => rfl) (by decide +kernel) (by omega) (WY_zero kz_0 (mlen_155 hIy3) (fun j j0 j1 => hq4 j j0 (by omega))) (by rw [show A1 152 = A 152 from (hFA1 152 (by decide))]; exact hex10) (Nat.lt_succ_self _)
  refine pe_aload_n (j := 0) (by decide +kernel) rfl ?_
  refine pe_get (j := 29) (ci := 12) (n := 17) (by decide +kernel) (by decide +kernel) (md_o hc) rfl ?_
  refine pe_iload_n (j := 1) (by decide +kernel) rfl ?_
  refine pe_iload_n (j := 2) (by decide +kernel) rfl ?_
  refine mz_st154 (by decide +kernel) hc hIy14 rfl (by omega) (by omega) (fun A18 eA18 hIA18 => ?_)
  have hcy19 := CY_of (y := y13) hp15 (mlen_154 hIy14) (mlen_155 hIy14) (by omega) (by omega) (by omega) hp17 rfl
  rw [show (A11 154).set y12.toInt.toNat y13 = A18 154 from (upa_at eA18).symm, show A11 155 = A18 155 from (upa_fr eA18 (by decide)).symm, show A1 152 = A18 152 from ((upa_fr eA18 (by decide)).trans ((hFA11 152 (by decide) (by decide)))).symm] at hcy19
  refine pe_ldc (j := 243) (v := 1000000) (by decide +kernel) (by decide +kernel) ?_
  refine pe_istore_n (j := 3) (ls' := [.ref 147, .int y12, .int y13, .int 1000000, pm_dead]) (by decide +kernel) (Nat.le_of_ble_eq_true rfl) rfl ?_
  refine pe_aload_n (j := 0) (by decide +kernel) rfl ?_
  refine pe_get (j := 32) (ci := 12) (n := 18) (by decide +kernel) (by decide +kernel) (md_o hc) rfl ?_
  refine pe_iload_n (j := 2) (by decide +kernel) rfl ?_
  refine pz_iald (by decide +kernel) (md_a155 hc) (mlen_155 hIA18) rfl (by omega) (by omega) (fun v20 ev20 => ?_)
  rw [show A18 155 = A11 155 from upa_fr eA18 (by decide)] at ev20
  have hs021 : fr (A18 155) y13.toInt = v20.toInt := by rw [show A18 155 = A11 155 from upa_fr eA18 (by decide)]; exact (show fr (A11 155) (y13.toInt) = v20.toInt from congrArg Int32.toInt ev20.symm)
  have hs122 := hcy19
  have hs122x := hs122.2.2.2.2
  rw [hs021] at hs122x
  refine pe_istore (j := 4) (ls' := [.ref 147, .int y12, .int y13, .int 1000000, .int v20]) (by decide +kernel) (Nat.le_of_ble_eq_true rfl) rfl ?_
  refine NL_256_82 hc hIA18 (by omega) (by omega) hcy19 (by rw [show A18 152 = A 152 from (upa_fr eA18 (by decide)).trans (((hFA11 152 (by decide) (by decide))).trans ((hFA1 152 (by decide))))]; exact hpp0) (fun y23 y24 gy23 gy24 hr25 hr26 hx27 hp28 hp29 => ?_) 10 1000000 v20 (by decide +kernel) (by omega) (by omega) (fun j j0 j1 => absurd j1 (by rw [hs021] at j0; omega)) (by rw [hs021]; omega) (by have l0 := zi_lo v20; have u0 := zi_hi v20; omega)
  refine pe_aload_n (j := 0) (by decide +kernel) rfl ?_
  refine pe_get (j := 32) (ci := 12) (n := 18) (by decide +kernel) (by decide +kernel) (md_o hc) rfl ?_
  refine pe_iload_n (j := 2) (by decide +kernel) rfl ?_
  refine pz_iald (by decide +kernel) (md_a155 hc) (mlen_155 hIA18) rfl (by omega) (by omega) (fun v30 ev30 => ?_)
  rw [show A18 155 = A11 155 from upa_fr eA18 (by decide)] at ev30
  rw [ev30.trans ev20.symm]
  clear ev30 v30
  have hs031 : fr (A18 155) y13.toInt = v20.toInt := by rw [show A18 155 = A11 155 from upa_fr eA18 (by decide)]; exact (show fr (A11 155) (y13.toInt) = v20.toInt from congrArg Int32.toInt ev20.symm)
  have hs132 := hcy19
  have hs132x := hs132.2.2.2.2
  rw [hs031] at hs132x
  refine pe_istore (j := 4) (ls' := [.ref 147, .int y12, .int y13, .int y23, .int v20]) (by decide +kernel) (Nat.le_of_ble_eq_true rfl) rfl ?_
  refine NL_256_151 hc (by omega) (by omega) (by omega) hcy19 (fun j j0 j1 => hp28 j j0 (by omega)) (fun A33 y34 hIy35 hFA33 gy34 hr36 hr37 hx38 hp39 hp40 => ?_) 10 A18 v20 hIA18 (fun k _ => rfl) (by omega) (by omega) (by rw [← hs031]; exact SB_zero (by rw [show A18 152 = A 152 from (upa_fr eA18 (by decide)).trans (((hFA11 152 (by decide) (by decide))).trans ((hFA1 152 (by decide))))]; exact hpp0) (by rw [show A18 152 = A 152 from (upa_fr eA18 (by decide)).trans (((hFA11 152 (by decide) (by decide))).trans ((hFA1 152 (by decide))))]; exact hpp1)) (by rw [hs031]; omega) (by have l0 := zi_lo v20; have u0 := zi_hi v20; omega)
  have hend41 := SB_end hp39 hcy19 (by omega)
  rw [show A18 152 = A 152 from (upa_fr eA18 (by decide)).trans (((hFA11 152 (by decide) (by decide))).trans ((hFA1 152 (by decide))))] at hend41
  exact pe_vret (by decide +kernel) rfl ⟨A33, rfl, hIy35, (fun k n152 n154 n155 => ((hFA33 k n152)).trans ((upa_fr eA18 n154).trans (((hFA11 k n154 n155)).trans ((hFA1 k n155))))), ⟨hend41.1, hend41.2.1, hend41.2.2, trivial⟩⟩
