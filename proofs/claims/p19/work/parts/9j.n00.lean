set_option maxRecDepth 100000 in
set_option maxHeartbeats 8000000 in
theorem NL_198_255 {X : pm_X} {d : Nat} {wc : pm_W} {Q : pm_R → Prop} {f : Nat → Int32} {A0 : Nat → List Int32} {x1 x2 x3 x4 : Int32} (hc : wc.length = 147) (gx1 : (0 ≤ x1.toInt ∧ x1.toInt ≤ 1)) (gx2 : ((-1) ≤ x2.toInt ∧ x2.toInt ≤ 2)) (gx3 : (0 ≤ x3.toInt ∧ x3.toInt ≤ 2)) (gx4 : (132 ≤ x4.toInt ∧ x4.toInt ≤ 272)) (k_288_0 : ∀ (A' : Nat → List Int32) (y5 : Int32), MJ f A' → (∀ k : Nat, k ≠ 148 → A' k = A0 k) → (132 ≤ y5.toInt ∧ y5.toInt ≤ 272) → ((-1) * x4.toInt + y5.toInt) ≤ 0 → CP (A' 148) (A0 148) (A0 150) (plc x1.toInt x3.toInt) 0 y5.toInt → x4.toInt ≤ y5.toInt → pmE pg X pg_tyl pg_cl (d + 7) 198 288 [.ref 147, .int x1, .int x2, .int x3, .int x4, .int y5] [] (md wc f A') Q) : ∀ (m : Nat) (A : Nat → List Int32) (x5 : Int32), MJ f A → (∀ k : Nat, k ≠ 148 → A k = A0 k) → (0 ≤ x5.toInt ∧ x5.toInt ≤ 272) → ((-1) * x4.toInt + x5.toInt) ≤ 0 → CP (A 148) (A0 148) (A0 150) (plc x1.toInt x3.toInt) 0 x5.toInt → 272 - x5.toInt < (m : Int) → pmE pg X pg_tyl pg_cl (d + 7) 198 255 [.ref 147, .int x1, .int x2, .int x3, .int x4, .int x5] [] (md wc f A) Q := by
  intro m
  induction m with
  | zero =>
    intro A x5 hI hF gx5 hxi0 hpi0 hm
    exfalso
    have l0 := zi_lo x5
    have u0 := zi_hi x5
    omega
  | succ m ih =>
    intro A x5 hI hF gx5 hxi0 hpi0 hm
    refine pe_iload (j := 5) (by decide +kernel) rfl ?_
    refine pe_iload (j := 4) (by decide +kernel) rfl ?_
    refine pz_icmp_ge (off := 29) (t := 288) (by decide +kernel) (by decide) rfl rfl rfl (fun h1 => ?_) (fun h1 => ?_)
    · skip
      exact k_288_0 A x5 hI (fun k n148 => (hF k n148)) (by omega) (by omega) hpi0 (by omega)
    · skip
      refine pe_aload_n (j := 0) (by decide +kernel) rfl ?_
      refine pe_get (j := 7) (ci := 12) (n := 0) (by decide +kernel) (by decide +kernel) (md_o hc) rfl ?_
      refine pe_iload_n (j := 1) (by decide +kernel) rfl ?_
      refine pe_iload_n (j := 3) (by decide +kernel) rfl ?_
      refine pi_S (j := 163) (mj := 217) (by decide +kernel) (by decide +kernel) rfl ?_
      show pmE pg X pg_tyl pg_cl (d + 6) 217 0 [.int x1, .int x3] [] (md wc f A) _
      refine pe_iload_n (j := 0) (by decide +kernel) rfl ?_
      refine pz_if_ne (off := 15) (t := 16) (by decide +kernel) (by decide) rfl rfl (fun h2 => ?_) (fun h2 => ?_)
      · skip
        refine pe_sipushv (n := 874) (v := 874) (by decide +kernel) (by decide +kernel) ?_
        refine pe_sipushv (n := 272) (v := 272) (by decide +kernel) (by decide +kernel) ?_
        refine pe_iload_n (j := 1) (by decide +kernel) rfl ?_
        refine pz_mul (by decide +kernel) kz_272 rfl (by omega) (by omega) (fun z3 hz3 => ?_)
        refine pz_add (by decide +kernel) kz_874 hz3 (by omega) (by omega) (fun z4 hz4 => ?_)
        clear hz3
        refine pe_iret (by decide +kernel) rfl rfl ⟨rfl, rfl, ?_⟩
        show pmE pg X pg_tyl pg_cl (d + 7) 198 271 [.ref 147, .int x1, .int x2, .int x3, .int x4, .int x5] [.int z4, .ref 148] (md wc f A) _
        refine pe_iload (j := 5) (by decide +kernel) rfl ?_
        refine pz_add (by decide +kernel) hz4 rfl (by omega) (by omega) (fun z5 hz5 => ?_)
        clear hz4
        refine pe_aload_n (j := 0) (by decide +kernel) rfl ?_
        refine pe_get (j := 17) (ci := 12) (n := 10) (by decide +kernel) (by decide +kernel) (md_o hc) rfl ?_
        refine pe_iload (j := 5) (by decide +kernel) rfl ?_
        refine pz_iald (by decide +kernel) (md_a150 hc) (mjlen_150 hI) rfl (by omega) (by omega) (fun v6 ev6 => ?_)
        rw [show A 150 = A0 150 from (hF 150 (by decide))] at ev6
        refine mj_st148 (by decide +kernel) hc hI hz5 (by omega) (by omega) (fun A7 eA7 hIA7 => ?_)
        refine pz_iinc (j := 5) (n := 1) (by decide +kernel) rfl rfl (by decide +kernel) (by omega) (by omega) (fun z8 hz8 => ?_)
        show pmE pg X pg_tyl pg_cl (d + 7) 198 285 [.ref 147, .int x1, .int x2, .int x3, .int x4, .int z8] [] (md wc f A7) _
        refine pe_goto (off := (-30)) (t := 255) (by decide +kernel) (by decide) rfl ?_
        exact ih A7 z8 hIA7 (fun k n148 => (upa_fr eA7 n148).trans ((hF k n148))) (by omega) (by omega) (by have h := hpi0; rw [show plc x1.toInt x3.toInt = (874 + (272 * x3.toInt)) by unfold plc; rw [if_neg (by omega)]] at h ⊢; rw [hz8, upa_at eA7]; exact CP_step h (by omega) (by omega) (by rw [mjlen_148 hI]; omega) (by rw [Int.zero_add, (show fr (A0 150) (x5.toInt) = v6.toInt from congrArg Int32.toInt ev6.symm)])) (by omega)
      · skip
        refine pe_sipushv (n := 610) (v := 610) (by decide +kernel) (by decide +kernel) ?_
        refine pe_sipushv (n := 132) (v := 132) (by decide +kernel) (by decide +kernel) ?_
        refine pe_iload_n (j := 1) (by decide +kernel) rfl ?_
        refine pz_mul (by decide +kernel) kz_132 rfl (by omega) (by omega) (fun z9 hz9 => ?_)
        refine pz_add (by decide +kernel) kz_610 hz9 (by omega) (by omega) (fun z10 hz10 => ?_)
        clear hz9
        refine pe_goto (off := 12) (t := 25) (by decide +kernel) (by decide) rfl ?_
        refine pe_iret (by decide +kernel) rfl rfl ⟨rfl, rfl, ?_⟩
        show pmE pg X pg_tyl pg_cl (d + 7) 198 271 [.ref 147, .int x1, .int x2, .int x3, .int x4, .int x5] [.int z10, .ref 148] (md wc f A) _
        refine pe_iload (j := 5) (by decide +kernel) rfl ?_
        refine pz_add (by decide +kernel) hz10 rfl (by omega) (by omega) (fun z11 hz11 => ?_)
        clear hz10
        refine pe_aload_n (j := 0) (by decide +kernel) rfl ?_
        refine pe_get (j := 17) (ci := 12) (n := 10) (by decide +kernel) (by decide +kernel) (md_o hc) rfl ?_
        refine pe_iload (j := 5) (by decide +kernel) rfl ?_
        refine pz_iald (by decide +kernel) (md_a150 hc) (mjlen_150 hI) rfl (by omega) (by omega) (fun v12 ev12 => ?_)
        rw [show A 150 = A0 150 from (hF 150 (by decide))] at ev12
        refine mj_st148 (by decide +kernel) hc hI hz11 (by omega) (by omega) (fun A13 eA13 hIA13 => ?_)
        refine pz_iinc (j := 5) (n := 1) (by decide +kernel) rfl rfl (by decide +kernel) (by omega) (by omega) (fun z14 hz14 => ?_)
        show pmE pg X pg_tyl pg_cl (d + 7) 198 285 [.ref 147, .int x1, .int x2, .int x3, .int x4, .int z14] [] (md wc f A13) _
        refine pe_goto (off := (-30)) (t := 255) (by decide +kernel) (by decide) rfl ?_
        exact ih A13 z14 hIA13 (fun k n148 => (upa_fr eA13 n148).trans ((hF k n148))) (by omega) (by omega) (by have h := hpi0; rw [show plc x1.toInt x3.toInt = (610 + (132 * x3.toInt)) by unfold plc; rw [if_pos (by omega)]] at h ⊢; rw [hz14, upa_at eA13]; exact CP_step h (by omega) (by omega) (by rw [mjlen_148 hI]; omega) (by rw [Int.zero_add, (show fr (A0 150) (x5.toInt) = v12.toInt from congrArg Int32.toInt ev12.symm)])) (by omega)
set_option maxRecDepth 100000 in
set_option maxHeartbeats 8000000 in
theorem NL_198_128 {X : pm_X} {d : Nat} {wc : pm_W} {Q : pm_R → Prop} {f0 : Nat → Int32} {A0 : Nat → List Int32} {x1 x2 x3 : Int32} (hc : wc.length = 147) (gx1 : (0 ≤ x1.toInt ∧ x1.toInt ≤ 1)) (gx2 : ((-1) ≤ x2.toInt ∧ x2.toInt ≤ 2)) (gx3 : (272 ≤ x3.toInt ∧ x3.toInt ≤ 272)) (k_160_0 : ∀ (f' : Nat → Int32) (A' : Nat → List Int32), MI f' A' → (∀ k : Nat, k ≠ 3 → k ≠ 4 → k ≠ 5 → k ≠ 6 → k ≠ 7 → k ≠ 8 → k ≠ 9 → f' k = f0 k) → (∀ k : Nat, k ≠ 148 → k ≠ 150 → k ≠ 151 → A' k = A0 k) → TX f0 f' A0 A' → RD x1.toInt f' A' → pmE pg X pg_tyl pg_cl (d + 7) 198 160 [.ref 147, .int x1, .int x2, .int x3, pm_dead, pm_dead] [] (md wc f' A') Q) : ∀ (m : Nat) (f : Nat → Int32) (A : Nat → List Int32), MI f A → (∀ k : Nat, k ≠ 3 → k ≠ 4 → k ≠ 5 → k ≠ 6 → k ≠ 7 → k ≠ 8 → k ≠ 9 → f k = f0 k) → (∀ k : Nat, k ≠ 148 → k ≠ 150 → k ≠ 151 → A k = A0 k) → TX f0 f A0 A → RD x1.toInt f A → (8000 - msr f).toNat < m → pmE pg X pg_tyl pg_cl (d + 7) 198 128 [.ref 147, .int x1, .int x2, .int x3, pm_dead, pm_dead] [] (md wc f A) Q := by
  intro m
  induction m with
  | zero =>
    intro f A hI hG hF hpi0 hpi1 hm
    exfalso
    exact absurd hm (Nat.not_lt_zero _)
  | succ m ih =>
    intro f A hI hG hF hpi0 hpi1 hm
    refine pe_aload_n (j := 0) (by decide +kernel) rfl ?_
    refine pe_get (j := 112) (ci := 12) (n := 8) (by decide +kernel) (by decide +kernel) (md_o hc) rfl ?_
    have hr_f_8 := mf_8 hI
    refine pz_if_ne (off := 28) (t := 160) (by decide +kernel) (by decide) rfl rfl (fun h1 => ?_) (fun h1 => ?_)
    · skip
      exact k_160_0 f A hI (fun k n3 n4 n5 n6 n7 n8 n9 => (hG k n3 n4 n5 n6 n7 n8 n9)) (fun k n148 n150 n151 => (hF k n148 n150 n151)) hpi0 hpi1
    · skip
      refine pe_aload_n (j := 0) (by decide +kernel) rfl ?_
      refine pe_get (j := 93) (ci := 12) (n := 5) (by decide +kernel) (by decide +kernel) (md_o hc) rfl ?_
      have hr_f_5 := mf_5 hI
      refine pz_if_eq (off := 21) (t := 160) (by decide +kernel) (by decide) rfl rfl (fun h2 => ?_) (fun h2 => ?_)
      · skip
        exact k_160_0 f A hI (fun k n3 n4 n5 n6 n7 n8 n9 => (hG k n3 n4 n5 n6 n7 n8 n9)) (fun k n148 n150 n151 => (hF k n148 n150 n151)) hpi0 hpi1
      · skip
        refine pe_iload_n (j := 1) (by decide +kernel) rfl ?_
        refine pz_if_ne (off := 10) (t := 153) (by decide +kernel) (by decide) rfl rfl (fun h3 => ?_) (fun h3 => ?_)
        · skip
          refine pe_aload_n (j := 0) (by decide +kernel) rfl ?_
          refine pz_callV (j := 160) (mj := 215) (by decide +kernel) (cll_V (args := []) (n := 0) (by decide +kernel) rfl rfl (md_o hc) (by decide +kernel) (Nat.le_of_ble_eq_true rfl) (Nat.le_of_ble_eq_true rfl)) (NM_215 hc hI hpi0.2.2.2.2 (hpi1.2 (by omega)).1 (by have h := (hpi1.2 (by omega)).2; have h2 := ms_b hI; omega)) (fun q4a q4b q4c q4d hqq4 => ?_)
          obtain ⟨f5, A6, eq4, hIq4, hGq4, hFq4, kq4⟩ := hqq4
          cases eq4
          refine ⟨rfl, rfl, ?_⟩
          obtain ⟨hp7, hp8, hp9, hp10, kq4⟩ := kq4
          have htx11 := TX_trans hpi0 hp7
          show pmE pg X pg_tyl pg_cl (d + 7) 198 157 [.ref 147, .int x1, .int x2, .int x3, pm_dead, pm_dead] [] (md wc f5 A6) _
          refine pe_goto (off := (-29)) (t := 128) (by decide +kernel) (by decide) rfl ?_
          exact ih f5 A6 hIq4 (fun k n3 n4 n5 n6 n7 n8 n9 => ((hGq4 k n3 n4 n5 n6 n7 n8 n9)).trans ((hG k n3 n4 n5 n6 n7 n8 n9))) (fun k n148 n150 n151 => ((hFq4 k n148 n150 n151)).trans ((hF k n148 n150 n151))) htx11 ⟨fun h => absurd h (by omega), fun _ => ⟨hp9, by have h := hp8 (by omega); have h2 := hp10; have h3 := (hpi1.2 (by omega)).2; omega⟩⟩ (by have h := hp8 (by omega); have h2 := ms_b hIq4; omega)
        · skip
          refine pe_aload_n (j := 0) (by decide +kernel) rfl ?_
          refine pz_callV (j := 157) (mj := 207) (by decide +kernel) (cll_V (args := []) (n := 0) (by decide +kernel) rfl rfl (md_o hc) (by decide +kernel) (Nat.le_of_ble_eq_true rfl) (Nat.le_of_ble_eq_true rfl)) (NM_207 hc hI hpi0.2.2.2.2 (hpi1.1 (by omega)).1 (by have h := (hpi1.1 (by omega)).2; have h2 := ms_b hI; omega)) (fun q12a q12b q12c q12d hqq12 => ?_)
          obtain ⟨f13, A14, eq12, hIq12, hGq12, hFq12, kq12⟩ := hqq12
          cases eq12
          refine ⟨rfl, rfl, ?_⟩
          obtain ⟨hp15, hp16, hp17, hp18, kq12⟩ := kq12
          have htx19 := TX_trans hpi0 hp15
          show pmE pg X pg_tyl pg_cl (d + 7) 198 150 [.ref 147, .int x1, .int x2, .int x3, pm_dead, pm_dead] [] (md wc f13 A14) _
          refine pe_goto (off := (-22)) (t := 128) (by decide +kernel) (by decide) rfl ?_
          exact ih f13 A14 hIq12 (fun k n3 n4 n5 n6 n7 n8 n9 => ((hGq12 k n3 n4 n5 n6 n7 n8 n9)).trans ((hG k n3 n4 n5 n6 n7 n8 n9))) (fun k n148 n150 n151 => ((hFq12 k n148 n150)).trans ((hF k n148 n150 n151))) htx19 ⟨fun _ => ⟨hp17, by have h := hp16 (by omega); have h2 := hp18; have h3 := (hpi1.1 (by omega)).2; omega⟩, fun h => absurd h (by omega)⟩ (by have h := hp16 (by omega); have h2 := ms_b hIq12; omega)
set_option maxRecDepth 100000 in
set_option maxHeartbeats 8000000 in
theorem NL_198_89 {X : pm_X} {d : Nat} {wc : pm_W} {Q : pm_R → Prop} {f : Nat → Int32} {A0 : Nat → List Int32} {x1 x2 : Int32} (hc : wc.length = 147) (gx1 : (0 ≤ x1.toInt ∧ x1.toInt ≤ 1)) (gx2 : ((-1) ≤ x2.toInt ∧ x2.toInt ≤ 2)) (k_109_0 : ∀ (A' : Nat → List Int32) (y3 : Int32), MI f A' → (∀ k : Nat, k ≠ 150 → A' k = A0 k) → (272 ≤ y3.toInt ∧ y3.toInt ≤ 272) → (∀ j : Int, (0) ≤ j → j < (y3.toInt) → 0 ≤ ((A' 150).getD j.toNat 0).toInt ∧ ((A' 150).getD j.toNat 0).toInt ≤ 0) → pmE pg X pg_tyl pg_cl (d + 7) 198 109 [.ref 147, .int x1, .int x2, .int y3, pm_dead, pm_dead] [] (md wc f A') Q) : ∀ (m : Nat) (A : Nat → List Int32) (x3 : Int32), MI f A → (∀ k : Nat, k ≠ 150 → A k = A0 k) → (0 ≤ x3.toInt ∧ x3.toInt ≤ 272) → (∀ j : Int, (0) ≤ j → j < (x3.toInt) → 0 ≤ ((A 150).getD j.toNat 0).toInt ∧ ((A 150).getD j.toNat 0).toInt ≤ 0) → 272 - x3.toInt < (m : Int) → pmE pg X pg_tyl pg_cl (d + 7) 198 89 [.ref 147, .int x1, .int x2, .int x3, pm_dead, pm_dead] [] (md wc f A) Q := by
  intro m
  induction m with
  | zero =>
    intro A x3 hI hF gx3 hv0 hm
    exfalso
    have l0 := zi_lo x3
    have u0 := zi_hi x3
    omega
  | succ m ih =>
    intro A x3 hI hF gx3 hv0 hm
    refine pe_iload_n (j := 3) (by decide +kernel) rfl ?_
    refine pe_sipushv (n := 272) (v := 272) (by decide +kernel) (by decide +kernel) ?_
    refine pz_icmp_ge (off := 16) (t := 109) (by decide +kernel) (by decide) rfl rfl kz_272 (fun h1 => ?_) (fun h1 => ?_)
    · skip
      have hq2 : (∀ j : Int, (0) ≤ j → j < (x3.toInt) → 0 ≤ ((A 150).getD j.toNat 0).toInt ∧ ((A 150).getD j.toNat 0).toInt ≤ 0) := by
        intro j h1 h2
        first
        | (exfalso; omega)
        | exact hv0 j (by omega) (by omega)
      exact k_109_0 A x3 hI (fun k n150 => (hF k n150)) (by omega) hq2
    · skip
      refine pe_aload_n (j := 0) (by decide +kernel) rfl ?_
      refine pe_get (j := 17) (ci := 12) (n := 10) (by decide +kernel) (by decide +kernel) (md_o hc) rfl ?_
      refine pe_iload_n (j := 3) (by decide +kernel) rfl ?_
      refine pe_iconstv (n := 0) (v := 0) (by decide +kernel) (by decide +kernel) ?_
      refine mz_st150 (by decide +kernel) hc hI rfl (by omega) (by omega) (fun A3 eA3 hIA3 => ?_)
      refine pz_iinc (j := 3) (n := 1) (by decide +kernel) rfl rfl (by decide +kernel) (by omega) (by omega) (fun z4 hz4 => ?_)
      show pmE pg X pg_tyl pg_cl (d + 7) 198 106 [.ref 147, .int x1, .int x2, .int z4, pm_dead, pm_dead] [] (md wc f A3) _
      refine pe_goto (off := (-17)) (t := 89) (by decide +kernel) (by decide) rfl ?_
      have hq5 : (∀ j : Int, (0) ≤ j → j < (z4.toInt) → 0 ≤ ((A3 150).getD j.toNat 0).toInt ∧ ((A3 150).getD j.toNat 0).toInt ≤ 0) := by
        intro j h1 h2
        first
        | (exfalso; omega)
        | (by_cases e : (x3.toInt).toNat = j.toNat
           · rw [upa_at eA3, ← e, gz_eq (by rw [(mlen_150 hI)]; omega), kz_0]; omega
           · rw [upa_at eA3, gz_ne e]; have hh := hv0 j (by omega) (by omega); omega)
      exact ih A3 z4 hIA3 (fun k n150 => (upa_fr eA3 n150).trans ((hF k n150))) (by omega) hq5 (by omega)
set_option maxRecDepth 100000 in
set_option maxHeartbeats 8000000 in
theorem NM_198 {X : pm_X} {d : Nat} {wc : pm_W} {f : Nat → Int32} {A : Nat → List Int32} {x1 x2 : Int32} (hc : wc.length = 147) (hI : MI f A) : pmE pg X pg_tyl pg_cl (d + 7) 198 0 (pm_ent (pm_max pg 198) [.ref 147, .int x1, .int x2]) [] (md wc f A) (fun q => ∃ (f' : Nat → Int32) (A' : Nat → List Int32) (r : Int32), q = (some (.int r), md wc f' A', 0, 0) ∧ MI f' A' ∧ (∀ k : Nat, k ≠ 2 → k ≠ 3 → k ≠ 4 → k ≠ 5 → k ≠ 6 → k ≠ 7 → k ≠ 8 → k ≠ 9 → f' k = f k) ∧ (∀ k : Nat, k ≠ 148 → k ≠ 150 → k ≠ 151 → A' k = A k) ∧ ((((-2) ≤ r.toInt ∧ r.toInt ≤ 2) ∧ TP A A' ∧ True))) := by
  show pmE pg X pg_tyl pg_cl (d + 7) 198 0 [.ref 147, .int x1, .int x2, pm_dead, pm_dead, pm_dead] [] (md wc f A) _
  by_cases h1 : x1.toInt = 0
  · skip
    rw [show x1 = 0 from ti_eq (h1.trans kz_0.symm)]
    have hlk2 := kz_0
    refine pe_aload_n (j := 0) (by decide +kernel) rfl ?_
    refine pe_aload_n (j := 0) (by decide +kernel) rfl ?_
    refine pe_get (j := 7) (ci := 12) (n := 0) (by decide +kernel) (by decide +kernel) (md_o hc) rfl ?_
    refine pe_iconstv (n := 2) (v := 2) (by decide +kernel) (by decide +kernel) ?_
    refine pz_iald (by decide +kernel) (md_a148 hc) (mlen_148 hI) kz_2 (by omega) (by omega) (fun v3 ev3 => ?_)
    have rv3 : 0 ≤ v3.toInt ∧ v3.toInt ≤ 600 := MT_c2 (mt_148 hI ev3 (by omega)) (by omega)
    refine mz_put2 (jj := 75) (by decide +kernel) (by decide +kernel) hc hI (by omega) (by omega) (fun f4 ef4 hIf4 => ?_)
    refine pe_aload_n (j := 0) (by decide +kernel) rfl ?_
    refine pe_get (j := 7) (ci := 12) (n := 0) (by decide +kernel) (by decide +kernel) (md_o hc) rfl ?_
    refine pe_iconstv (n := 2) (v := 2) (by decide +kernel) (by decide +kernel) ?_
    refine pe_iconstv (n := 0) (v := 0) (by decide +kernel) (by decide +kernel) ?_
    refine mz_st148 (by decide +kernel) hc hIf4 kz_2 (by omega) (by omega) (by rw [kz_0]; simp only [MT]; omega) (fun A5 eA5 hIA5 => ?_)
    have htp6 := TP_init eA5 (mlen_148 hI) kz_0
    refine pe_aload_n (j := 0) (by decide +kernel) rfl ?_
    refine pe_get (j := 7) (ci := 12) (n := 0) (by decide +kernel) (by decide +kernel) (md_o hc) rfl ?_
    refine pe_iconstv (n := 3) (v := 3) (by decide +kernel) (by decide +kernel) ?_
    refine pe_iconstv (n := 0) (v := 0) (by decide +kernel) (by decide +kernel) ?_
    refine mz_st148 (by decide +kernel) hc hIA5 kz_3 (by omega) (by omega) (by rw [kz_0]; simp only [MT]; omega) (fun A7 eA7 hIA7 => ?_)
    refine pe_aload_n (j := 0) (by decide +kernel) rfl ?_
    refine pe_get (j := 7) (ci := 12) (n := 0) (by decide +kernel) (by decide +kernel) (md_o hc) rfl ?_
    refine pe_iconstv (n := 4) (v := 4) (by decide +kernel) (by decide +kernel) ?_
    refine pe_iconstv (n := (-1)) (v := (-1)) (by decide +kernel) (by decide +kernel) ?_
    refine mz_st148 (by decide +kernel) hc hIA7 kz_4 (by omega) (by omega) (by rw [kz_m1]; simp only [MT]; omega) (fun A8 eA8 hIA8 => ?_)
    refine pe_iload_n (j := 1) (by decide +kernel) rfl ?_
    refine pe_iconstv (n := 0) (v := 0) (by decide +kernel) (by decide +kernel) ?_
    refine pe_iconstv (n := 1) (v := 1) (by decide +kernel) (by decide +kernel) ?_
    refine pi_S (j := 119) (mj := 199) (by decide +kernel) (by decide +kernel) rfl ?_
    show pmE pg X pg_tyl pg_cl (d + 6) 199 0 [.int 0, .int 0, .int 1] [] (md wc f4 A8) _
    refine pe_iload_n (j := 0) (by decide +kernel) rfl ?_
    refine pe_iload_n (j := 1) (by decide +kernel) rfl ?_
    refine pz_icmp_lt (off := 12) (t := 14) (by decide +kernel) (by decide) rfl kz_0 kz_0 (fun h9 => by omega) (fun h9 => ?_)
    refine pe_iload_n (j := 0) (by decide +kernel) rfl ?_
    refine pe_iload_n (j := 2) (by decide +kernel) rfl ?_
    refine pz_icmp_gt (off := 7) (t := 14) (by decide +kernel) (by decide) rfl kz_0 kz_1 (fun h10 => by omega) (fun h10 => ?_)
    refine pe_iconstv (n := 1) (v := 1) (by decide +kernel) (by decide +kernel) ?_
    refine pe_goto (off := 4) (t := 15) (by decide +kernel) (by decide) rfl ?_
    refine pe_iret (by decide +kernel) rfl rfl ⟨rfl, rfl, ?_⟩
    show pmE pg X pg_tyl pg_cl (d + 7) 198 37 [.ref 147, .int 0, .int x2, pm_dead, pm_dead, pm_dead] [.int 1] (md wc f4 A8) _
    refine pz_if_eq (off := 32) (t := 69) (by decide +kernel) (by decide) rfl kz_1 (fun h11 => by omega) (fun h11 => ?_)
    refine pe_iload_n (j := 2) (by decide +kernel) rfl ?_
    refine pe_iconstv (n := (-1)) (v := (-1)) (by decide +kernel) (by decide +kernel) ?_
    have lw13 := zi_lo x2
    have uw13 := zi_hi x2
    refine pz_icmp_ne (off := 18) (t := 60) (by decide +kernel) (by decide) rfl rfl kz_m1 (fun h12 => ?_) (fun h12 => ?_)
    · skip
      refine pe_aload_n (j := 0) (by decide +kernel) rfl ?_
      refine pe_iload_n (j := 1) (by decide +kernel) rfl ?_
      refine pe_iload_n (j := 2) (by decide +kernel) rfl ?_
      refine pi_V (j := 153) (mj := 200) (by decide +kernel) (cll_V (args := [.int x2, .int 0]) (n := 2) (by decide +kernel) rfl rfl (md_o hc) (by decide +kernel) (Nat.le_of_ble_eq_true rfl) (Nat.le_of_ble_eq_true rfl)) ?_
      show pmE pg X pg_tyl pg_cl (d + 6) 200 0 [.ref 147, .int 0, .int x2] [] (md wc f4 A8) _
      refine pe_iload_n (j := 2) (by decide +kernel) rfl ?_
      refine pe_iconstv (n := 0) (v := 0) (by decide +kernel) (by decide +kernel) ?_
      refine pe_aload_n (j := 0) (by decide +kernel) rfl ?_
      refine pe_get (j := 7) (ci := 12) (n := 0) (by decide +kernel) (by decide +kernel) (md_o hc) rfl ?_
      refine pe_iload_n (j := 1) (by decide +kernel) rfl ?_
      refine pz_iald (by decide +kernel) (md_a148 hc) (mlen_148 hIA8) kz_0 (by omega) (by omega) (fun v14 ev14 => ?_)
      have rv14 : 0 ≤ v14.toInt ∧ v14.toInt ≤ 2 := MT_c0 (mt_148 hIA8 ev14 (by omega)) (by omega)
      refine pe_iconstv (n := 1) (v := 1) (by decide +kernel) (by decide +kernel) ?_
      refine pz_sub (by decide +kernel) rfl kz_1 (by omega) (by omega) (fun z15 hz15 => ?_)
      refine pi_S (j := 119) (mj := 199) (by decide +kernel) (by decide +kernel) rfl ?_
      show pmE pg X pg_tyl pg_cl (d + 5) 199 0 [.int x2, .int 0, .int z15] [] (md wc f4 A8) _
      refine pe_iload_n (j := 0) (by decide +kernel) rfl ?_
      refine pe_iload_n (j := 1) (by decide +kernel) rfl ?_
      refine pz_icmp_lt (off := 12) (t := 14) (by decide +kernel) (by decide) rfl rfl kz_0 (fun h16 => ?_) (fun h16 => ?_)
      · skip
        refine pe_iconstv (n := 0) (v := 0) (by decide +kernel) (by decide +kernel) ?_
        refine pe_iret (by decide +kernel) rfl rfl ⟨rfl, rfl, ?_⟩
        show pmE pg X pg_tyl pg_cl (d + 6) 200 13 [.ref 147, .int 0, .int x2] [.int 0] (md wc f4 A8) _
        refine pe_iret (by decide +kernel) rfl rfl ⟨rfl, rfl, ?_⟩
        show pmE pg X pg_tyl pg_cl (d + 7) 198 66 [.ref 147, .int 0, .int x2, pm_dead, pm_dead, pm_dead] [.int 0] (md wc f4 A8) _
        refine pz_if_ne (off := 6) (t := 72) (by decide +kernel) (by decide) rfl kz_0 (fun h17 => by omega) (fun h17 => ?_)
        refine pe_bipushv (n := (-2)) (v := (-2)) (by decide +kernel) (by decide +kernel) ?_
        have htp18 := TP_set (i := 3) htp6 eA7 (by omega) (by omega) (by omega)
        have htp19 := TP_set (i := 4) htp18 eA8 (by omega) (by omega) (by omega)
        exact pe_iret (by decide +kernel) rfl rfl ⟨f4, A8, (-2), rfl, hIA8, (fun k n2 n3 n4 n5 n6 n7 n8 n9 => upf_fr ef4 n2), (fun k n148 n150 n151 => (upa_fr eA8 n148).trans ((upa_fr eA7 n148).trans (upa_fr eA5 n148))), ⟨(by decide +kernel), htp19, trivial⟩⟩
      · skip
        refine pe_iload_n (j := 0) (by decide +kernel) rfl ?_
        refine pe_iload_n (j := 2) (by decide +kernel) rfl ?_
        refine pz_icmp_gt (off := 7) (t := 14) (by decide +kernel) (by decide) rfl rfl hz15 (fun h20 => ?_) (fun h20 => ?_)
        · skip
          refine pe_iconstv (n := 0) (v := 0) (by decide +kernel) (by decide +kernel) ?_
          refine pe_iret (by decide +kernel) rfl rfl ⟨rfl, rfl, ?_⟩
          show pmE pg X pg_tyl pg_cl (d + 6) 200 13 [.ref 147, .int 0, .int x2] [.int 0] (md wc f4 A8) _
          refine pe_iret (by decide +kernel) rfl rfl ⟨rfl, rfl, ?_⟩
          show pmE pg X pg_tyl pg_cl (d + 7) 198 66 [.ref 147, .int 0, .int x2, pm_dead, pm_dead, pm_dead] [.int 0] (md wc f4 A8) _
          refine pz_if_ne (off := 6) (t := 72) (by decide +kernel) (by decide) rfl kz_0 (fun h21 => by omega) (fun h21 => ?_)
          refine pe_bipushv (n := (-2)) (v := (-2)) (by decide +kernel) (by decide +kernel) ?_
          have htp22 := TP_set (i := 3) htp6 eA7 (by omega) (by omega) (by omega)
          have htp23 := TP_set (i := 4) htp22 eA8 (by omega) (by omega) (by omega)
          exact pe_iret (by decide +kernel) rfl rfl ⟨f4, A8, (-2), rfl, hIA8, (fun k n2 n3 n4 n5 n6 n7 n8 n9 => upf_fr ef4 n2), (fun k n148 n150 n151 => (upa_fr eA8 n148).trans ((upa_fr eA7 n148).trans (upa_fr eA5 n148))), ⟨(by decide +kernel), htp23, trivial⟩⟩
        · skip
          refine pe_iconstv (n := 1) (v := 1) (by decide +kernel) (by decide +kernel) ?_
          refine pe_goto (off := 4) (t := 15) (by decide +kernel) (by decide) rfl ?_
          refine pe_iret (by decide +kernel) rfl rfl ⟨rfl, rfl, ?_⟩
          show pmE pg X pg_tyl pg_cl (d + 6) 200 13 [.ref 147, .int 0, .int x2] [.int 1] (md wc f4 A8) _
          refine pe_iret (by decide +kernel) rfl rfl ⟨rfl, rfl, ?_⟩
          show pmE pg X pg_tyl pg_cl (d + 7) 198 66 [.ref 147, .int 0, .int x2, pm_dead, pm_dead, pm_dead] [.int 1] (md wc f4 A8) _
          refine pz_if_ne (off := 6) (t := 72) (by decide +kernel) (by decide) rfl kz_1 (fun h24 => ?_) (fun h24 => by omega)
          refine pe_aload_n (j := 0) (by decide +kernel) rfl ?_
          refine pe_iconstv (n := 0) (v := 0) (by decide +kernel) (by decide +kernel) ?_
          refine mz_put3 (jj := 83) (by decide +kernel) (by decide +kernel) hc hIA8 (by decide +kernel) (by decide +kernel) (fun f25 ef25 hIf25 => ?_)
          refine pe_aload_n (j := 0) (by decide +kernel) rfl ?_
          refine pe_iconstv (n := 0) (v := 0) (by decide +kernel) (by decide +kernel) ?_
          refine mz_put8 (jj := 112) (by decide +kernel) (by decide +kernel) hc hIf25 (by decide +kernel) (by decide +kernel) (by decide +kernel) (fun f26 ef26 hIf26 => ?_)
          refine pe_aload_n (j := 0) (by decide +kernel) rfl ?_
          refine pe_iconstv (n := 0) (v := 0) (by decide +kernel) (by decide +kernel) ?_
          refine mz_put9 (jj := 134) (by decide +kernel) (by decide +kernel) hc hIf26 (fun f27 ef27 hIf27 => ?_)
          refine pe_iconstv (n := 0) (v := 0) (by decide +kernel) (by decide +kernel) ?_
          refine pe_istore_n (j := 3) (ls' := [.ref 147, .int 0, .int x2, .int 0, pm_dead, pm_dead]) (by decide +kernel) (Nat.le_of_ble_eq_true rfl) rfl ?_
          have hq32 : (∀ j : Int, (0) ≤ j → j < ((0 : Int32).toInt) → 0 ≤ ((A8 150).getD j.toNat 0).toInt ∧ ((A8 150).getD j.toNat 0).toInt ≤ 0) := by
            intro j h1 h2
            have hl_x3 := kz_0
            rw [show A8 150 = A 150 from (upa_fr eA8 (by decide)).trans ((upa_fr eA7 (by decide)).trans (upa_fr eA5 (by decide)))]
            first
            | (exfalso; omega)
          refine NL_198_89 hc (by decide +kernel) (by omega) (fun A28 y29 hIy30 hFA28 gy29 hq31 => ?_) 273 A8 0 hIf27 (fun k _ => rfl) (by decide +kernel) hq32 (by decide +kernel)
          refine pe_aload_n (j := 0) (by decide +kernel) rfl ?_
          refine pe_get (j := 17) (ci := 12) (n := 10) (by decide +kernel) (by decide +kernel) (md_o hc) rfl ?_
          refine pe_iconstv (n := 0) (v := 0) (by decide +kernel) (by decide +kernel) ?_
          refine pe_iload_n (j := 1) (by decide +kernel) rfl ?_
          refine pz_if_ne (off := 7) (t := 122) (by decide +kernel) (by decide) rfl kz_0 (fun h33 => by omega) (fun h33 => ?_)
          refine pe_iconstv (n := 4) (v := 4) (by decide +kernel) (by decide +kernel) ?_
          refine pe_goto (off := 4) (t := 123) (by decide +kernel) (by decide) rfl ?_
          refine mz_st150 (by decide +kernel) hc hIy30 kz_0 (by omega) (by omega) (fun A34 eA34 hIA34 => ?_)
          have htp35 := TP_set (i := 3) htp6 eA7 (by omega) (by omega) (by omega)
          have htp36 := TP_set (i := 4) htp35 eA8 (by omega) (by omega) (by omega)
          have htp37 := TP_fr htp36 ((hFA28 148 (by decide)))
          have htp38 := TP_fr htp37 (upa_fr eA34 (by decide))
          refine pe_aload_n (j := 0) (by decide +kernel) rfl ?_
          have hx39 : (f27 3).toInt = 0 := (congrArg Int32.toInt (show f27 3 = 0 from (upf_fr ef27 (by decide)).trans ((upf_fr ef26 (by decide)).trans (upf_at ef25)))).trans kz_0
          refine pz_callV (j := 127) (mj := 201) (by decide +kernel) (cll_V (args := []) (n := 0) (by decide +kernel) rfl rfl (md_o hc) (by decide +kernel) (Nat.le_of_ble_eq_true rfl) (Nat.le_of_ble_eq_true rfl)) (MM_201 hc hIA34) (fun q40a q40b q40c q40d hqq40 => ?_)
          obtain ⟨f41, eq40, hIq40, hGq40, hX0q40, kq40⟩ := hqq40
          cases eq40
          refine ⟨rfl, rfl, ?_⟩
          have hr_f41_5 := mf_5 hIq40
          have hr_f41_3 := mf_3 hIq40
          show pmE pg X pg_tyl pg_cl (d + 7) 198 128 [.ref 147, .int 0, .int x2, .int y29, pm_dead, pm_dead] [] (md wc f41 A34) _
          have h9 : (f41 9).toInt = 0 := (congrArg Int32.toInt (show f41 9 = 0 from ((hGq40 9 (by decide) (by decide) (by decide) (by decide) (by decide))).trans (upf_at ef27))).trans kz_0
          have h8 : (f41 8).toInt = 0 := (congrArg Int32.toInt (show f41 8 = 0 from ((hGq40 8 (by decide) (by decide) (by decide) (by decide) (by decide))).trans ((upf_fr ef27 (by decide)).trans (upf_at ef26)))).trans kz_0
          have hj : JJ f41 A34 := fun h => absurd h (by omega)
          have hz : ∀ j : Int, 0 ≤ j → j < 272 → 0 ≤ ((A28 150).getD j.toNat 0).toInt ∧ ((A28 150).getD j.toNat 0).toInt ≤ 0 := fun j j0 j1 => hq31 j j0 (by omega)
          have hm := ms_b hIq40
          have hrd : RD (0 : Int32).toInt f41 A34 := ⟨fun _ => ⟨by rw [upa_at eA34, upa_fr eA34 (by decide : (148 : Nat) ≠ 150)]; exact TV_set (i := 0) (TV_zero hz (by omega)) (by decide) (by decide) (mlen_150 hIy30) (by rw [kz_4]; unfold TVi; omega), by rw [upa_at eA34, fr_ne (by decide) (by decide) (by decide)]; have h := hz 1 (by decide) (by decide); unfold fr; omega⟩, fun h => absurd h (by omega)⟩
          refine NL_198_128 hc (by decide +kernel) (by omega) (by omega) (fun f42 A43 hIy44 hGf42 hFA43 hp45 hp46 => ?_) ((8000 - msr f41).toNat + 1) f41 A34 hIq40 (fun k _ _ _ _ _ _ _ => rfl) (fun k _ _ _ => rfl) (TX_refl hj) hrd (Nat.lt_succ_self _)
          have htp47 := TP_tx htp38 hp45
          have hRD := hp46
          refine pe_aload_n (j := 0) (by decide +kernel) rfl ?_
          refine pe_get (j := 7) (ci := 12) (n := 0) (by decide +kernel) (by decide +kernel) (md_o hc) rfl ?_
          refine pe_iconstv (n := 3) (v := 3) (by decide +kernel) (by decide +kernel) ?_
          refine pz_iald (by decide +kernel) (md_a148 hc) (mlen_148 hIy44) kz_3 (by omega) (by omega) (fun v48 ev48 => ?_)
          have lw50 := zi_lo v48
          have uw50 := zi_hi v48
          refine pz_if_ne (off := 29) (t := 195) (by decide +kernel) (by decide) rfl rfl (fun h49 => ?_) (fun h49 => ?_)
          · skip
            refine pe_aload_n (j := 0) (by decide +kernel) rfl ?_
            refine pe_get (j := 7) (ci := 12) (n := 0) (by decide +kernel) (by decide +kernel) (md_o hc) rfl ?_
            refine pe_iconstv (n := 3) (v := 3) (by decide +kernel) (by decide +kernel) ?_
            refine pz_iald (by decide +kernel) (md_a148 hc) (mlen_148 hIy44) kz_3 (by omega) (by omega) (fun v51 ev51 => ?_)
            rw [ev51.trans ev48.symm]
            clear ev51 v51
            refine pz_if_eq (off := 5) (t := 206) (by decide +kernel) (by decide) rfl rfl (fun h52 => by omega) (fun h52 => ?_)
            refine pe_iconstv (n := (-1)) (v := (-1)) (by decide +kernel) (by decide +kernel) ?_
            exact pe_iret (by decide +kernel) rfl rfl ⟨f42, A43, (-1), rfl, hIy44, (fun k n2 n3 n4 n5 n6 n7 n8 n9 => ((hGf42 k n3 n4 n5 n6 n7 n8 n9)).trans (((hGq40 k n3 n4 n5 n6 n7)).trans ((upf_fr ef27 n9).trans ((upf_fr ef26 n8).trans ((upf_fr ef25 n3).trans (upf_fr ef4 n2)))))), (fun k n148 n150 n151 => ((hFA43 k n148 n150 n151)).trans ((upa_fr eA34 n150).trans (((hFA28 k n150)).trans ((upa_fr eA8 n148).trans ((upa_fr eA7 n148).trans (upa_fr eA5 n148)))))), ⟨(by decide +kernel), htp47, trivial⟩⟩
          · skip
            refine pe_iload_n (j := 1) (by decide +kernel) rfl ?_
            refine pz_if_ne (off := 25) (t := 195) (by decide +kernel) (by decide) rfl kz_0 (fun h53 => by omega) (fun h53 => ?_)
            refine pe_aload_n (j := 0) (by decide +kernel) rfl ?_
            refine pe_get (j := 134) (ci := 12) (n := 9) (by decide +kernel) (by decide +kernel) (md_o hc) rfl ?_
            refine pe_aload_n (j := 0) (by decide +kernel) rfl ?_
            refine pe_get (j := 17) (ci := 12) (n := 10) (by decide +kernel) (by decide +kernel) (md_o hc) rfl ?_
            refine pe_iconstv (n := 0) (v := 0) (by decide +kernel) (by decide +kernel) ?_
            refine pz_iald (by decide +kernel) (md_a150 hc) (mlen_150 hIy44) kz_0 (by omega) (by omega) (fun v54 ev54 => ?_)
            have lw56 := zi_lo (f42 9)
            have uw56 := zi_hi (f42 9)
            have lw57 := zi_lo v54
            have uw57 := zi_hi v54
            refine pz_icmp_lt (off := 12) (t := 195) (by decide +kernel) (by decide) rfl rfl rfl (fun h55 => ?_) (fun h55 => ?_)
            · skip
              refine pe_aload_n (j := 0) (by decide +kernel) rfl ?_
              refine pe_get (j := 7) (ci := 12) (n := 0) (by decide +kernel) (by decide +kernel) (md_o hc) rfl ?_
              refine pe_iconstv (n := 3) (v := 3) (by decide +kernel) (by decide +kernel) ?_
              refine pz_iald (by decide +kernel) (md_a148 hc) (mlen_148 hIy44) kz_3 (by omega) (by omega) (fun v58 ev58 => ?_)
              rw [ev58.trans ev48.symm]
              clear ev58 v58
              refine pz_if_eq (off := 5) (t := 206) (by decide +kernel) (by decide) rfl rfl (fun h59 => ?_) (fun h59 => by omega)
              have h3 : fr (A43 148) 3 = 0 := by rw [(show fr (A43 148) (3) = v48.toInt from congrArg Int32.toInt ev48.symm)]; omega
              refine pe_iload_n (j := 2) (by decide +kernel) rfl ?_
              refine pe_iconstv (n := (-1)) (v := (-1)) (by decide +kernel) (by decide +kernel) ?_
              refine pz_icmp_ne (off := 12) (t := 220) (by decide +kernel) (by decide) rfl rfl kz_m1 (fun h60 => ?_) (fun h60 => by omega)
              refine pe_iload_n (j := 2) (by decide +kernel) rfl ?_
              refine pe_istore_n (j := 3) (ls' := [.ref 147, .int 0, .int x2, .int x2, pm_dead, pm_dead]) (by decide +kernel) (Nat.le_of_ble_eq_true rfl) rfl ?_
              refine pe_iload_n (j := 2) (by decide +kernel) rfl ?_
              refine pe_iconstv (n := (-1)) (v := (-1)) (by decide +kernel) (by decide +kernel) ?_
              refine pz_icmp_ne (off := 13) (t := 237) (by decide +kernel) (by decide) rfl rfl kz_m1 (fun h61 => ?_) (fun h61 => by omega)
              refine pe_iload_n (j := 1) (by decide +kernel) rfl ?_
              refine pz_if_ne (off := 9) (t := 247) (by decide +kernel) (by decide) rfl kz_0 (fun h62 => by omega) (fun h62 => ?_)
              refine pe_sipushv (n := 132) (v := 132) (by decide +kernel) (by decide +kernel) ?_
              refine pe_goto (off := 6) (t := 250) (by decide +kernel) (by decide) rfl ?_
              refine pe_istore (j := 4) (ls' := [.ref 147, .int 0, .int x2, .int x2, .int 132, pm_dead]) (by decide +kernel) (Nat.le_of_ble_eq_true rfl) rfl ?_
              refine pe_iconstv (n := 0) (v := 0) (by decide +kernel) (by decide +kernel) ?_
              refine pe_istore (j := 5) (ls' := [.ref 147, .int 0, .int x2, .int x2, .int 132, .int 0]) (by decide +kernel) (Nat.le_of_ble_eq_true rfl) rfl ?_
              have hl69 := kz_132
              have hl70 := kz_0
              refine NL_198_255 hc (by decide +kernel) (by omega) (by omega) (by decide +kernel) (fun A63 y64 hIy65 hFA63 gy64 hx66 hp67 hp68 => ?_) 273 A43 0 (MJ_of hIy44) (fun k _ => rfl) (by decide +kernel) (by omega) (CP_zero kz_0) (by decide +kernel)
              have hcp := hp67
              rw [show plc (0 : Int32).toInt x2.toInt = 610 + 132 * x2.toInt by unfold plc; rw [if_pos (by omega)], show y64.toInt = 132 by have hl := kz_132; omega] at hcp
              have hRV := (hRD.1 (by omega)).1
              rw [show fr (A43 148) 3 = 0 by rw [(show fr (A43 148) (3) = v48.toInt from congrArg Int32.toInt ev48.symm)]; omega, ← show A43 150 = A43 150 from rfl] at hRV
              have hIz71 : MI f42 A63 := MI_vil hIy44 hIy65 hcp (by omega) (by omega) hRV (by rw [(show fr (A43 150) (0) = v54.toInt from congrArg Int32.toInt ev54.symm)]; omega)
              have htp72 := TP_cp htp47 hcp (by omega) (by omega)
              refine pe_iload_n (j := 3) (by decide +kernel) rfl ?_
              exact pe_iret (by decide +kernel) rfl rfl ⟨f42, A63, x2, rfl, hIz71, (fun k n2 n3 n4 n5 n6 n7 n8 n9 => ((hGf42 k n3 n4 n5 n6 n7 n8 n9)).trans (((hGq40 k n3 n4 n5 n6 n7)).trans ((upf_fr ef27 n9).trans ((upf_fr ef26 n8).trans ((upf_fr ef25 n3).trans (upf_fr ef4 n2)))))), (fun k n148 n150 n151 => ((hFA63 k n148)).trans (((hFA43 k n148 n150 n151)).trans ((upa_fr eA34 n150).trans (((hFA28 k n150)).trans ((upa_fr eA8 n148).trans ((upa_fr eA7 n148).trans (upa_fr eA5 n148))))))), ⟨(by omega), htp72, trivial⟩⟩
            · skip
              refine pe_aload_n (j := 0) (by decide +kernel) rfl ?_
              refine pe_iconstv (n := 4) (v := 4) (by decide +kernel) (by decide +kernel) ?_
              refine pe_aload_n (j := 0) (by decide +kernel) rfl ?_
              refine pe_get (j := 90) (ci := 12) (n := 4) (by decide +kernel) (by decide +kernel) (md_o hc) rfl ?_
              refine pz_callV (j := 123) (mj := 211) (by decide +kernel) (cll_V (args := [.int (f42 4), .int 4]) (n := 2) (by decide +kernel) rfl rfl (md_o hc) (by decide +kernel) (Nat.le_of_ble_eq_true rfl) (Nat.le_of_ble_eq_true rfl)) (NM_211 hc hIy44 (by decide +kernel) hp45.2.2.2.2) (fun q73a q73b q73c q73d hqq73 => ?_)
              obtain ⟨A74, eq73, hIq73, hFq73, kq73⟩ := hqq73
              cases eq73
              refine ⟨rfl, rfl, ?_⟩
              obtain ⟨hp75, hp76, kq73⟩ := kq73
              have htx77 := TX_trans hp45 hp75
              show pmE pg X pg_tyl pg_cl (d + 7) 198 195 [.ref 147, .int 0, .int x2, .int y29, pm_dead, pm_dead] [] (md wc f42 A74) _
              have htp78 := TP_tx htp47 hp75
              refine pe_aload_n (j := 0) (by decide +kernel) rfl ?_
              refine pe_get (j := 7) (ci := 12) (n := 0) (by decide +kernel) (by decide +kernel) (md_o hc) rfl ?_
              refine pe_iconstv (n := 3) (v := 3) (by decide +kernel) (by decide +kernel) ?_
              refine pz_iald (by decide +kernel) (md_a148 hc) (mlen_148 hIq73) kz_3 (by omega) (by omega) (fun v79 ev79 => ?_)
              have lw81 := zi_lo v79
              have uw81 := zi_hi v79
              refine pz_if_eq (off := 5) (t := 206) (by decide +kernel) (by decide) rfl rfl (fun h80 => ?_) (fun h80 => ?_)
              · skip
                have hft := hp76
                rw [(show fr (A74 148) (3) = v79.toInt from congrArg Int32.toInt ev79.symm)] at hft
                exact absurd (by omega) hft
              · skip
                refine pe_iconstv (n := (-1)) (v := (-1)) (by decide +kernel) (by decide +kernel) ?_
                exact pe_iret (by decide +kernel) rfl rfl ⟨f42, A74, (-1), rfl, hIq73, (fun k n2 n3 n4 n5 n6 n7 n8 n9 => ((hGf42 k n3 n4 n5 n6 n7 n8 n9)).trans (((hGq40 k n3 n4 n5 n6 n7)).trans ((upf_fr ef27 n9).trans ((upf_fr ef26 n8).trans ((upf_fr ef25 n3).trans (upf_fr ef4 n2)))))), (fun k n148 n150 n151 => ((hFq73 k n148)).trans (((hFA43 k n148 n150 n151)).trans ((upa_fr eA34 n150).trans (((hFA28 k n150)).trans ((upa_fr eA8 n148).trans ((upa_fr eA7 n148).trans (upa_fr eA5 n148))))))), ⟨(by decide +kernel), htp78, trivial⟩⟩
    · skip
      refine pe_aload_n (j := 0) (by decide +kernel) rfl ?_
      refine pe_get (j := 7) (ci := 12) (n := 0) (by decide +kernel) (by decide +kernel) (md_o hc) rfl ?_
      refine pe_iload_n (j := 1) (by decide +kernel) rfl ?_
      refine pz_iald (by decide +kernel) (md_a148 hc) (mlen_148 hIA8) kz_0 (by omega) (by omega) (fun v82 ev82 => ?_)
      have rv82 : 0 ≤ v82.toInt ∧ v82.toInt ≤ 2 := MT_c0 (mt_148 hIA8 ev82 (by omega)) (by omega)
      refine pe_iload_n (j := 1) (by decide +kernel) rfl ?_
      refine pe_iconstv (n := 2) (v := 2) (by decide +kernel) (by decide +kernel) ?_
      refine pe_iadd (by decide +kernel) ?_
      refine pe_top (v := 2) (by decide +kernel) ?_
      refine pz_icmp_lt (off := 18) (t := 72) (by decide +kernel) (by decide) rfl rfl kz_2 (fun h84 => ?_) (fun h84 => ?_)
      · skip
        refine pe_aload_n (j := 0) (by decide +kernel) rfl ?_
        refine pe_iconstv (n := 0) (v := 0) (by decide +kernel) (by decide +kernel) ?_
        refine mz_put3 (jj := 83) (by decide +kernel) (by decide +kernel) hc hIA8 (by decide +kernel) (by decide +kernel) (fun f85 ef85 hIf85 => ?_)
        refine pe_aload_n (j := 0) (by decide +kernel) rfl ?_
        refine pe_iconstv (n := 0) (v := 0) (by decide +kernel) (by decide +kernel) ?_
        refine mz_put8 (jj := 112) (by decide +kernel) (by decide +kernel) hc hIf85 (by decide +kernel) (by decide +kernel) (by decide +kernel) (fun f86 ef86 hIf86 => ?_)
        refine pe_aload_n (j := 0) (by decide +kernel) rfl ?_
        refine pe_iconstv (n := 0) (v := 0) (by decide +kernel) (by decide +kernel) ?_
        refine mz_put9 (jj := 134) (by decide +kernel) (by decide +kernel) hc hIf86 (fun f87 ef87 hIf87 => ?_)
        refine pe_iconstv (n := 0) (v := 0) (by decide +kernel) (by decide +kernel) ?_
        refine pe_istore_n (j := 3) (ls' := [.ref 147, .int 0, .int x2, .int 0, pm_dead, pm_dead]) (by decide +kernel) (Nat.le_of_ble_eq_true rfl) rfl ?_
        have hq92 : (∀ j : Int, (0) ≤ j → j < ((0 : Int32).toInt) → 0 ≤ ((A8 150).getD j.toNat 0).toInt ∧ ((A8 150).getD j.toNat 0).toInt ≤ 0) := by
          intro j h1 h2
          have hl_x3 := kz_0
          rw [show A8 150 = A 150 from (upa_fr eA8 (by decide)).trans ((upa_fr eA7 (by decide)).trans (upa_fr eA5 (by decide)))]
          first
          | (exfalso; omega)
        refine NL_198_89 hc (by decide +kernel) (by omega) (fun A88 y89 hIy90 hFA88 gy89 hq91 => ?_) 273 A8 0 hIf87 (fun k _ => rfl) (by decide +kernel) hq92 (by decide +kernel)
        refine pe_aload_n (j := 0) (by decide +kernel) rfl ?_
        refine pe_get (j := 17) (ci := 12) (n := 10) (by decide +kernel) (by decide +kernel) (md_o hc) rfl ?_
        refine pe_iconstv (n := 0) (v := 0) (by decide +kernel) (by decide +kernel) ?_
        refine pe_iload_n (j := 1) (by decide +kernel) rfl ?_
        refine pz_if_ne (off := 7) (t := 122) (by decide +kernel) (by decide) rfl kz_0 (fun h93 => by omega) (fun h93 => ?_)
        refine pe_iconstv (n := 4) (v := 4) (by decide +kernel) (by decide +kernel) ?_
        refine pe_goto (off := 4) (t := 123) (by decide +kernel) (by decide) rfl ?_
        refine mz_st150 (by decide +kernel) hc hIy90 kz_0 (by omega) (by omega) (fun A94 eA94 hIA94 => ?_)
        have htp95 := TP_set (i := 3) htp6 eA7 (by omega) (by omega) (by omega)
        have htp96 := TP_set (i := 4) htp95 eA8 (by omega) (by omega) (by omega)
        have htp97 := TP_fr htp96 ((hFA88 148 (by decide)))
        have htp98 := TP_fr htp97 (upa_fr eA94 (by decide))
        refine pe_aload_n (j := 0) (by decide +kernel) rfl ?_
        have hx99 : (f87 3).toInt = 0 := (congrArg Int32.toInt (show f87 3 = 0 from (upf_fr ef87 (by decide)).trans ((upf_fr ef86 (by decide)).trans (upf_at ef85)))).trans kz_0
        refine pz_callV (j := 127) (mj := 201) (by decide +kernel) (cll_V (args := []) (n := 0) (by decide +kernel) rfl rfl (md_o hc) (by decide +kernel) (Nat.le_of_ble_eq_true rfl) (Nat.le_of_ble_eq_true rfl)) (MM_201 hc hIA94) (fun q100a q100b q100c q100d hqq100 => ?_)
        obtain ⟨f101, eq100, hIq100, hGq100, hX0q100, kq100⟩ := hqq100
        cases eq100
        refine ⟨rfl, rfl, ?_⟩
        have hr_f101_5 := mf_5 hIq100
        have hr_f101_3 := mf_3 hIq100
        show pmE pg X pg_tyl pg_cl (d + 7) 198 128 [.ref 147, .int 0, .int x2, .int y89, pm_dead, pm_dead] [] (md wc f101 A94) _
        have h9 : (f101 9).toInt = 0 := (congrArg Int32.toInt (show f101 9 = 0 from ((hGq100 9 (by decide) (by decide) (by decide) (by decide) (by decide))).trans (upf_at ef87))).trans kz_0
        have h8 : (f101 8).toInt = 0 := (congrArg Int32.toInt (show f101 8 = 0 from ((hGq100 8 (by decide) (by decide) (by decide) (by decide) (by decide))).trans ((upf_fr ef87 (by decide)).trans (upf_at ef86)))).trans kz_0
        have hj : JJ f101 A94 := fun h => absurd h (by omega)
        have hz : ∀ j : Int, 0 ≤ j → j < 272 → 0 ≤ ((A88 150).getD j.toNat 0).toInt ∧ ((A88 150).getD j.toNat 0).toInt ≤ 0 := fun j j0 j1 => hq91 j j0 (by omega)
        have hm := ms_b hIq100
        have hrd : RD (0 : Int32).toInt f101 A94 := ⟨fun _ => ⟨by rw [upa_at eA94, upa_fr eA94 (by decide : (148 : Nat) ≠ 150)]; exact TV_set (i := 0) (TV_zero hz (by omega)) (by decide) (by decide) (mlen_150 hIy90) (by rw [kz_4]; unfold TVi; omega), by rw [upa_at eA94, fr_ne (by decide) (by decide) (by decide)]; have h := hz 1 (by decide) (by decide); unfold fr; omega⟩, fun h => absurd h (by omega)⟩
        refine NL_198_128 hc (by decide +kernel) (by omega) (by omega) (fun f102 A103 hIy104 hGf102 hFA103 hp105 hp106 => ?_) ((8000 - msr f101).toNat + 1) f101 A94 hIq100 (fun k _ _ _ _ _ _ _ => rfl) (fun k _ _ _ => rfl) (TX_refl hj) hrd (Nat.lt_succ_self _)
        have htp107 := TP_tx htp98 hp105
        have hRD := hp106
        refine pe_aload_n (j := 0) (by decide +kernel) rfl ?_
        refine pe_get (j := 7) (ci := 12) (n := 0) (by decide +kernel) (by decide +kernel) (md_o hc) rfl ?_
        refine pe_iconstv (n := 3) (v := 3) (by decide +kernel) (by decide +kernel) ?_
        refine pz_iald (by decide +kernel) (md_a148 hc) (mlen_148 hIy104) kz_3 (by omega) (by omega) (fun v108 ev108 => ?_)
        have lw110 := zi_lo v108
        have uw110 := zi_hi v108
        refine pz_if_ne (off := 29) (t := 195) (by decide +kernel) (by decide) rfl rfl (fun h109 => ?_) (fun h109 => ?_)
        · skip
          refine pe_aload_n (j := 0) (by decide +kernel) rfl ?_
          refine pe_get (j := 7) (ci := 12) (n := 0) (by decide +kernel) (by decide +kernel) (md_o hc) rfl ?_
          refine pe_iconstv (n := 3) (v := 3) (by decide +kernel) (by decide +kernel) ?_
          refine pz_iald (by decide +kernel) (md_a148 hc) (mlen_148 hIy104) kz_3 (by omega) (by omega) (fun v111 ev111 => ?_)
          rw [ev111.trans ev108.symm]
          clear ev111 v111
          refine pz_if_eq (off := 5) (t := 206) (by decide +kernel) (by decide) rfl rfl (fun h112 => by omega) (fun h112 => ?_)
          refine pe_iconstv (n := (-1)) (v := (-1)) (by decide +kernel) (by decide +kernel) ?_
          exact pe_iret (by decide +kernel) rfl rfl ⟨f102, A103, (-1), rfl, hIy104, (fun k n2 n3 n4 n5 n6 n7 n8 n9 => ((hGf102 k n3 n4 n5 n6 n7 n8 n9)).trans (((hGq100 k n3 n4 n5 n6 n7)).trans ((upf_fr ef87 n9).trans ((upf_fr ef86 n8).trans ((upf_fr ef85 n3).trans (upf_fr ef4 n2)))))), (fun k n148 n150 n151 => ((hFA103 k n148 n150 n151)).trans ((upa_fr eA94 n150).trans (((hFA88 k n150)).trans ((upa_fr eA8 n148).trans ((upa_fr eA7 n148).trans (upa_fr eA5 n148)))))), ⟨(by decide +kernel), htp107, trivial⟩⟩
        · skip
          refine pe_iload_n (j := 1) (by decide +kernel) rfl ?_
          refine pz_if_ne (off := 25) (t := 195) (by decide +kernel) (by decide) rfl kz_0 (fun h113 => by omega) (fun h113 => ?_)
          refine pe_aload_n (j := 0) (by decide +kernel) rfl ?_
          refine pe_get (j := 134) (ci := 12) (n := 9) (by decide +kernel) (by decide +kernel) (md_o hc) rfl ?_
          refine pe_aload_n (j := 0) (by decide +kernel) rfl ?_
          refine pe_get (j := 17) (ci := 12) (n := 10) (by decide +kernel) (by decide +kernel) (md_o hc) rfl ?_
          refine pe_iconstv (n := 0) (v := 0) (by decide +kernel) (by decide +kernel) ?_
          refine pz_iald (by decide +kernel) (md_a150 hc) (mlen_150 hIy104) kz_0 (by omega) (by omega) (fun v114 ev114 => ?_)
          have lw116 := zi_lo (f102 9)
          have uw116 := zi_hi (f102 9)
          have lw117 := zi_lo v114
          have uw117 := zi_hi v114
          refine pz_icmp_lt (off := 12) (t := 195) (by decide +kernel) (by decide) rfl rfl rfl (fun h115 => ?_) (fun h115 => ?_)
          · skip
            refine pe_aload_n (j := 0) (by decide +kernel) rfl ?_
            refine pe_get (j := 7) (ci := 12) (n := 0) (by decide +kernel) (by decide +kernel) (md_o hc) rfl ?_
            refine pe_iconstv (n := 3) (v := 3) (by decide +kernel) (by decide +kernel) ?_
            refine pz_iald (by decide +kernel) (md_a148 hc) (mlen_148 hIy104) kz_3 (by omega) (by omega) (fun v118 ev118 => ?_)
            rw [ev118.trans ev108.symm]
            clear ev118 v118
            refine pz_if_eq (off := 5) (t := 206) (by decide +kernel) (by decide) rfl rfl (fun h119 => ?_) (fun h119 => by omega)
            have h3 : fr (A103 148) 3 = 0 := by rw [(show fr (A103 148) (3) = v108.toInt from congrArg Int32.toInt ev108.symm)]; omega
            refine pe_iload_n (j := 2) (by decide +kernel) rfl ?_
            refine pe_iconstv (n := (-1)) (v := (-1)) (by decide +kernel) (by decide +kernel) ?_
            refine pz_icmp_ne (off := 12) (t := 220) (by decide +kernel) (by decide) rfl rfl kz_m1 (fun h120 => by omega) (fun h120 => ?_)
            refine pe_aload_n (j := 0) (by decide +kernel) rfl ?_
            refine pe_get (j := 7) (ci := 12) (n := 0) (by decide +kernel) (by decide +kernel) (md_o hc) rfl ?_
            refine pe_iload_n (j := 1) (by decide +kernel) rfl ?_
            refine pz_iald (by decide +kernel) (md_a148 hc) (mlen_148 hIy104) kz_0 (by omega) (by omega) (fun v121 ev121 => ?_)
            have rv121 : 0 ≤ v121.toInt ∧ v121.toInt ≤ 2 := MT_c0 (mt_148 hIy104 ev121 (by omega)) (by omega)
            have hk122 : v121.toInt = v82.toInt := by rw [← (show fr (A103 148) (0) = v121.toInt from congrArg Int32.toInt ev121.symm), hp105.2.1 (0) (by omega) (by omega) (by omega), show A94 148 = A8 148 from (upa_fr eA94 (by decide)).trans ((hFA88 148 (by decide))), (show fr (A8 148) (0) = v82.toInt from congrArg Int32.toInt ev82.symm)]
            refine pe_goto (off := 4) (t := 221) (by decide +kernel) (by decide) rfl ?_
            refine pe_istore_n (j := 3) (ls' := [.ref 147, .int 0, .int x2, .int v121, pm_dead, pm_dead]) (by decide +kernel) (Nat.le_of_ble_eq_true rfl) rfl ?_
            refine pe_iload_n (j := 2) (by decide +kernel) rfl ?_
            refine pe_iconstv (n := (-1)) (v := (-1)) (by decide +kernel) (by decide +kernel) ?_
            refine pz_icmp_ne (off := 13) (t := 237) (by decide +kernel) (by decide) rfl rfl kz_m1 (fun h123 => by omega) (fun h123 => ?_)
            refine pe_aload_n (j := 0) (by decide +kernel) rfl ?_
            refine pe_get (j := 7) (ci := 12) (n := 0) (by decide +kernel) (by decide +kernel) (md_o hc) rfl ?_
            refine pe_iload_n (j := 1) (by decide +kernel) rfl ?_
            refine pe_dup2 (by decide +kernel) ⟨rfl, rfl⟩ ?_
            refine pz_iald (by decide +kernel) (md_a148 hc) (mlen_148 hIy104) kz_0 (by omega) (by omega) (fun v124 ev124 => ?_)
            rw [ev124.trans ev121.symm]
            clear ev124 v124
            refine pe_iconstv (n := 1) (v := 1) (by decide +kernel) (by decide +kernel) ?_
            refine pz_add (by decide +kernel) rfl kz_1 (by omega) (by omega) (fun z125 hz125 => ?_)
            refine mz_st148 (by decide +kernel) hc hIy104 kz_0 (by omega) (by omega) (by simp only [MT]; omega) (fun A126 eA126 hIA126 => ?_)
            refine pe_iload_n (j := 1) (by decide +kernel) rfl ?_
            refine pz_if_ne (off := 9) (t := 247) (by decide +kernel) (by decide) rfl kz_0 (fun h127 => by omega) (fun h127 => ?_)
            refine pe_sipushv (n := 132) (v := 132) (by decide +kernel) (by decide +kernel) ?_
            refine pe_goto (off := 6) (t := 250) (by decide +kernel) (by decide) rfl ?_
            refine pe_istore (j := 4) (ls' := [.ref 147, .int 0, .int x2, .int v121, .int 132, pm_dead]) (by decide +kernel) (Nat.le_of_ble_eq_true rfl) rfl ?_
            have htp128 := TP_set (i := 0) htp107 eA126 (by omega) (by omega) (by omega)
            refine pe_iconstv (n := 0) (v := 0) (by decide +kernel) (by decide +kernel) ?_
            refine pe_istore (j := 5) (ls' := [.ref 147, .int 0, .int x2, .int v121, .int 132, .int 0]) (by decide +kernel) (Nat.le_of_ble_eq_true rfl) rfl ?_
            have hl135 := kz_132
            have hl136 := kz_0
            refine NL_198_255 hc (by decide +kernel) (by omega) (by omega) (by decide +kernel) (fun A129 y130 hIy131 hFA129 gy130 hx132 hp133 hp134 => ?_) 273 A126 0 (MJ_of hIA126) (fun k _ => rfl) (by decide +kernel) (by omega) (CP_zero kz_0) (by decide +kernel)
            have hcp := hp133
            rw [show plc (0 : Int32).toInt v121.toInt = 610 + 132 * v121.toInt by unfold plc; rw [if_pos (by omega)], show y130.toInt = 132 by have hl := kz_132; omega] at hcp
            have hRV := (hRD.1 (by omega)).1
            rw [show fr (A103 148) 3 = 0 by rw [(show fr (A103 148) (3) = v108.toInt from congrArg Int32.toInt ev108.symm)]; omega, ← show A126 150 = A103 150 from upa_fr eA126 (by decide)] at hRV
            have hIz137 : MI f102 A129 := MI_vil hIA126 hIy131 hcp (by omega) (by omega) hRV (by rw [show A126 150 = A103 150 from upa_fr eA126 (by decide)]; rw [(show fr (A103 150) (0) = v114.toInt from congrArg Int32.toInt ev114.symm)]; omega)
            have htp138 := TP_cp htp128 hcp (by omega) (by omega)
            refine pe_iload_n (j := 3) (by decide +kernel) rfl ?_
            exact pe_iret (by decide +kernel) rfl rfl ⟨f102, A129, v121, rfl, hIz137, (fun k n2 n3 n4 n5 n6 n7 n8 n9 => ((hGf102 k n3 n4 n5 n6 n7 n8 n9)).trans (((hGq100 k n3 n4 n5 n6 n7)).trans ((upf_fr ef87 n9).trans ((upf_fr ef86 n8).trans ((upf_fr ef85 n3).trans (upf_fr ef4 n2)))))), (fun k n148 n150 n151 => ((hFA129 k n148)).trans ((upa_fr eA126 n148).trans (((hFA103 k n148 n150 n151)).trans ((upa_fr eA94 n150).trans (((hFA88 k n150)).trans ((upa_fr eA8 n148).trans ((upa_fr eA7 n148).trans (upa_fr eA5 n148)))))))), ⟨(by omega), htp138, trivial⟩⟩
          · skip
            refine pe_aload_n (j := 0) (by decide +kernel) rfl ?_
            refine pe_iconstv (n := 4) (v := 4) (by decide +kernel) (by decide +kernel) ?_
            refine pe_aload_n (j := 0) (by decide +kernel) rfl ?_
            refine pe_get (j := 90) (ci := 12) (n := 4) (by decide +kernel) (by decide +kernel) (md_o hc) rfl ?_
            refine pz_callV (j := 123) (mj := 211) (by decide +kernel) (cll_V (args := [.int (f102 4), .int 4]) (n := 2) (by decide +kernel) rfl rfl (md_o hc) (by decide +kernel) (Nat.le_of_ble_eq_true rfl) (Nat.le_of_ble_eq_true rfl)) (NM_211 hc hIy104 (by decide +kernel) hp105.2.2.2.2) (fun q139a q139b q139c q139d hqq139 => ?_)
            obtain ⟨A140, eq139, hIq139, hFq139, kq139⟩ := hqq139
            cases eq139
            refine ⟨rfl, rfl, ?_⟩
            obtain ⟨hp141, hp142, kq139⟩ := kq139
            have htx143 := TX_trans hp105 hp141
            show pmE pg X pg_tyl pg_cl (d + 7) 198 195 [.ref 147, .int 0, .int x2, .int y89, pm_dead, pm_dead] [] (md wc f102 A140) _
            have htp144 := TP_tx htp107 hp141
            refine pe_aload_n (j := 0) (by decide +kernel) rfl ?_
            refine pe_get (j := 7) (ci := 12) (n := 0) (by decide +kernel) (by decide +kernel) (md_o hc) rfl ?_
            refine pe_iconstv (n := 3) (v := 3) (by decide +kernel) (by decide +kernel) ?_
            refine pz_iald (by decide +kernel) (md_a148 hc) (mlen_148 hIq139) kz_3 (by omega) (by omega) (fun v145 ev145 => ?_)
            have lw147 := zi_lo v145
            have uw147 := zi_hi v145
            refine pz_if_eq (off := 5) (t := 206) (by decide +kernel) (by decide) rfl rfl (fun h146 => ?_) (fun h146 => ?_)
            · skip
              have hft := hp142
              rw [(show fr (A140 148) (3) = v145.toInt from congrArg Int32.toInt ev145.symm)] at hft
              exact absurd (by omega) hft
            · skip
              refine pe_iconstv (n := (-1)) (v := (-1)) (by decide +kernel) (by decide +kernel) ?_
              exact pe_iret (by decide +kernel) rfl rfl ⟨f102, A140, (-1), rfl, hIq139, (fun k n2 n3 n4 n5 n6 n7 n8 n9 => ((hGf102 k n3 n4 n5 n6 n7 n8 n9)).trans (((hGq100 k n3 n4 n5 n6 n7)).trans ((upf_fr ef87 n9).trans ((upf_fr ef86 n8).trans ((upf_fr ef85 n3).trans (upf_fr ef4 n2)))))), (fun k n148 n150 n151 => ((hFq139 k n148)).trans (((hFA103 k n148 n150 n151)).trans ((upa_fr eA94 n150).trans (((hFA88 k n150)).trans ((upa_fr eA8 n148).trans ((upa_fr eA7 n148).trans (upa_fr eA5 n148))))))), ⟨(by decide +kernel), htp144, trivial⟩⟩
      · skip
        refine pe_goto (off := 12) (t := 69) (by decide +kernel) (by decide) rfl ?_
        refine pe_bipushv (n := (-2)) (v := (-2)) (by decide +kernel) (by decide +kernel) ?_
        have htp148 := TP_set (i := 3) htp6 eA7 (by omega) (by omega) (by omega)
        have htp149 := TP_set (i := 4) htp148 eA8 (by omega) (by omega) (by omega)
        exact pe_iret (by decide +kernel) rfl rfl ⟨f4, A8, (-2), rfl, hIA8, (fun k n2 n3 n4 n5 n6 n7 n8 n9 => upf_fr ef4 n2), (fun k n148 n150 n151 => (upa_fr eA8 n148).trans ((upa_fr eA7 n148).trans (upa_fr eA5 n148))), ⟨(by decide +kernel), htp149, trivial⟩⟩
  · skip
    by_cases h150 : x1.toInt = 1
    · skip
      rw [show x1 = 1 from ti_eq (h150.trans kz_1.symm)]
      have hlk151 := kz_1
      refine pe_aload_n (j := 0) (by decide +kernel) rfl ?_
      refine pe_aload_n (j := 0) (by decide +kernel) rfl ?_
      refine pe_get (j := 7) (ci := 12) (n := 0) (by decide +kernel) (by decide +kernel) (md_o hc) rfl ?_
      refine pe_iconstv (n := 2) (v := 2) (by decide +kernel) (by decide +kernel) ?_
      refine pz_iald (by decide +kernel) (md_a148 hc) (mlen_148 hI) kz_2 (by omega) (by omega) (fun v152 ev152 => ?_)
      have rv152 : 0 ≤ v152.toInt ∧ v152.toInt ≤ 600 := MT_c2 (mt_148 hI ev152 (by omega)) (by omega)
      refine mz_put2 (jj := 75) (by decide +kernel) (by decide +kernel) hc hI (by omega) (by omega) (fun f153 ef153 hIf153 => ?_)
      refine pe_aload_n (j := 0) (by decide +kernel) rfl ?_
      refine pe_get (j := 7) (ci := 12) (n := 0) (by decide +kernel) (by decide +kernel) (md_o hc) rfl ?_
      refine pe_iconstv (n := 2) (v := 2) (by decide +kernel) (by decide +kernel) ?_
      refine pe_iconstv (n := 0) (v := 0) (by decide +kernel) (by decide +kernel) ?_
      refine mz_st148 (by decide +kernel) hc hIf153 kz_2 (by omega) (by omega) (by rw [kz_0]; simp only [MT]; omega) (fun A154 eA154 hIA154 => ?_)
      have htp155 := TP_init eA154 (mlen_148 hI) kz_0
      refine pe_aload_n (j := 0) (by decide +kernel) rfl ?_
      refine pe_get (j := 7) (ci := 12) (n := 0) (by decide +kernel) (by decide +kernel) (md_o hc) rfl ?_
      refine pe_iconstv (n := 3) (v := 3) (by decide +kernel) (by decide +kernel) ?_
      refine pe_iconstv (n := 0) (v := 0) (by decide +kernel) (by decide +kernel) ?_
      refine mz_st148 (by decide +kernel) hc hIA154 kz_3 (by omega) (by omega) (by rw [kz_0]; simp only [MT]; omega) (fun A156 eA156 hIA156 => ?_)
      refine pe_aload_n (j := 0) (by decide +kernel) rfl ?_
      refine pe_get (j := 7) (ci := 12) (n := 0) (by decide +kernel) (by decide +kernel) (md_o hc) rfl ?_
      refine pe_iconstv (n := 4) (v := 4) (by decide +kernel) (by decide +kernel) ?_
      refine pe_iconstv (n := (-1)) (v := (-1)) (by decide +kernel) (by decide +kernel) ?_
      refine mz_st148 (by decide +kernel) hc hIA156 kz_4 (by omega) (by omega) (by rw [kz_m1]; simp only [MT]; omega) (fun A157 eA157 hIA157 => ?_)
      refine pe_iload_n (j := 1) (by decide +kernel) rfl ?_
      refine pe_iconstv (n := 0) (v := 0) (by decide +kernel) (by decide +kernel) ?_
      refine pe_iconstv (n := 1) (v := 1) (by decide +kernel) (by decide +kernel) ?_
      refine pi_S (j := 119) (mj := 199) (by decide +kernel) (by decide +kernel) rfl ?_
      show pmE pg X pg_tyl pg_cl (d + 6) 199 0 [.int 1, .int 0, .int 1] [] (md wc f153 A157) _
      refine pe_iload_n (j := 0) (by decide +kernel) rfl ?_
      refine pe_iload_n (j := 1) (by decide +kernel) rfl ?_
      refine pz_icmp_lt (off := 12) (t := 14) (by decide +kernel) (by decide) rfl kz_1 kz_0 (fun h158 => by omega) (fun h158 => ?_)
      refine pe_iload_n (j := 0) (by decide +kernel) rfl ?_
      refine pe_iload_n (j := 2) (by decide +kernel) rfl ?_
      refine pz_icmp_gt (off := 7) (t := 14) (by decide +kernel) (by decide) rfl kz_1 kz_1 (fun h159 => by omega) (fun h159 => ?_)
      refine pe_iconstv (n := 1) (v := 1) (by decide +kernel) (by decide +kernel) ?_
      refine pe_goto (off := 4) (t := 15) (by decide +kernel) (by decide) rfl ?_
      refine pe_iret (by decide +kernel) rfl rfl ⟨rfl, rfl, ?_⟩
      show pmE pg X pg_tyl pg_cl (d + 7) 198 37 [.ref 147, .int 1, .int x2, pm_dead, pm_dead, pm_dead] [.int 1] (md wc f153 A157) _
      refine pz_if_eq (off := 32) (t := 69) (by decide +kernel) (by decide) rfl kz_1 (fun h160 => by omega) (fun h160 => ?_)
      refine pe_iload_n (j := 2) (by decide +kernel) rfl ?_
      refine pe_iconstv (n := (-1)) (v := (-1)) (by decide +kernel) (by decide +kernel) ?_
      have lw162 := zi_lo x2
      have uw162 := zi_hi x2
      refine pz_icmp_ne (off := 18) (t := 60) (by decide +kernel) (by decide) rfl rfl kz_m1 (fun h161 => ?_) (fun h161 => ?_)
      · skip
        refine pe_aload_n (j := 0) (by decide +kernel) rfl ?_
        refine pe_iload_n (j := 1) (by decide +kernel) rfl ?_
        refine pe_iload_n (j := 2) (by decide +kernel) rfl ?_
        refine pi_V (j := 153) (mj := 200) (by decide +kernel) (cll_V (args := [.int x2, .int 1]) (n := 2) (by decide +kernel) rfl rfl (md_o hc) (by decide +kernel) (Nat.le_of_ble_eq_true rfl) (Nat.le_of_ble_eq_true rfl)) ?_
        show pmE pg X pg_tyl pg_cl (d + 6) 200 0 [.ref 147, .int 1, .int x2] [] (md wc f153 A157) _
        refine pe_iload_n (j := 2) (by decide +kernel) rfl ?_
        refine pe_iconstv (n := 0) (v := 0) (by decide +kernel) (by decide +kernel) ?_
        refine pe_aload_n (j := 0) (by decide +kernel) rfl ?_
        refine pe_get (j := 7) (ci := 12) (n := 0) (by decide +kernel) (by decide +kernel) (md_o hc) rfl ?_
        refine pe_iload_n (j := 1) (by decide +kernel) rfl ?_
        refine pz_iald (by decide +kernel) (md_a148 hc) (mlen_148 hIA157) kz_1 (by omega) (by omega) (fun v163 ev163 => ?_)
        have rv163 : 0 ≤ v163.toInt ∧ v163.toInt ≤ 3 := MT_c1 (mt_148 hIA157 ev163 (by omega)) (by omega)
        refine pe_iconstv (n := 1) (v := 1) (by decide +kernel) (by decide +kernel) ?_
        refine pz_sub (by decide +kernel) rfl kz_1 (by omega) (by omega) (fun z164 hz164 => ?_)
        refine pi_S (j := 119) (mj := 199) (by decide +kernel) (by decide +kernel) rfl ?_
        show pmE pg X pg_tyl pg_cl (d + 5) 199 0 [.int x2, .int 0, .int z164] [] (md wc f153 A157) _
        refine pe_iload_n (j := 0) (by decide +kernel) rfl ?_
        refine pe_iload_n (j := 1) (by decide +kernel) rfl ?_
        refine pz_icmp_lt (off := 12) (t := 14) (by decide +kernel) (by decide) rfl rfl kz_0 (fun h165 => ?_) (fun h165 => ?_)
        · skip
          refine pe_iconstv (n := 0) (v := 0) (by decide +kernel) (by decide +kernel) ?_
          refine pe_iret (by decide +kernel) rfl rfl ⟨rfl, rfl, ?_⟩
          show pmE pg X pg_tyl pg_cl (d + 6) 200 13 [.ref 147, .int 1, .int x2] [.int 0] (md wc f153 A157) _
          refine pe_iret (by decide +kernel) rfl rfl ⟨rfl, rfl, ?_⟩
          show pmE pg X pg_tyl pg_cl (d + 7) 198 66 [.ref 147, .int 1, .int x2, pm_dead, pm_dead, pm_dead] [.int 0] (md wc f153 A157) _
          refine pz_if_ne (off := 6) (t := 72) (by decide +kernel) (by decide) rfl kz_0 (fun h166 => by omega) (fun h166 => ?_)
          refine pe_bipushv (n := (-2)) (v := (-2)) (by decide +kernel) (by decide +kernel) ?_
          have htp167 := TP_set (i := 3) htp155 eA156 (by omega) (by omega) (by omega)
          have htp168 := TP_set (i := 4) htp167 eA157 (by omega) (by omega) (by omega)
          exact pe_iret (by decide +kernel) rfl rfl ⟨f153, A157, (-2), rfl, hIA157, (fun k n2 n3 n4 n5 n6 n7 n8 n9 => upf_fr ef153 n2), (fun k n148 n150 n151 => (upa_fr eA157 n148).trans ((upa_fr eA156 n148).trans (upa_fr eA154 n148))), ⟨(by decide +kernel), htp168, trivial⟩⟩
        · skip
          refine pe_iload_n (j := 0) (by decide +kernel) rfl ?_
          refine pe_iload_n (j := 2) (by decide +kernel) rfl ?_
          refine pz_icmp_gt (off := 7) (t := 14) (by decide +kernel) (by decide) rfl rfl hz164 (fun h169 => ?_) (fun h169 => ?_)
          · skip
            refine pe_iconstv (n := 0) (v := 0) (by decide +kernel) (by decide +kernel) ?_
            refine pe_iret (by decide +kernel) rfl rfl ⟨rfl, rfl, ?_⟩
            show pmE pg X pg_tyl pg_cl (d + 6) 200 13 [.ref 147, .int 1, .int x2] [.int 0] (md wc f153 A157) _
            refine pe_iret (by decide +kernel) rfl rfl ⟨rfl, rfl, ?_⟩
            show pmE pg X pg_tyl pg_cl (d + 7) 198 66 [.ref 147, .int 1, .int x2, pm_dead, pm_dead, pm_dead] [.int 0] (md wc f153 A157) _
            refine pz_if_ne (off := 6) (t := 72) (by decide +kernel) (by decide) rfl kz_0 (fun h170 => by omega) (fun h170 => ?_)
            refine pe_bipushv (n := (-2)) (v := (-2)) (by decide +kernel) (by decide +kernel) ?_
            have htp171 := TP_set (i := 3) htp155 eA156 (by omega) (by omega) (by omega)
            have htp172 := TP_set (i := 4) htp171 eA157 (by omega) (by omega) (by omega)
            exact pe_iret (by decide +kernel) rfl rfl ⟨f153, A157, (-2), rfl, hIA157, (fun k n2 n3 n4 n5 n6 n7 n8 n9 => upf_fr ef153 n2), (fun k n148 n150 n151 => (upa_fr eA157 n148).trans ((upa_fr eA156 n148).trans (upa_fr eA154 n148))), ⟨(by decide +kernel), htp172, trivial⟩⟩
          · skip
            refine pe_iconstv (n := 1) (v := 1) (by decide +kernel) (by decide +kernel) ?_
            refine pe_goto (off := 4) (t := 15) (by decide +kernel) (by decide) rfl ?_
            refine pe_iret (by decide +kernel) rfl rfl ⟨rfl, rfl, ?_⟩
            show pmE pg X pg_tyl pg_cl (d + 6) 200 13 [.ref 147, .int 1, .int x2] [.int 1] (md wc f153 A157) _
            refine pe_iret (by decide +kernel) rfl rfl ⟨rfl, rfl, ?_⟩
            show pmE pg X pg_tyl pg_cl (d + 7) 198 66 [.ref 147, .int 1, .int x2, pm_dead, pm_dead, pm_dead] [.int 1] (md wc f153 A157) _
            refine pz_if_ne (off := 6) (t := 72) (by decide +kernel) (by decide) rfl kz_1 (fun h173 => ?_) (fun h173 => by omega)
            refine pe_aload_n (j := 0) (by decide +kernel) rfl ?_
            refine pe_iconstv (n := 0) (v := 0) (by decide +kernel) (by decide +kernel) ?_
            refine mz_put3 (jj := 83) (by decide +kernel) (by decide +kernel) hc hIA157 (by decide +kernel) (by decide +kernel) (fun f174 ef174 hIf174 => ?_)
            refine pe_aload_n (j := 0) (by decide +kernel) rfl ?_
            refine pe_iconstv (n := 0) (v := 0) (by decide +kernel) (by decide +kernel) ?_
            refine mz_put8 (jj := 112) (by decide +kernel) (by decide +kernel) hc hIf174 (by decide +kernel) (by decide +kernel) (by decide +kernel) (fun f175 ef175 hIf175 => ?_)
            refine pe_aload_n (j := 0) (by decide +kernel) rfl ?_
            refine pe_iconstv (n := 0) (v := 0) (by decide +kernel) (by decide +kernel) ?_
            refine mz_put9 (jj := 134) (by decide +kernel) (by decide +kernel) hc hIf175 (fun f176 ef176 hIf176 => ?_)
            refine pe_iconstv (n := 0) (v := 0) (by decide +kernel) (by decide +kernel) ?_
            refine pe_istore_n (j := 3) (ls' := [.ref 147, .int 1, .int x2, .int 0, pm_dead, pm_dead]) (by decide +kernel) (Nat.le_of_ble_eq_true rfl) rfl ?_
            have hq181 : (∀ j : Int, (0) ≤ j → j < ((0 : Int32).toInt) → 0 ≤ ((A157 150).getD j.toNat 0).toInt ∧ ((A157 150).getD j.toNat 0).toInt ≤ 0) := by
              intro j h1 h2
              have hl_x3 := kz_0
              rw [show A157 150 = A 150 from (upa_fr eA157 (by decide)).trans ((upa_fr eA156 (by decide)).trans (upa_fr eA154 (by decide)))]
              first
              | (exfalso; omega)
            refine NL_198_89 hc (by decide +kernel) (by omega) (fun A177 y178 hIy179 hFA177 gy178 hq180 => ?_) 273 A157 0 hIf176 (fun k _ => rfl) (by decide +kernel) hq181 (by decide +kernel)
            refine pe_aload_n (j := 0) (by decide +kernel) rfl ?_
            refine pe_get (j := 17) (ci := 12) (n := 10) (by decide +kernel) (by decide +kernel) (md_o hc) rfl ?_
            refine pe_iconstv (n := 0) (v := 0) (by decide +kernel) (by decide +kernel) ?_
            refine pe_iload_n (j := 1) (by decide +kernel) rfl ?_
            refine pz_if_ne (off := 7) (t := 122) (by decide +kernel) (by decide) rfl kz_1 (fun h182 => ?_) (fun h182 => by omega)
            refine pe_iconstv (n := 0) (v := 0) (by decide +kernel) (by decide +kernel) ?_
            refine mz_st150 (by decide +kernel) hc hIy179 kz_0 (by omega) (by omega) (fun A183 eA183 hIA183 => ?_)
            have htp184 := TP_set (i := 3) htp155 eA156 (by omega) (by omega) (by omega)
            have htp185 := TP_set (i := 4) htp184 eA157 (by omega) (by omega) (by omega)
            have htp186 := TP_fr htp185 ((hFA177 148 (by decide)))
            have htp187 := TP_fr htp186 (upa_fr eA183 (by decide))
            refine pe_aload_n (j := 0) (by decide +kernel) rfl ?_
            have hx188 : (f176 3).toInt = 0 := (congrArg Int32.toInt (show f176 3 = 0 from (upf_fr ef176 (by decide)).trans ((upf_fr ef175 (by decide)).trans (upf_at ef174)))).trans kz_0
            refine pz_callV (j := 127) (mj := 201) (by decide +kernel) (cll_V (args := []) (n := 0) (by decide +kernel) rfl rfl (md_o hc) (by decide +kernel) (Nat.le_of_ble_eq_true rfl) (Nat.le_of_ble_eq_true rfl)) (MM_201 hc hIA183) (fun q189a q189b q189c q189d hqq189 => ?_)
            obtain ⟨f190, eq189, hIq189, hGq189, hX0q189, kq189⟩ := hqq189
            cases eq189
            refine ⟨rfl, rfl, ?_⟩
            have hr_f190_5 := mf_5 hIq189
            have hr_f190_3 := mf_3 hIq189
            show pmE pg X pg_tyl pg_cl (d + 7) 198 128 [.ref 147, .int 1, .int x2, .int y178, pm_dead, pm_dead] [] (md wc f190 A183) _
            have h9 : (f190 9).toInt = 0 := (congrArg Int32.toInt (show f190 9 = 0 from ((hGq189 9 (by decide) (by decide) (by decide) (by decide) (by decide))).trans (upf_at ef176))).trans kz_0
            have h8 : (f190 8).toInt = 0 := (congrArg Int32.toInt (show f190 8 = 0 from ((hGq189 8 (by decide) (by decide) (by decide) (by decide) (by decide))).trans ((upf_fr ef176 (by decide)).trans (upf_at ef175)))).trans kz_0
            have hj : JJ f190 A183 := fun h => absurd h (by omega)
            have hz : ∀ j : Int, 0 ≤ j → j < 272 → 0 ≤ ((A177 150).getD j.toNat 0).toInt ∧ ((A177 150).getD j.toNat 0).toInt ≤ 0 := fun j j0 j1 => hq180 j j0 (by omega)
            have hm := ms_b hIq189
            have hrd : RD (1 : Int32).toInt f190 A183 := ⟨fun h => absurd h (by omega), fun _ => ⟨by rw [upa_at eA183, upa_fr eA183 (by decide : (148 : Nat) ≠ 150)]; exact TR_many (TR_zero hz) (mlen_150 hIy179) (by rw [kz_0]; decide) (by rw [kz_0]; intro _; decide), by rw [upa_at eA183, fr_eq (by decide) (by rw [mlen_150 hIy179]; decide), kz_0]; omega⟩⟩
            refine NL_198_128 hc (by decide +kernel) (by omega) (by omega) (fun f191 A192 hIy193 hGf191 hFA192 hp194 hp195 => ?_) ((8000 - msr f190).toNat + 1) f190 A183 hIq189 (fun k _ _ _ _ _ _ _ => rfl) (fun k _ _ _ => rfl) (TX_refl hj) hrd (Nat.lt_succ_self _)
            have htp196 := TP_tx htp187 hp194
            have hRD := hp195
            refine pe_aload_n (j := 0) (by decide +kernel) rfl ?_
            refine pe_get (j := 7) (ci := 12) (n := 0) (by decide +kernel) (by decide +kernel) (md_o hc) rfl ?_
            refine pe_iconstv (n := 3) (v := 3) (by decide +kernel) (by decide +kernel) ?_
            refine pz_iald (by decide +kernel) (md_a148 hc) (mlen_148 hIy193) kz_3 (by omega) (by omega) (fun v197 ev197 => ?_)
            have lw199 := zi_lo v197
            have uw199 := zi_hi v197
            refine pz_if_ne (off := 29) (t := 195) (by decide +kernel) (by decide) rfl rfl (fun h198 => ?_) (fun h198 => ?_)
            · skip
              refine pe_aload_n (j := 0) (by decide +kernel) rfl ?_
              refine pe_get (j := 7) (ci := 12) (n := 0) (by decide +kernel) (by decide +kernel) (md_o hc) rfl ?_
              refine pe_iconstv (n := 3) (v := 3) (by decide +kernel) (by decide +kernel) ?_
              refine pz_iald (by decide +kernel) (md_a148 hc) (mlen_148 hIy193) kz_3 (by omega) (by omega) (fun v200 ev200 => ?_)
              rw [ev200.trans ev197.symm]
              clear ev200 v200
              refine pz_if_eq (off := 5) (t := 206) (by decide +kernel) (by decide) rfl rfl (fun h201 => by omega) (fun h201 => ?_)
              refine pe_iconstv (n := (-1)) (v := (-1)) (by decide +kernel) (by decide +kernel) ?_
              exact pe_iret (by decide +kernel) rfl rfl ⟨f191, A192, (-1), rfl, hIy193, (fun k n2 n3 n4 n5 n6 n7 n8 n9 => ((hGf191 k n3 n4 n5 n6 n7 n8 n9)).trans (((hGq189 k n3 n4 n5 n6 n7)).trans ((upf_fr ef176 n9).trans ((upf_fr ef175 n8).trans ((upf_fr ef174 n3).trans (upf_fr ef153 n2)))))), (fun k n148 n150 n151 => ((hFA192 k n148 n150 n151)).trans ((upa_fr eA183 n150).trans (((hFA177 k n150)).trans ((upa_fr eA157 n148).trans ((upa_fr eA156 n148).trans (upa_fr eA154 n148)))))), ⟨(by decide +kernel), htp196, trivial⟩⟩
            · skip
              refine pe_iload_n (j := 1) (by decide +kernel) rfl ?_
              refine pz_if_ne (off := 25) (t := 195) (by decide +kernel) (by decide) rfl kz_1 (fun h202 => ?_) (fun h202 => by omega)
              refine pe_aload_n (j := 0) (by decide +kernel) rfl ?_
              refine pe_get (j := 7) (ci := 12) (n := 0) (by decide +kernel) (by decide +kernel) (md_o hc) rfl ?_
              refine pe_iconstv (n := 3) (v := 3) (by decide +kernel) (by decide +kernel) ?_
              refine pz_iald (by decide +kernel) (md_a148 hc) (mlen_148 hIy193) kz_3 (by omega) (by omega) (fun v203 ev203 => ?_)
              rw [ev203.trans ev197.symm]
              clear ev203 v203
              refine pz_if_eq (off := 5) (t := 206) (by decide +kernel) (by decide) rfl rfl (fun h204 => ?_) (fun h204 => by omega)
              have h3 : fr (A192 148) 3 = 0 := by rw [(show fr (A192 148) (3) = v197.toInt from congrArg Int32.toInt ev197.symm)]; omega
              refine pe_iload_n (j := 2) (by decide +kernel) rfl ?_
              refine pe_iconstv (n := (-1)) (v := (-1)) (by decide +kernel) (by decide +kernel) ?_
              refine pz_icmp_ne (off := 12) (t := 220) (by decide +kernel) (by decide) rfl rfl kz_m1 (fun h205 => ?_) (fun h205 => by omega)
              refine pe_iload_n (j := 2) (by decide +kernel) rfl ?_
              refine pe_istore_n (j := 3) (ls' := [.ref 147, .int 1, .int x2, .int x2, pm_dead, pm_dead]) (by decide +kernel) (Nat.le_of_ble_eq_true rfl) rfl ?_
              refine pe_iload_n (j := 2) (by decide +kernel) rfl ?_
              refine pe_iconstv (n := (-1)) (v := (-1)) (by decide +kernel) (by decide +kernel) ?_
              refine pz_icmp_ne (off := 13) (t := 237) (by decide +kernel) (by decide) rfl rfl kz_m1 (fun h206 => ?_) (fun h206 => by omega)
              refine pe_iload_n (j := 1) (by decide +kernel) rfl ?_
              refine pz_if_ne (off := 9) (t := 247) (by decide +kernel) (by decide) rfl kz_1 (fun h207 => ?_) (fun h207 => by omega)
              refine pe_sipushv (n := 272) (v := 272) (by decide +kernel) (by decide +kernel) ?_
              refine pe_istore (j := 4) (ls' := [.ref 147, .int 1, .int x2, .int x2, .int 272, pm_dead]) (by decide +kernel) (Nat.le_of_ble_eq_true rfl) rfl ?_
              refine pe_iconstv (n := 0) (v := 0) (by decide +kernel) (by decide +kernel) ?_
              refine pe_istore (j := 5) (ls' := [.ref 147, .int 1, .int x2, .int x2, .int 272, .int 0]) (by decide +kernel) (Nat.le_of_ble_eq_true rfl) rfl ?_
              have hl214 := kz_272
              have hl215 := kz_0
              refine NL_198_255 hc (by decide +kernel) (by omega) (by omega) (by decide +kernel) (fun A208 y209 hIy210 hFA208 gy209 hx211 hp212 hp213 => ?_) 273 A192 0 (MJ_of hIy193) (fun k _ => rfl) (by decide +kernel) (by omega) (CP_zero kz_0) (by decide +kernel)
              have hcp := hp212
              rw [show plc (1 : Int32).toInt x2.toInt = 874 + 272 * x2.toInt by unfold plc; rw [if_neg (by omega)], show y209.toInt = 272 by have hl := kz_272; omega] at hcp
              have hRV := (hRD.2 (by omega)).1
              rw [show fr (A192 148) 3 = 0 by rw [(show fr (A192 148) (3) = v197.toInt from congrArg Int32.toInt ev197.symm)]; omega, ← show A192 150 = A192 150 from rfl] at hRV
              have hIz216 : MI f191 A208 := MI_rw hIy193 hIy210 hcp (by omega) (by omega) hRV
              have htp217 := TP_cp htp196 hcp (by omega) (by omega)
              refine pe_iload_n (j := 3) (by decide +kernel) rfl ?_
              exact pe_iret (by decide +kernel) rfl rfl ⟨f191, A208, x2, rfl, hIz216, (fun k n2 n3 n4 n5 n6 n7 n8 n9 => ((hGf191 k n3 n4 n5 n6 n7 n8 n9)).trans (((hGq189 k n3 n4 n5 n6 n7)).trans ((upf_fr ef176 n9).trans ((upf_fr ef175 n8).trans ((upf_fr ef174 n3).trans (upf_fr ef153 n2)))))), (fun k n148 n150 n151 => ((hFA208 k n148)).trans (((hFA192 k n148 n150 n151)).trans ((upa_fr eA183 n150).trans (((hFA177 k n150)).trans ((upa_fr eA157 n148).trans ((upa_fr eA156 n148).trans (upa_fr eA154 n148))))))), ⟨(by omega), htp217, trivial⟩⟩
      · skip
        refine pe_aload_n (j := 0) (by decide +kernel) rfl ?_
        refine pe_get (j := 7) (ci := 12) (n := 0) (by decide +kernel) (by decide +kernel) (md_o hc) rfl ?_
        refine pe_iload_n (j := 1) (by decide +kernel) rfl ?_
        refine pz_iald (by decide +kernel) (md_a148 hc) (mlen_148 hIA157) kz_1 (by omega) (by omega) (fun v218 ev218 => ?_)
        have rv218 : 0 ≤ v218.toInt ∧ v218.toInt ≤ 3 := MT_c1 (mt_148 hIA157 ev218 (by omega)) (by omega)
        refine pe_iload_n (j := 1) (by decide +kernel) rfl ?_
        refine pe_iconstv (n := 2) (v := 2) (by decide +kernel) (by decide +kernel) ?_
        refine pe_iadd (by decide +kernel) ?_
        refine pe_top (v := 3) (by decide +kernel) ?_
        refine pz_icmp_lt (off := 18) (t := 72) (by decide +kernel) (by decide) rfl rfl kz_3 (fun h220 => ?_) (fun h220 => ?_)
        · skip
          refine pe_aload_n (j := 0) (by decide +kernel) rfl ?_
          refine pe_iconstv (n := 0) (v := 0) (by decide +kernel) (by decide +kernel) ?_
          refine mz_put3 (jj := 83) (by decide +kernel) (by decide +kernel) hc hIA157 (by decide +kernel) (by decide +kernel) (fun f221 ef221 hIf221 => ?_)
          refine pe_aload_n (j := 0) (by decide +kernel) rfl ?_
          refine pe_iconstv (n := 0) (v := 0) (by decide +kernel) (by decide +kernel) ?_
          refine mz_put8 (jj := 112) (by decide +kernel) (by decide +kernel) hc hIf221 (by decide +kernel) (by decide +kernel) (by decide +kernel) (fun f222 ef222 hIf222 => ?_)
          refine pe_aload_n (j := 0) (by decide +kernel) rfl ?_
          refine pe_iconstv (n := 0) (v := 0) (by decide +kernel) (by decide +kernel) ?_
          refine mz_put9 (jj := 134) (by decide +kernel) (by decide +kernel) hc hIf222 (fun f223 ef223 hIf223 => ?_)
          refine pe_iconstv (n := 0) (v := 0) (by decide +kernel) (by decide +kernel) ?_
          refine pe_istore_n (j := 3) (ls' := [.ref 147, .int 1, .int x2, .int 0, pm_dead, pm_dead]) (by decide +kernel) (Nat.le_of_ble_eq_true rfl) rfl ?_
          have hq228 : (∀ j : Int, (0) ≤ j → j < ((0 : Int32).toInt) → 0 ≤ ((A157 150).getD j.toNat 0).toInt ∧ ((A157 150).getD j.toNat 0).toInt ≤ 0) := by
            intro j h1 h2
            have hl_x3 := kz_0
            rw [show A157 150 = A 150 from (upa_fr eA157 (by decide)).trans ((upa_fr eA156 (by decide)).trans (upa_fr eA154 (by decide)))]
            first
            | (exfalso; omega)
          refine NL_198_89 hc (by decide +kernel) (by omega) (fun A224 y225 hIy226 hFA224 gy225 hq227 => ?_) 273 A157 0 hIf223 (fun k _ => rfl) (by decide +kernel) hq228 (by decide +kernel)
          refine pe_aload_n (j := 0) (by decide +kernel) rfl ?_
          refine pe_get (j := 17) (ci := 12) (n := 10) (by decide +kernel) (by decide +kernel) (md_o hc) rfl ?_
          refine pe_iconstv (n := 0) (v := 0) (by decide +kernel) (by decide +kernel) ?_
          refine pe_iload_n (j := 1) (by decide +kernel) rfl ?_
          refine pz_if_ne (off := 7) (t := 122) (by decide +kernel) (by decide) rfl kz_1 (fun h229 => ?_) (fun h229 => by omega)
          refine pe_iconstv (n := 0) (v := 0) (by decide +kernel) (by decide +kernel) ?_
          refine mz_st150 (by decide +kernel) hc hIy226 kz_0 (by omega) (by omega) (fun A230 eA230 hIA230 => ?_)
          have htp231 := TP_set (i := 3) htp155 eA156 (by omega) (by omega) (by omega)
          have htp232 := TP_set (i := 4) htp231 eA157 (by omega) (by omega) (by omega)
          have htp233 := TP_fr htp232 ((hFA224 148 (by decide)))
          have htp234 := TP_fr htp233 (upa_fr eA230 (by decide))
          refine pe_aload_n (j := 0) (by decide +kernel) rfl ?_
          have hx235 : (f223 3).toInt = 0 := (congrArg Int32.toInt (show f223 3 = 0 from (upf_fr ef223 (by decide)).trans ((upf_fr ef222 (by decide)).trans (upf_at ef221)))).trans kz_0
          refine pz_callV (j := 127) (mj := 201) (by decide +kernel) (cll_V (args := []) (n := 0) (by decide +kernel) rfl rfl (md_o hc) (by decide +kernel) (Nat.le_of_ble_eq_true rfl) (Nat.le_of_ble_eq_true rfl)) (MM_201 hc hIA230) (fun q236a q236b q236c q236d hqq236 => ?_)
          obtain ⟨f237, eq236, hIq236, hGq236, hX0q236, kq236⟩ := hqq236
          cases eq236
          refine ⟨rfl, rfl, ?_⟩
          have hr_f237_5 := mf_5 hIq236
          have hr_f237_3 := mf_3 hIq236
          show pmE pg X pg_tyl pg_cl (d + 7) 198 128 [.ref 147, .int 1, .int x2, .int y225, pm_dead, pm_dead] [] (md wc f237 A230) _
          have h9 : (f237 9).toInt = 0 := (congrArg Int32.toInt (show f237 9 = 0 from ((hGq236 9 (by decide) (by decide) (by decide) (by decide) (by decide))).trans (upf_at ef223))).trans kz_0
          have h8 : (f237 8).toInt = 0 := (congrArg Int32.toInt (show f237 8 = 0 from ((hGq236 8 (by decide) (by decide) (by decide) (by decide) (by decide))).trans ((upf_fr ef223 (by decide)).trans (upf_at ef222)))).trans kz_0
          have hj : JJ f237 A230 := fun h => absurd h (by omega)
          have hz : ∀ j : Int, 0 ≤ j → j < 272 → 0 ≤ ((A224 150).getD j.toNat 0).toInt ∧ ((A224 150).getD j.toNat 0).toInt ≤ 0 := fun j j0 j1 => hq227 j j0 (by omega)
          have hm := ms_b hIq236
          have hrd : RD (1 : Int32).toInt f237 A230 := ⟨fun h => absurd h (by omega), fun _ => ⟨by rw [upa_at eA230, upa_fr eA230 (by decide : (148 : Nat) ≠ 150)]; exact TR_many (TR_zero hz) (mlen_150 hIy226) (by rw [kz_0]; decide) (by rw [kz_0]; intro _; decide), by rw [upa_at eA230, fr_eq (by decide) (by rw [mlen_150 hIy226]; decide), kz_0]; omega⟩⟩
          refine NL_198_128 hc (by decide +kernel) (by omega) (by omega) (fun f238 A239 hIy240 hGf238 hFA239 hp241 hp242 => ?_) ((8000 - msr f237).toNat + 1) f237 A230 hIq236 (fun k _ _ _ _ _ _ _ => rfl) (fun k _ _ _ => rfl) (TX_refl hj) hrd (Nat.lt_succ_self _)
          have htp243 := TP_tx htp234 hp241
          have hRD := hp242
          refine pe_aload_n (j := 0) (by decide +kernel) rfl ?_
          refine pe_get (j := 7) (ci := 12) (n := 0) (by decide +kernel) (by decide +kernel) (md_o hc) rfl ?_
          refine pe_iconstv (n := 3) (v := 3) (by decide +kernel) (by decide +kernel) ?_
          refine pz_iald (by decide +kernel) (md_a148 hc) (mlen_148 hIy240) kz_3 (by omega) (by omega) (fun v244 ev244 => ?_)
          have lw246 := zi_lo v244
          have uw246 := zi_hi v244
          refine pz_if_ne (off := 29) (t := 195) (by decide +kernel) (by decide) rfl rfl (fun h245 => ?_) (fun h245 => ?_)
          · skip
            refine pe_aload_n (j := 0) (by decide +kernel) rfl ?_
            refine pe_get (j := 7) (ci := 12) (n := 0) (by decide +kernel) (by decide +kernel) (md_o hc) rfl ?_
            refine pe_iconstv (n := 3) (v := 3) (by decide +kernel) (by decide +kernel) ?_
            refine pz_iald (by decide +kernel) (md_a148 hc) (mlen_148 hIy240) kz_3 (by omega) (by omega) (fun v247 ev247 => ?_)
            rw [ev247.trans ev244.symm]
            clear ev247 v247
            refine pz_if_eq (off := 5) (t := 206) (by decide +kernel) (by decide) rfl rfl (fun h248 => by omega) (fun h248 => ?_)
            refine pe_iconstv (n := (-1)) (v := (-1)) (by decide +kernel) (by decide +kernel) ?_
            exact pe_iret (by decide +kernel) rfl rfl ⟨f238, A239, (-1), rfl, hIy240, (fun k n2 n3 n4 n5 n6 n7 n8 n9 => ((hGf238 k n3 n4 n5 n6 n7 n8 n9)).trans (((hGq236 k n3 n4 n5 n6 n7)).trans ((upf_fr ef223 n9).trans ((upf_fr ef222 n8).trans ((upf_fr ef221 n3).trans (upf_fr ef153 n2)))))), (fun k n148 n150 n151 => ((hFA239 k n148 n150 n151)).trans ((upa_fr eA230 n150).trans (((hFA224 k n150)).trans ((upa_fr eA157 n148).trans ((upa_fr eA156 n148).trans (upa_fr eA154 n148)))))), ⟨(by decide +kernel), htp243, trivial⟩⟩
          · skip
            refine pe_iload_n (j := 1) (by decide +kernel) rfl ?_
            refine pz_if_ne (off := 25) (t := 195) (by decide +kernel) (by decide) rfl kz_1 (fun h249 => ?_) (fun h249 => by omega)
            refine pe_aload_n (j := 0) (by decide +kernel) rfl ?_
            refine pe_get (j := 7) (ci := 12) (n := 0) (by decide +kernel) (by decide +kernel) (md_o hc) rfl ?_
            refine pe_iconstv (n := 3) (v := 3) (by decide +kernel) (by decide +kernel) ?_
            refine pz_iald (by decide +kernel) (md_a148 hc) (mlen_148 hIy240) kz_3 (by omega) (by omega) (fun v250 ev250 => ?_)
            rw [ev250.trans ev244.symm]
            clear ev250 v250
            refine pz_if_eq (off := 5) (t := 206) (by decide +kernel) (by decide) rfl rfl (fun h251 => ?_) (fun h251 => by omega)
            have h3 : fr (A239 148) 3 = 0 := by rw [(show fr (A239 148) (3) = v244.toInt from congrArg Int32.toInt ev244.symm)]; omega
            refine pe_iload_n (j := 2) (by decide +kernel) rfl ?_
            refine pe_iconstv (n := (-1)) (v := (-1)) (by decide +kernel) (by decide +kernel) ?_
            refine pz_icmp_ne (off := 12) (t := 220) (by decide +kernel) (by decide) rfl rfl kz_m1 (fun h252 => by omega) (fun h252 => ?_)
            refine pe_aload_n (j := 0) (by decide +kernel) rfl ?_
            refine pe_get (j := 7) (ci := 12) (n := 0) (by decide +kernel) (by decide +kernel) (md_o hc) rfl ?_
            refine pe_iload_n (j := 1) (by decide +kernel) rfl ?_
            refine pz_iald (by decide +kernel) (md_a148 hc) (mlen_148 hIy240) kz_1 (by omega) (by omega) (fun v253 ev253 => ?_)
            have rv253 : 0 ≤ v253.toInt ∧ v253.toInt ≤ 3 := MT_c1 (mt_148 hIy240 ev253 (by omega)) (by omega)
            have hk254 : v253.toInt = v218.toInt := by rw [← (show fr (A239 148) (1) = v253.toInt from congrArg Int32.toInt ev253.symm), hp241.2.1 (1) (by omega) (by omega) (by omega), show A230 148 = A157 148 from (upa_fr eA230 (by decide)).trans ((hFA224 148 (by decide))), (show fr (A157 148) (1) = v218.toInt from congrArg Int32.toInt ev218.symm)]
            refine pe_goto (off := 4) (t := 221) (by decide +kernel) (by decide) rfl ?_
            refine pe_istore_n (j := 3) (ls' := [.ref 147, .int 1, .int x2, .int v253, pm_dead, pm_dead]) (by decide +kernel) (Nat.le_of_ble_eq_true rfl) rfl ?_
            refine pe_iload_n (j := 2) (by decide +kernel) rfl ?_
            refine pe_iconstv (n := (-1)) (v := (-1)) (by decide +kernel) (by decide +kernel) ?_
            refine pz_icmp_ne (off := 13) (t := 237) (by decide +kernel) (by decide) rfl rfl kz_m1 (fun h255 => by omega) (fun h255 => ?_)
            refine pe_aload_n (j := 0) (by decide +kernel) rfl ?_
            refine pe_get (j := 7) (ci := 12) (n := 0) (by decide +kernel) (by decide +kernel) (md_o hc) rfl ?_
            refine pe_iload_n (j := 1) (by decide +kernel) rfl ?_
            refine pe_dup2 (by decide +kernel) ⟨rfl, rfl⟩ ?_
            refine pz_iald (by decide +kernel) (md_a148 hc) (mlen_148 hIy240) kz_1 (by omega) (by omega) (fun v256 ev256 => ?_)
            rw [ev256.trans ev253.symm]
            clear ev256 v256
            refine pe_iconstv (n := 1) (v := 1) (by decide +kernel) (by decide +kernel) ?_
            refine pz_add (by decide +kernel) rfl kz_1 (by omega) (by omega) (fun z257 hz257 => ?_)
            refine mz_st148 (by decide +kernel) hc hIy240 kz_1 (by omega) (by omega) (by simp only [MT]; omega) (fun A258 eA258 hIA258 => ?_)
            refine pe_iload_n (j := 1) (by decide +kernel) rfl ?_
            refine pz_if_ne (off := 9) (t := 247) (by decide +kernel) (by decide) rfl kz_1 (fun h259 => ?_) (fun h259 => by omega)
            refine pe_sipushv (n := 272) (v := 272) (by decide +kernel) (by decide +kernel) ?_
            refine pe_istore (j := 4) (ls' := [.ref 147, .int 1, .int x2, .int v253, .int 272, pm_dead]) (by decide +kernel) (Nat.le_of_ble_eq_true rfl) rfl ?_
            have htp260 := TP_set (i := 1) htp243 eA258 (by omega) (by omega) (by omega)
            refine pe_iconstv (n := 0) (v := 0) (by decide +kernel) (by decide +kernel) ?_
            refine pe_istore (j := 5) (ls' := [.ref 147, .int 1, .int x2, .int v253, .int 272, .int 0]) (by decide +kernel) (Nat.le_of_ble_eq_true rfl) rfl ?_
            have hl267 := kz_272
            have hl268 := kz_0
            refine NL_198_255 hc (by decide +kernel) (by omega) (by omega) (by decide +kernel) (fun A261 y262 hIy263 hFA261 gy262 hx264 hp265 hp266 => ?_) 273 A258 0 (MJ_of hIA258) (fun k _ => rfl) (by decide +kernel) (by omega) (CP_zero kz_0) (by decide +kernel)
            have hcp := hp265
            rw [show plc (1 : Int32).toInt v253.toInt = 874 + 272 * v253.toInt by unfold plc; rw [if_neg (by omega)], show y262.toInt = 272 by have hl := kz_272; omega] at hcp
            have hRV := (hRD.2 (by omega)).1
            rw [show fr (A239 148) 3 = 0 by rw [(show fr (A239 148) (3) = v244.toInt from congrArg Int32.toInt ev244.symm)]; omega, ← show A258 150 = A239 150 from upa_fr eA258 (by decide)] at hRV
            have hIz269 : MI f238 A261 := MI_rw hIA258 hIy263 hcp (by omega) (by omega) hRV
            have htp270 := TP_cp htp260 hcp (by omega) (by omega)
            refine pe_iload_n (j := 3) (by decide +kernel) rfl ?_
            exact pe_iret (by decide +kernel) rfl rfl ⟨f238, A261, v253, rfl, hIz269, (fun k n2 n3 n4 n5 n6 n7 n8 n9 => ((hGf238 k n3 n4 n5 n6 n7 n8 n9)).trans (((hGq236 k n3 n4 n5 n6 n7)).trans ((upf_fr ef223 n9).trans ((upf_fr ef222 n8).trans ((upf_fr ef221 n3).trans (upf_fr ef153 n2)))))), (fun k n148 n150 n151 => ((hFA261 k n148)).trans ((upa_fr eA258 n148).trans (((hFA239 k n148 n150 n151)).trans ((upa_fr eA230 n150).trans (((hFA224 k n150)).trans ((upa_fr eA157 n148).trans ((upa_fr eA156 n148).trans (upa_fr eA154 n148)))))))), ⟨(by omega), htp270, trivial⟩⟩
        · skip
          refine pe_goto (off := 12) (t := 69) (by decide +kernel) (by decide) rfl ?_
          refine pe_bipushv (n := (-2)) (v := (-2)) (by decide +kernel) (by decide +kernel) ?_
          have htp271 := TP_set (i := 3) htp155 eA156 (by omega) (by omega) (by omega)
          have htp272 := TP_set (i := 4) htp271 eA157 (by omega) (by omega) (by omega)
          exact pe_iret (by decide +kernel) rfl rfl ⟨f153, A157, (-2), rfl, hIA157, (fun k n2 n3 n4 n5 n6 n7 n8 n9 => upf_fr ef153 n2), (fun k n148 n150 n151 => (upa_fr eA157 n148).trans ((upa_fr eA156 n148).trans (upa_fr eA154 n148))), ⟨(by decide +kernel), htp272, trivial⟩⟩
    · skip
      refine pe_aload_n (j := 0) (by decide +kernel) rfl ?_
      refine pe_aload_n (j := 0) (by decide +kernel) rfl ?_
      refine pe_get (j := 7) (ci := 12) (n := 0) (by decide +kernel) (by decide +kernel) (md_o hc) rfl ?_
      refine pe_iconstv (n := 2) (v := 2) (by decide +kernel) (by decide +kernel) ?_
      refine pz_iald (by decide +kernel) (md_a148 hc) (mlen_148 hI) kz_2 (by omega) (by omega) (fun v273 ev273 => ?_)
      have rv273 : 0 ≤ v273.toInt ∧ v273.toInt ≤ 600 := MT_c2 (mt_148 hI ev273 (by omega)) (by omega)
      refine mz_put2 (jj := 75) (by decide +kernel) (by decide +kernel) hc hI (by omega) (by omega) (fun f274 ef274 hIf274 => ?_)
      refine pe_aload_n (j := 0) (by decide +kernel) rfl ?_
      refine pe_get (j := 7) (ci := 12) (n := 0) (by decide +kernel) (by decide +kernel) (md_o hc) rfl ?_
      refine pe_iconstv (n := 2) (v := 2) (by decide +kernel) (by decide +kernel) ?_
      refine pe_iconstv (n := 0) (v := 0) (by decide +kernel) (by decide +kernel) ?_
      refine mz_st148 (by decide +kernel) hc hIf274 kz_2 (by omega) (by omega) (by rw [kz_0]; simp only [MT]; omega) (fun A275 eA275 hIA275 => ?_)
      have htp276 := TP_init eA275 (mlen_148 hI) kz_0
      refine pe_aload_n (j := 0) (by decide +kernel) rfl ?_
      refine pe_get (j := 7) (ci := 12) (n := 0) (by decide +kernel) (by decide +kernel) (md_o hc) rfl ?_
      refine pe_iconstv (n := 3) (v := 3) (by decide +kernel) (by decide +kernel) ?_
      refine pe_iconstv (n := 0) (v := 0) (by decide +kernel) (by decide +kernel) ?_
      refine mz_st148 (by decide +kernel) hc hIA275 kz_3 (by omega) (by omega) (by rw [kz_0]; simp only [MT]; omega) (fun A277 eA277 hIA277 => ?_)
      refine pe_aload_n (j := 0) (by decide +kernel) rfl ?_
      refine pe_get (j := 7) (ci := 12) (n := 0) (by decide +kernel) (by decide +kernel) (md_o hc) rfl ?_
      refine pe_iconstv (n := 4) (v := 4) (by decide +kernel) (by decide +kernel) ?_
      refine pe_iconstv (n := (-1)) (v := (-1)) (by decide +kernel) (by decide +kernel) ?_
      refine mz_st148 (by decide +kernel) hc hIA277 kz_4 (by omega) (by omega) (by rw [kz_m1]; simp only [MT]; omega) (fun A278 eA278 hIA278 => ?_)
      refine pe_iload_n (j := 1) (by decide +kernel) rfl ?_
      refine pe_iconstv (n := 0) (v := 0) (by decide +kernel) (by decide +kernel) ?_
      refine pe_iconstv (n := 1) (v := 1) (by decide +kernel) (by decide +kernel) ?_
      refine pi_S (j := 119) (mj := 199) (by decide +kernel) (by decide +kernel) rfl ?_
      show pmE pg X pg_tyl pg_cl (d + 6) 199 0 [.int x1, .int 0, .int 1] [] (md wc f274 A278) _
      refine pe_iload_n (j := 0) (by decide +kernel) rfl ?_
      refine pe_iload_n (j := 1) (by decide +kernel) rfl ?_
      have lw280 := zi_lo x1
      have uw280 := zi_hi x1
      refine pz_icmp_lt (off := 12) (t := 14) (by decide +kernel) (by decide) rfl rfl kz_0 (fun h279 => ?_) (fun h279 => ?_)
      · skip
        refine pe_iconstv (n := 0) (v := 0) (by decide +kernel) (by decide +kernel) ?_
        refine pe_iret (by decide +kernel) rfl rfl ⟨rfl, rfl, ?_⟩
        show pmE pg X pg_tyl pg_cl (d + 7) 198 37 [.ref 147, .int x1, .int x2, pm_dead, pm_dead, pm_dead] [.int 0] (md wc f274 A278) _
        refine pz_if_eq (off := 32) (t := 69) (by decide +kernel) (by decide) rfl kz_0 (fun h281 => ?_) (fun h281 => by omega)
        refine pe_bipushv (n := (-2)) (v := (-2)) (by decide +kernel) (by decide +kernel) ?_
        have htp282 := TP_set (i := 3) htp276 eA277 (by omega) (by omega) (by omega)
        have htp283 := TP_set (i := 4) htp282 eA278 (by omega) (by omega) (by omega)
        exact pe_iret (by decide +kernel) rfl rfl ⟨f274, A278, (-2), rfl, hIA278, (fun k n2 n3 n4 n5 n6 n7 n8 n9 => upf_fr ef274 n2), (fun k n148 n150 n151 => (upa_fr eA278 n148).trans ((upa_fr eA277 n148).trans (upa_fr eA275 n148))), ⟨(by decide +kernel), htp283, trivial⟩⟩
      · skip
        refine pe_iload_n (j := 0) (by decide +kernel) rfl ?_
        refine pe_iload_n (j := 2) (by decide +kernel) rfl ?_
        refine pz_icmp_gt (off := 7) (t := 14) (by decide +kernel) (by decide) rfl rfl kz_1 (fun h284 => ?_) (fun h284 => by omega)
        refine pe_iconstv (n := 0) (v := 0) (by decide +kernel) (by decide +kernel) ?_
        refine pe_iret (by decide +kernel) rfl rfl ⟨rfl, rfl, ?_⟩
        show pmE pg X pg_tyl pg_cl (d + 7) 198 37 [.ref 147, .int x1, .int x2, pm_dead, pm_dead, pm_dead] [.int 0] (md wc f274 A278) _
        refine pz_if_eq (off := 32) (t := 69) (by decide +kernel) (by decide) rfl kz_0 (fun h285 => ?_) (fun h285 => by omega)
        refine pe_bipushv (n := (-2)) (v := (-2)) (by decide +kernel) (by decide +kernel) ?_
        have htp286 := TP_set (i := 3) htp276 eA277 (by omega) (by omega) (by omega)
        have htp287 := TP_set (i := 4) htp286 eA278 (by omega) (by omega) (by omega)
        exact pe_iret (by decide +kernel) rfl rfl ⟨f274, A278, (-2), rfl, hIA278, (fun k n2 n3 n4 n5 n6 n7 n8 n9 => upf_fr ef274 n2), (fun k n148 n150 n151 => (upa_fr eA278 n148).trans ((upa_fr eA277 n148).trans (upa_fr eA275 n148))), ⟨(by decide +kernel), htp287, trivial⟩⟩
